theorem dX7_in_0 : decode cX7_in 0 = .ok (.lload_n 0, 1) := by decide +kernel
theorem dX7_in_1 : decode cX7_in 1 = .ok (.lload_n 2, 1) := by decide +kernel
theorem dX7_in_2 : decode cX7_in 2 = .ok (.lcmp, 1) := by decide +kernel
theorem dX7_in_3 : decode cX7_in 3 = .ok (.ifCond .lt 14, 3) := by decide +kernel
theorem dX7_in_6 : decode cX7_in 6 = .ok (.lload_n 0, 1) := by decide +kernel
theorem dX7_in_7 : decode cX7_in 7 = .ok (.lload 4, 2) := by decide +kernel
theorem dX7_in_9 : decode cX7_in 9 = .ok (.lcmp, 1) := by decide +kernel
theorem dX7_in_10 : decode cX7_in 10 = .ok (.ifCond .gt 7, 3) := by decide +kernel
theorem dX7_in_13 : decode cX7_in 13 = .ok (.iconst 1, 1) := by decide +kernel
theorem dX7_in_14 : decode cX7_in 14 = .ok (.goto 4, 3) := by decide +kernel
theorem dX7_in_17 : decode cX7_in 17 = .ok (.iconst 0, 1) := by decide +kernel
theorem dX7_in_18 : decode cX7_in 18 = .ok (.ireturn, 1) := by decide +kernel
def wz_X7_in : List Cond := .code yX7_in cX7_in 6 (some .boolean) :: ([])
set_option maxHeartbeats 4000000 in
set_option maxRecDepth 100000 in
theorem c_X7_in (l : Launch) (dC : Nat → ClassId) (dI : Nat → Nat → Nat) (sz : Nat) (p0 : Int64) (p1 : Int64) (p2 : Int64) (zv : Int) (zlo : Int) (zhi : Int) (hv : p0.toInt = zv) (hlo : p1.toInt = zlo) (hhi : p2.toInt = zhi) : Met l yX7_in wz_X7_in ({ frames := 0, cells := 0, slots := 0, locals := 0 }) (va_Pc [.long p0, .long p1, .long p2] (fun U => U.heap.size = sz ∧ va_P (dC, dI) vwCl [] U.heap ∧ va_K (dC, dI) vwCl [] U ∧ va_D (fun _ => True) [])) (va_Qi (fun (r : Int32) (u : Unit) => r = if zlo ≤ zv ∧ zv ≤ zhi then 1 else 0) (fun (_ : Unit) (_ : State) => True) (va_A [] sz)) 0 0 (va_A [] sz) := by
  refine Met.ofW (cc := cX7_in) (maxL := 6) (ret := (some .boolean)) (by decide) rfl ?_
  intro p e s m args below meth c s₁ B hml hv
  obtain ⟨rfl, hsz, hP, hK, hD0⟩ := hv
  have hx := B.exec
  have hb := B.bytes
  have hr := B.returns
  have hts := atoms_spec (ws := wz_X7_in) B.pre
  have hown : s.vm.findClass RX7 = some m.cls := findClass_of_methodNamed B.named
  have hlocks := B.notSynchronized
  subst hsz
  have hD := hD0.self (sz := s.heap.size)
  generalize hAe : va_A [] s.heap.size = A at hD ⊢
  have hA : ∀ q : Nat, s.heap.size ≤ q → A q := fun q h => by rw [← hAe]; exact Or.inr h
  have hS : va_S A s.heap s.heap [] := va_S.rf
  have hP : va_P (dC, dI) vwCl [] s.heap := hP
  have hl := lv_entry ([.long p0, .long p1, .long p2]) (n := 6) (Nat.le_of_ble_eq_true rfl)
  rw [lg_entry_eq]
  generalize (lg_sl ([.long p0, .long p1, .long p2]) ++ List.replicate (6 - (lg_sl ([.long p0, .long p1, .long p2])).length) Slot.unset).toArray = ls at hl ⊢
  have hl : lv_has ls 6 [(0, .long p0), (2, .long p1), (4, .long p2)] := hl
  refine lv_lload_n hx hb dX7_in_0 rfl (lv_at hl 0 rfl) ?_
  refine lv_lload_n hx hb dX7_in_1 rfl (lv_at hl 1 rfl) ?_
  refine W.lcmp hx hb dX7_in_2 ?_
  refine lv_if_lt (tgt := 17) hx hb dX7_in_3 (by decide) (fun c_1 => ?_) (fun c_1 => ?_)
  · have c_1 := (lg_cmp_lt p0 p1).mp c_1
    have c_1 : zv < zlo := i_ltL (a := p0) (b := p1) hv hlo c_1
    refine lv_iconst (v := 0) hx hb dX7_in_17 (by decide) ?_
    refine W.widen (k := 0) (n := 0) (by omega) (by omega) ?_
    exact W.zret (v := 0) hx hb hr (by decide) (fun t ht hW => ⟨⟨0, (), rfl, (by first | rfl | ((repeat' split) <;> (first | rfl | (exfalso; omega)))), trivial⟩, hS.F ht⟩) hS.2.2 dX7_in_18
  · have c_1 := fun h => c_1 ((lg_cmp_lt p0 p1).mpr h)
    have c_1 : zlo ≤ zv := i_nltL (a := p0) (b := p1) hv hlo c_1
    refine lv_lload_n hx hb dX7_in_6 rfl (lv_at hl 0 rfl) ?_
    refine lv_lload hx hb dX7_in_7 (lv_at hl 2 rfl) ?_
    refine W.lcmp hx hb dX7_in_9 ?_
    refine lv_if_gt (tgt := 17) hx hb dX7_in_10 (by decide) (fun c_2 => ?_) (fun c_2 => ?_)
    · have c_2 := (lg_cmp_gt p0 p2).mp c_2
      have c_2 : zhi < zv := i_ltL (a := p2) (b := p0) hhi hv c_2
      refine lv_iconst (v := 0) hx hb dX7_in_17 (by decide) ?_
      refine W.widen (k := 0) (n := 0) (by omega) (by omega) ?_
      exact W.zret (v := 0) hx hb hr (by decide) (fun t ht hW => ⟨⟨0, (), rfl, (by first | rfl | ((repeat' split) <;> (first | rfl | (exfalso; omega)))), trivial⟩, hS.F ht⟩) hS.2.2 dX7_in_18
    · have c_2 := fun h => c_2 ((lg_cmp_gt p0 p2).mpr h)
      have c_2 : zv ≤ zhi := i_nltL (a := p2) (b := p0) hhi hv c_2
      refine lv_iconst (v := 1) hx hb dX7_in_13 (by decide) ?_
      refine lv_goto (tgt := 18) hx hb dX7_in_14 (by decide) ?_
      refine W.widen (k := 0) (n := 0) (by omega) (by omega) ?_
      exact W.zret (v := 1) hx hb hr (by decide) (fun t ht hW => ⟨⟨1, (), rfl, (by first | rfl | ((repeat' split) <;> (first | rfl | (exfalso; omega)))), trivial⟩, hS.F ht⟩) hS.2.2 dX7_in_18

theorem dX7_isSlot_0 : decode cX7_isSlot 0 = .ok (.iload_n 0, 1) := by decide +kernel
theorem dX7_isSlot_1 : decode cX7_isSlot 1 = .ok (.i2l, 1) := by decide +kernel
theorem dX7_isSlot_2 : decode cX7_isSlot 2 = .ok (.lconst 0, 1) := by decide +kernel
theorem dX7_isSlot_3 : decode cX7_isSlot 3 = .ok (.ldc2_w 83, 3) := by decide +kernel
theorem dX7_isSlot_6 : decode cX7_isSlot 6 = .ok (.invokestatic 85, 3) := by decide +kernel
theorem dX7_isSlot_9 : decode cX7_isSlot 9 = .ok (.ireturn, 1) := by decide +kernel
def wz_X7_isSlot : List Cond := .code yX7_isSlot cX7_isSlot 1 (some .boolean) :: ([Cond.constantLong RX7 83 (3), Cond.methodLink RX7 85 yX7_in, Cond.static yX7_in, Cond.initialized RX7, Cond.code yX7_in cX7_in 6 (some .boolean)])
theorem wd_X7_isSlot_0 : Cond.constantLong RX7 83 (3) ∈ wz_X7_isSlot := List.mem_of_getElem? (i := 1) rfl
set_option maxRecDepth 20000 in
theorem g_X7_isSlot_X7_in : GoodIn wz_X7_isSlot (va_wsS RX7 85 yX7_in wz_X7_in) := goodIn_r _ [2, 3, 4, 5] rfl (by decide +kernel)
set_option maxHeartbeats 4000000 in
set_option maxRecDepth 100000 in
theorem c_X7_isSlot (l : Launch) (dC : Nat → ClassId) (dI : Nat → Nat → Nat) (sz : Nat) (p0 : Int32)  : Met l yX7_isSlot wz_X7_isSlot ({ frames := 1, cells := 0, slots := 0, locals := 25 }) (va_Pc [.int p0] (fun U => U.heap.size = sz ∧ va_P (dC, dI) vwCl [] U.heap ∧ va_K (dC, dI) vwCl [] U ∧ va_D (fun _ => True) [])) (va_Qi (fun (r : Int32) (u : Unit) => r = if 0 ≤ p0.toInt ∧ p0.toInt ≤ 3 then 1 else 0) (fun (_ : Unit) (_ : State) => True) (va_A [] sz)) 0 0 (va_A [] sz) := by
  refine Met.ofW (cc := cX7_isSlot) (maxL := 1) (ret := (some .boolean)) (by decide) rfl ?_
  intro p e s m args below meth c s₁ B hml hv
  obtain ⟨rfl, hsz, hP, hK, hD0⟩ := hv
  have hx := B.exec
  have hb := B.bytes
  have hr := B.returns
  have hts := atoms_spec (ws := wz_X7_isSlot) B.pre
  have hown : s.vm.findClass RX7 = some m.cls := findClass_of_methodNamed B.named
  have hlocks := B.notSynchronized
  subst hsz
  have hD := hD0.self (sz := s.heap.size)
  generalize hAe : va_A [] s.heap.size = A at hD ⊢
  have hA : ∀ q : Nat, s.heap.size ≤ q → A q := fun q h => by rw [← hAe]; exact Or.inr h
  have hS : va_S A s.heap s.heap [] := va_S.rf
  have hP : va_P (dC, dI) vwCl [] s.heap := hP
  have hl := lv_entry ([.int p0]) (n := 1) (Nat.le_of_ble_eq_true rfl)
  rw [lg_entry_eq]
  generalize (lg_sl ([.int p0]) ++ List.replicate (1 - (lg_sl ([.int p0])).length) Slot.unset).toArray = ls at hl ⊢
  have hl : lv_has ls 1 [(0, .int p0)] := hl
  refine lv_iload_n hx hb dX7_isSlot_0 rfl (lv_at hl 0 rfl) ?_
  refine lv_i2l (v := p0.toInt64) hx hb dX7_isSlot_1 rfl ?_
  refine lv_lconst (v := 0) hx hb dX7_isSlot_2 (by decide) ?_
  refine lv_ldc2 hx hb hown (hts _ wd_X7_isSlot_0) dX7_isSlot_3 ?_
  have hPc := hP.sub (ws' := []) [] rfl
  have hDc := hD.sub (ws' := []) [] (by decide) rfl
  have hKc := hK.sub (tys' := []) [] rfl
  have hFc := va_free (wc := []) hD hS hA [] rfl
  refine va_calli (va_runS (As := [.long p0.toInt64, .long 0, .long 3]) (rest := []) ⟨hx, hb, hml, hown, hts⟩ (c_X7_in l dC dI s.heap.size p0.toInt64 ((0 : Int64)) ((3 : Int64)) p0.toInt ((0 : Int)) ((3 : Int)) ((i_wide rfl)) ((by decide)) ((by decide))) (va_cwS 3 hts g_X7_isSlot_X7_in rfl rfl rfl (by decide +kernel) ⟨Nat.le_of_ble_eq_true rfl, Nat.le_of_ble_eq_true rfl⟩) ⟨fun a U g mk q => by obtain ⟨q0, q1, qP, qK, qD⟩ := q; exact ⟨q0, q1, qP, va_K.moved (u := U) (U := U.calling g mk a) (Vm.Alike.refl U.vm) qK, qD⟩, fun U hU hW => ⟨rfl, by rw [hU], by rw [hU]; exact hPc, va_K.moved hW.alike hKc, hDc.weaken (fun _ _ _ _ => trivial)⟩⟩ rfl rfl hl.1 rfl (lv_room (Nat.le_of_ble_eq_true rfl)) dX7_isSlot_6 ⟨Nat.le_of_ble_eq_true rfl, Nat.le_of_ble_eq_true rfl⟩) hS (fun q _ h => hFc q h) hFc (fun r_1 u t H1 locs ht hvm hw_2 hB hz1 hk1 hS => ?_)
  have hP1 : va_P (dC, dI) vwCl [] H1 := i_nilP
  have hD1 : va_D (va_A [] s.heap.size) [] := i_nilD
  try dsimp only at hw_2
  obtain ⟨hP, hD⟩ := va_join (wr := []) (w1 := []) hP hD [] [] rfl rfl (by decide) (by decide) hk1 hFc hP1 hD1
  generalize H1 = H at hP hS ⊢
  have hP : va_P (dC, dI) vwCl [] H := hP
  have hD : va_D A [] := hD
  rcases i_bool hw_2 with ⟨r_19, hC⟩ | ⟨r_19, hC⟩
  · obtain rfl : r_1 = 1 := r_19
    have hC_3 := hC
    refine W.widen (k := 0) (n := 0) (by omega) (by omega) ?_
    exact W.zret (v := 1) hx hb hr (by decide) (fun t ht hW => ⟨⟨1, (), rfl, (by first | rfl | ((repeat' split) <;> (first | rfl | (exfalso; omega)))), trivial⟩, hS.F ht⟩) hS.2.2 dX7_isSlot_9
  · obtain rfl : r_1 = 0 := r_19
    have hC_4 := hC
    refine W.widen (k := 0) (n := 0) (by omega) (by omega) ?_
    exact W.zret (v := 0) hx hb hr (by decide) (fun t ht hW => ⟨⟨0, (), rfl, (by first | rfl | ((repeat' split) <;> (first | rfl | (exfalso; omega)))), trivial⟩, hS.F ht⟩) hS.2.2 dX7_isSlot_9

theorem dX7_cut_0 : decode cX7_cut 0 = .ok (.iload_n 2, 1) := by decide +kernel
theorem dX7_cut_1 : decode cX7_cut 1 = .ok (.ifCond .ne 10, 3) := by decide +kernel
theorem dX7_cut_4 : decode cX7_cut 4 = .ok (.lload_n 0, 1) := by decide +kernel
theorem dX7_cut_5 : decode cX7_cut 5 = .ok (.l2i, 1) := by decide +kernel
theorem dX7_cut_6 : decode cX7_cut 6 = .ok (.i2b, 1) := by decide +kernel
theorem dX7_cut_7 : decode cX7_cut 7 = .ok (.i2l, 1) := by decide +kernel
theorem dX7_cut_8 : decode cX7_cut 8 = .ok (.goto 27, 3) := by decide +kernel
theorem dX7_cut_11 : decode cX7_cut 11 = .ok (.iload_n 2, 1) := by decide +kernel
theorem dX7_cut_12 : decode cX7_cut 12 = .ok (.iconst 1, 1) := by decide +kernel
theorem dX7_cut_13 : decode cX7_cut 13 = .ok (.if_icmp .ne 10, 3) := by decide +kernel
theorem dX7_cut_16 : decode cX7_cut 16 = .ok (.lload_n 0, 1) := by decide +kernel
theorem dX7_cut_17 : decode cX7_cut 17 = .ok (.l2i, 1) := by decide +kernel
theorem dX7_cut_18 : decode cX7_cut 18 = .ok (.i2s, 1) := by decide +kernel
theorem dX7_cut_19 : decode cX7_cut 19 = .ok (.i2l, 1) := by decide +kernel
theorem dX7_cut_20 : decode cX7_cut 20 = .ok (.goto 15, 3) := by decide +kernel
theorem dX7_cut_23 : decode cX7_cut 23 = .ok (.iload_n 2, 1) := by decide +kernel
theorem dX7_cut_24 : decode cX7_cut 24 = .ok (.iconst 2, 1) := by decide +kernel
theorem dX7_cut_25 : decode cX7_cut 25 = .ok (.if_icmp .ne 9, 3) := by decide +kernel
theorem dX7_cut_28 : decode cX7_cut 28 = .ok (.lload_n 0, 1) := by decide +kernel
theorem dX7_cut_29 : decode cX7_cut 29 = .ok (.l2i, 1) := by decide +kernel
theorem dX7_cut_30 : decode cX7_cut 30 = .ok (.i2l, 1) := by decide +kernel
theorem dX7_cut_31 : decode cX7_cut 31 = .ok (.goto 4, 3) := by decide +kernel
theorem dX7_cut_34 : decode cX7_cut 34 = .ok (.lload_n 0, 1) := by decide +kernel
theorem dX7_cut_35 : decode cX7_cut 35 = .ok (.lreturn, 1) := by decide +kernel
def wz_X7_cut : List Cond := .code yX7_cut cX7_cut 3 (some .long) :: ([])
set_option maxHeartbeats 4000000 in
set_option maxRecDepth 100000 in
theorem c_X7_cut (l : Launch) (dC : Nat → ClassId) (dI : Nat → Nat → Nat) (sz : Nat) (p0 : Int64) (p1 : Int32)  : Met l yX7_cut wz_X7_cut ({ frames := 0, cells := 0, slots := 0, locals := 0 }) (va_Pc [.long p0, .int p1] (fun U => U.heap.size = sz ∧ va_P (dC, dI) vwCl [] U.heap ∧ va_K (dC, dI) vwCl [] U ∧ va_D (fun _ => True) [])) (va_Ql (fun (r : Int64) (u : Unit) => True) (fun (_ : Unit) (_ : State) => True) (va_A [] sz)) 0 0 (va_A [] sz) := by
  refine Met.ofW (cc := cX7_cut) (maxL := 3) (ret := (some .long)) (by decide) rfl ?_
  intro p e s m args below meth c s₁ B hml hv
  obtain ⟨rfl, hsz, hP, hK, hD0⟩ := hv
  have hx := B.exec
  have hb := B.bytes
  have hr := B.returns
  have hts := atoms_spec (ws := wz_X7_cut) B.pre
  have hown : s.vm.findClass RX7 = some m.cls := findClass_of_methodNamed B.named
  have hlocks := B.notSynchronized
  subst hsz
  have hD := hD0.self (sz := s.heap.size)
  generalize hAe : va_A [] s.heap.size = A at hD ⊢
  have hA : ∀ q : Nat, s.heap.size ≤ q → A q := fun q h => by rw [← hAe]; exact Or.inr h
  have hS : va_S A s.heap s.heap [] := va_S.rf
  have hP : va_P (dC, dI) vwCl [] s.heap := hP
  have hl := lv_entry ([.long p0, .int p1]) (n := 3) (Nat.le_of_ble_eq_true rfl)
  rw [lg_entry_eq]
  generalize (lg_sl ([.long p0, .int p1]) ++ List.replicate (3 - (lg_sl ([.long p0, .int p1])).length) Slot.unset).toArray = ls at hl ⊢
  have hl : lv_has ls 3 [(0, .long p0), (2, .int p1)] := hl
  refine lv_iload_n hx hb dX7_cut_0 rfl (lv_at hl 1 rfl) ?_
  refine lv_if_ne (tgt := 11) hx hb dX7_cut_1 (by decide) (fun c_1 => ?_) (fun c_1 => ?_)
  · have c_1 : p1.toInt ≠ 0 := i_ne (a := p1) (b := 0) rfl (by decide) c_1
    refine lv_iload_n hx hb dX7_cut_11 rfl (lv_at hl 1 rfl) ?_
    refine lv_iconst (v := 1) hx hb dX7_cut_12 (by decide) ?_
    refine lv_icmp_ne (tgt := 23) hx hb dX7_cut_13 (by decide) (fun c_2 => ?_) (fun c_2 => ?_)
    · have c_2 : p1.toInt ≠ 1 := i_ne (a := p1) (b := 1) rfl (by decide) c_2
      refine lv_iload_n hx hb dX7_cut_23 rfl (lv_at hl 1 rfl) ?_
      refine lv_iconst (v := 2) hx hb dX7_cut_24 (by decide) ?_
      refine lv_icmp_ne (tgt := 34) hx hb dX7_cut_25 (by decide) (fun c_3 => ?_) (fun c_3 => ?_)
      · have c_3 : p1.toInt ≠ 2 := i_ne (a := p1) (b := 2) rfl (by decide) c_3
        refine lv_lload_n hx hb dX7_cut_34 rfl (lv_at hl 0 rfl) ?_
        refine W.widen (k := 0) (n := 0) (by omega) (by omega) ?_
        exact W.lret (v := p0) hx hb hr (fun t ht hW => ⟨⟨p0, (), rfl, trivial, trivial⟩, hS.F ht⟩) hS.2.2 dX7_cut_35
      · have c_3 : p1.toInt = 2 := i_eq (a := p1) (b := 2) rfl (by decide) c_3
        refine lv_lload_n hx hb dX7_cut_28 rfl (lv_at hl 0 rfl) ?_
        refine lv_l2i (v := p0.toInt32) hx hb dX7_cut_29 rfl ?_
        refine lv_topi (fun x_4 ex_4 => ?_)
        refine lv_i2l (v := x_4.toInt64) hx hb dX7_cut_30 rfl ?_
        refine lv_goto (tgt := 35) hx hb dX7_cut_31 (by decide) ?_
        refine W.widen (k := 0) (n := 0) (by omega) (by omega) ?_
        exact W.lret (v := x_4.toInt64) hx hb hr (fun t ht hW => ⟨⟨x_4.toInt64, (), rfl, trivial, trivial⟩, hS.F ht⟩) hS.2.2 dX7_cut_35
    · have c_2 : p1.toInt = 1 := i_eq (a := p1) (b := 1) rfl (by decide) c_2
      refine lv_lload_n hx hb dX7_cut_16 rfl (lv_at hl 0 rfl) ?_
      refine lv_l2i (v := p0.toInt32) hx hb dX7_cut_17 rfl ?_
      refine lv_topi (fun x_5 ex_5 => ?_)
      refine lv_i2s (v := x_5.toInt16.toInt32) hx hb dX7_cut_18 rfl ?_
      refine lv_topi (fun x_6 ex_6 => ?_)
      refine lv_i2l (v := x_6.toInt64) hx hb dX7_cut_19 rfl ?_
      refine lv_goto (tgt := 35) hx hb dX7_cut_20 (by decide) ?_
      refine W.widen (k := 0) (n := 0) (by omega) (by omega) ?_
      exact W.lret (v := x_6.toInt64) hx hb hr (fun t ht hW => ⟨⟨x_6.toInt64, (), rfl, trivial, trivial⟩, hS.F ht⟩) hS.2.2 dX7_cut_35
  · have c_1 : p1.toInt = 0 := i_eq (a := p1) (b := 0) rfl (by decide) c_1
    refine lv_lload_n hx hb dX7_cut_4 rfl (lv_at hl 0 rfl) ?_
    refine lv_l2i (v := p0.toInt32) hx hb dX7_cut_5 rfl ?_
    refine lv_topi (fun x_7 ex_7 => ?_)
    refine lv_i2b (v := x_7.toInt8.toInt32) hx hb dX7_cut_6 rfl ?_
    refine lv_topi (fun x_8 ex_8 => ?_)
    refine lv_i2l (v := x_8.toInt64) hx hb dX7_cut_7 rfl ?_
    refine lv_goto (tgt := 35) hx hb dX7_cut_8 (by decide) ?_
    refine W.widen (k := 0) (n := 0) (by omega) (by omega) ?_
    exact W.lret (v := x_8.toInt64) hx hb hr (fun t ht hW => ⟨⟨x_8.toInt64, (), rfl, trivial, trivial⟩, hS.F ht⟩) hS.2.2 dX7_cut_35

theorem dX7_row_0 : decode cX7_row 0 = .ok (.aload_n 0, 1) := by decide +kernel
theorem dX7_row_1 : decode cX7_row 1 = .ok (.iconst 0, 1) := by decide +kernel
theorem dX7_row_2 : decode cX7_row 2 = .ok (.putfield 80, 3) := by decide +kernel
theorem dX7_row_5 : decode cX7_row 5 = .ok (.iload_n 1, 1) := by decide +kernel
theorem dX7_row_6 : decode cX7_row 6 = .ok (.invokestatic 89, 3) := by decide +kernel
theorem dX7_row_9 : decode cX7_row 9 = .ok (.ifCond .eq 21, 3) := by decide +kernel
theorem dX7_row_12 : decode cX7_row 12 = .ok (.iload_n 2, 1) := by decide +kernel
theorem dX7_row_13 : decode cX7_row 13 = .ok (.i2l, 1) := by decide +kernel
theorem dX7_row_14 : decode cX7_row 14 = .ok (.lconst 0, 1) := by decide +kernel
theorem dX7_row_15 : decode cX7_row 15 = .ok (.ldc2_w 83, 3) := by decide +kernel
theorem dX7_row_18 : decode cX7_row 18 = .ok (.invokestatic 85, 3) := by decide +kernel
theorem dX7_row_21 : decode cX7_row 21 = .ok (.ifCond .eq 9, 3) := by decide +kernel
theorem dX7_row_24 : decode cX7_row 24 = .ok (.iload_n 3, 1) := by decide +kernel
theorem dX7_row_25 : decode cX7_row 25 = .ok (.bipush 60, 2) := by decide +kernel
theorem dX7_row_27 : decode cX7_row 27 = .ok (.if_icmp .le 6, 3) := by decide +kernel
theorem dX7_row_30 : decode cX7_row 30 = .ok (.bipush (-2), 2) := by decide +kernel
theorem dX7_row_32 : decode cX7_row 32 = .ok (.ireturn, 1) := by decide +kernel
theorem dX7_row_33 : decode cX7_row 33 = .ok (.iload_n 3, 1) := by decide +kernel
theorem dX7_row_34 : decode cX7_row 34 = .ok (.ifCond .ge 6, 3) := by decide +kernel
theorem dX7_row_37 : decode cX7_row 37 = .ok (.bipush (-3), 2) := by decide +kernel
theorem dX7_row_39 : decode cX7_row 39 = .ok (.ireturn, 1) := by decide +kernel
theorem dX7_row_40 : decode cX7_row 40 = .ok (.aload_n 0, 1) := by decide +kernel
theorem dX7_row_41 : decode cX7_row 41 = .ok (.getfield 7, 3) := by decide +kernel
theorem dX7_row_44 : decode cX7_row 44 = .ok (.iload_n 1, 1) := by decide +kernel
theorem dX7_row_45 : decode cX7_row 45 = .ok (.iload_n 2, 1) := by decide +kernel
theorem dX7_row_46 : decode cX7_row 46 = .ok (.iastore, 1) := by decide +kernel
theorem dX7_row_47 : decode cX7_row 47 = .ok (.aload_n 0, 1) := by decide +kernel
theorem dX7_row_48 : decode cX7_row 48 = .ok (.getfield 13, 3) := by decide +kernel
theorem dX7_row_51 : decode cX7_row 51 = .ok (.iload_n 1, 1) := by decide +kernel
theorem dX7_row_52 : decode cX7_row 52 = .ok (.iload_n 3, 1) := by decide +kernel
theorem dX7_row_53 : decode cX7_row 53 = .ok (.iastore, 1) := by decide +kernel
theorem dX7_row_54 : decode cX7_row 54 = .ok (.iconst 0, 1) := by decide +kernel
theorem dX7_row_55 : decode cX7_row 55 = .ok (.istore 4, 2) := by decide +kernel
theorem dX7_row_57 : decode cX7_row 57 = .ok (.iload 4, 2) := by decide +kernel
theorem dX7_row_59 : decode cX7_row 59 = .ok (.iload_n 3, 1) := by decide +kernel
theorem dX7_row_60 : decode cX7_row 60 = .ok (.if_icmp .ge 22, 3) := by decide +kernel
theorem dX7_row_63 : decode cX7_row 63 = .ok (.aload_n 0, 1) := by decide +kernel
theorem dX7_row_64 : decode cX7_row 64 = .ok (.getfield 16, 3) := by decide +kernel
theorem dX7_row_67 : decode cX7_row 67 = .ok (.bipush 60, 2) := by decide +kernel
theorem dX7_row_69 : decode cX7_row 69 = .ok (.iload_n 1, 1) := by decide +kernel
theorem dX7_row_70 : decode cX7_row 70 = .ok (.imul, 1) := by decide +kernel
theorem dX7_row_71 : decode cX7_row 71 = .ok (.iload 4, 2) := by decide +kernel
theorem dX7_row_73 : decode cX7_row 73 = .ok (.iadd, 1) := by decide +kernel
theorem dX7_row_74 : decode cX7_row 74 = .ok (.lconst 0, 1) := by decide +kernel
theorem dX7_row_75 : decode cX7_row 75 = .ok (.lastore, 1) := by decide +kernel
theorem dX7_row_76 : decode cX7_row 76 = .ok (.iinc 4 1, 3) := by decide +kernel
theorem dX7_row_79 : decode cX7_row 79 = .ok (.goto (-22), 3) := by decide +kernel
theorem dX7_row_82 : decode cX7_row 82 = .ok (.iconst 0, 1) := by decide +kernel
theorem dX7_row_83 : decode cX7_row 83 = .ok (.ireturn, 1) := by decide +kernel
def wz_X7_row : List Cond := .code yX7_row cX7_row 5 (some .int) :: ([Cond.fieldLink RX7 80 "HedgeMazeModel" "thrown" "I", Cond.constantLong RX7 83 (3), Cond.fieldLink RX7 7 "HedgeMazeModel" "width" "[I", Cond.fieldLink RX7 13 "HedgeMazeModel" "many" "[I", Cond.fieldLink RX7 16 "HedgeMazeModel" "cells" "[J", Cond.methodLink RX7 89 yX7_isSlot, Cond.static yX7_isSlot, Cond.initialized RX7, Cond.code yX7_isSlot cX7_isSlot 1 (some .boolean), Cond.methodLink RX7 85 yX7_in, Cond.static yX7_in, Cond.code yX7_in cX7_in 6 (some .boolean)] ++ wsX70)
theorem wd_X7_row_0 : Cond.fieldLink RX7 80 "HedgeMazeModel" "thrown" "I" ∈ wz_X7_row := List.mem_of_getElem? (i := 1) rfl
theorem wd_X7_row_1 : Cond.constantLong RX7 83 (3) ∈ wz_X7_row := List.mem_of_getElem? (i := 2) rfl
theorem wd_X7_row_2 : Cond.fieldLink RX7 7 "HedgeMazeModel" "width" "[I" ∈ wz_X7_row := List.mem_of_getElem? (i := 3) rfl
theorem wd_X7_row_3 : Cond.fieldLink RX7 13 "HedgeMazeModel" "many" "[I" ∈ wz_X7_row := List.mem_of_getElem? (i := 4) rfl
theorem wd_X7_row_4 : Cond.fieldLink RX7 16 "HedgeMazeModel" "cells" "[J" ∈ wz_X7_row := List.mem_of_getElem? (i := 5) rfl
theorem in_X7_row_X7 : ∀ w ∈ wsX70, w ∈ wz_X7_row := fun _ h => List.mem_cons_of_mem _ (List.mem_append_right _ h)
set_option maxRecDepth 20000 in
theorem g_X7_row_X7_isSlot : GoodIn wz_X7_row (va_wsS RX7 89 yX7_isSlot wz_X7_isSlot) := goodIn_r _ [6, 7, 8, 9, 2, 10, 11, 8, 12] rfl (by decide +kernel)
set_option maxRecDepth 20000 in
theorem g_X7_row_X7_in : GoodIn wz_X7_row (va_wsS RX7 85 yX7_in wz_X7_in) := goodIn_r _ [10, 11, 8, 12] rfl (by decide +kernel)
set_option maxHeartbeats 4000000 in
set_option maxRecDepth 100000 in
theorem c_X7_row (l : Launch) (dC : Nat → ClassId) (dI : Nat → Nat → Nat) (sz : Nat) (mz : Nat) (mth : Int32) (mq1 : Nat) (mq2 : Nat) (mq3 : Nat) (mq4 : Nat) (mq5 : Nat) (mtd : Int32) (mat : Int32) (mtk : Int32) (mpl : Int32) (mva : Int32) (mwd : Int64) (mbd : Int32) (mbp : Int32) (mft : Int32) (mfp : Int32) (mq16 : Nat) (mq17 : Nat) (mq18 : Nat) (mq19 : Nat) (mq20 : Nat) (mq21 : Nat) (mlt : Int32) (mq23 : Nat) (mq24 : Nat) (mq25 : Nat) (msd : Int32) (mq27 : Nat) (mq28 : Nat) (mq29 : Nat) (mq30 : Nat) (mq31 : Nat) (mq32 : Nat) (mlr : Int32) (mst : Int32) (mob : Int64) (msb : Int64) (mq37 : Nat) (mln : Int32) (mk1 : ClassId) (mf1 : Nat → Int32) (mk2 : ClassId) (mf2 : Nat → Int32) (mk3 : ClassId) (mf3 : Nat → Int64) (p0 : Int32) (p1 : Int32) (p2 : Int32) (hR_mq2 : RG mf2 4 0 60) : Met l yX7_row wz_X7_row ({ frames := 2, cells := 0, slots := 0, locals := 45 }) (va_Pc [.ref mz, .int p0, .int p1, .int p2] (fun U => U.heap.size = sz ∧ va_P (dC, dI) vwCl [(mz, .inr (7, [.int mth, .ref mq1, .ref mq2, .ref mq3, .ref mq4, .ref mq5, .int mtd, .int mat, .int mtk, .int mpl, .int mva, .long mwd, .int mbd, .int mbp, .int mft, .int mfp, .ref mq16, .ref mq17, .ref mq18, .ref mq19, .ref mq20, .ref mq21, .int mlt, .ref mq23, .ref mq24, .ref mq25, .int msd, .ref mq27, .ref mq28, .ref mq29, .ref mq30, .ref mq31, .ref mq32, .int mlr, .int mst, .long mob, .long msb, .ref mq37, .int mln])), (mq1, .inl (mk1, 4, .inl mf1)), (mq2, .inl (mk2, 4, .inl mf2)), (mq3, .inl (mk3, 240, .inr (.inl mf3)))] U.heap ∧ va_K (dC, dI) vwCl [(mk1, .int), (mk2, .int), (mk3, .long)] U ∧ va_D (fun _ => True) [(mz, .inr (7, [.int mth, .ref mq1, .ref mq2, .ref mq3, .ref mq4, .ref mq5, .int mtd, .int mat, .int mtk, .int mpl, .int mva, .long mwd, .int mbd, .int mbp, .int mft, .int mfp, .ref mq16, .ref mq17, .ref mq18, .ref mq19, .ref mq20, .ref mq21, .int mlt, .ref mq23, .ref mq24, .ref mq25, .int msd, .ref mq27, .ref mq28, .ref mq29, .ref mq30, .ref mq31, .ref mq32, .int mlr, .int mst, .long mob, .long msb, .ref mq37, .int mln])), (mq1, .inl (mk1, 4, .inl mf1)), (mq2, .inl (mk2, 4, .inl mf2)), (mq3, .inl (mk3, 240, .inr (.inl mf3)))])) (va_Qi (fun (r : Int32) (u : (Nat → Int32) × (Nat → Int32) × (Nat → Int64)) => (r = if (0 ≤ p0.toInt ∧ p0.toInt ≤ 3) ∧ (0 ≤ p1.toInt ∧ p1.toInt ≤ 3) ∧ p2.toInt ≤ 60 then (if p2.toInt < 0 then -3 else 0) else -2) ∧ (((0 ≤ p0.toInt ∧ p0.toInt ≤ 3 ∧ 0 ≤ p1.toInt ∧ p1.toInt ≤ 3 ∧ 0 ≤ p2.toInt ∧ p2.toInt ≤ 60) ∧ u.1 = upd mf1 p0.toNatClampNeg p1 ∧ u.2.1 = upd mf2 p0.toNatClampNeg p2) ∨ (¬ (0 ≤ p0.toInt ∧ p0.toInt ≤ 3 ∧ 0 ≤ p1.toInt ∧ p1.toInt ≤ 3 ∧ 0 ≤ p2.toInt ∧ p2.toInt ≤ 60) ∧ u.1 = mf1 ∧ u.2.1 = mf2)) ∧ (RG u.2.1 4 0 60)) (fun (u : (Nat → Int32) × (Nat → Int32) × (Nat → Int64)) (t : State) => va_P (dC, dI) vwCl [(mz, .inr (7, [.int 0, .ref mq1, .ref mq2, .ref mq3, .ref mq4, .ref mq5, .int mtd, .int mat, .int mtk, .int mpl, .int mva, .long mwd, .int mbd, .int mbp, .int mft, .int mfp, .ref mq16, .ref mq17, .ref mq18, .ref mq19, .ref mq20, .ref mq21, .int mlt, .ref mq23, .ref mq24, .ref mq25, .int msd, .ref mq27, .ref mq28, .ref mq29, .ref mq30, .ref mq31, .ref mq32, .int mlr, .int mst, .long mob, .long msb, .ref mq37, .int mln])), (mq1, .inl (mk1, 4, .inl u.1)), (mq2, .inl (mk2, 4, .inl u.2.1)), (mq3, .inl (mk3, 240, .inr (.inl u.2.2)))] t.heap ∧ va_K (dC, dI) vwCl [] t ∧ va_D (va_A [(mz, .inr (7, [.int mth, .ref mq1, .ref mq2, .ref mq3, .ref mq4, .ref mq5, .int mtd, .int mat, .int mtk, .int mpl, .int mva, .long mwd, .int mbd, .int mbp, .int mft, .int mfp, .ref mq16, .ref mq17, .ref mq18, .ref mq19, .ref mq20, .ref mq21, .int mlt, .ref mq23, .ref mq24, .ref mq25, .int msd, .ref mq27, .ref mq28, .ref mq29, .ref mq30, .ref mq31, .ref mq32, .int mlr, .int mst, .long mob, .long msb, .ref mq37, .int mln])), (mq1, .inl (mk1, 4, .inl mf1)), (mq2, .inl (mk2, 4, .inl mf2)), (mq3, .inl (mk3, 240, .inr (.inl mf3)))] sz) [(mz, .inr (7, [.int 0, .ref mq1, .ref mq2, .ref mq3, .ref mq4, .ref mq5, .int mtd, .int mat, .int mtk, .int mpl, .int mva, .long mwd, .int mbd, .int mbp, .int mft, .int mfp, .ref mq16, .ref mq17, .ref mq18, .ref mq19, .ref mq20, .ref mq21, .int mlt, .ref mq23, .ref mq24, .ref mq25, .int msd, .ref mq27, .ref mq28, .ref mq29, .ref mq30, .ref mq31, .ref mq32, .int mlr, .int mst, .long mob, .long msb, .ref mq37, .int mln])), (mq1, .inl (mk1, 4, .inl u.1)), (mq2, .inl (mk2, 4, .inl u.2.1)), (mq3, .inl (mk3, 240, .inr (.inl u.2.2)))]) (va_A [(mz, .inr (7, [.int mth, .ref mq1, .ref mq2, .ref mq3, .ref mq4, .ref mq5, .int mtd, .int mat, .int mtk, .int mpl, .int mva, .long mwd, .int mbd, .int mbp, .int mft, .int mfp, .ref mq16, .ref mq17, .ref mq18, .ref mq19, .ref mq20, .ref mq21, .int mlt, .ref mq23, .ref mq24, .ref mq25, .int msd, .ref mq27, .ref mq28, .ref mq29, .ref mq30, .ref mq31, .ref mq32, .int mlr, .int mst, .long mob, .long msb, .ref mq37, .int mln])), (mq1, .inl (mk1, 4, .inl mf1)), (mq2, .inl (mk2, 4, .inl mf2)), (mq3, .inl (mk3, 240, .inr (.inl mf3)))] sz)) 0 0 (va_A [(mz, .inr (7, [.int mth, .ref mq1, .ref mq2, .ref mq3, .ref mq4, .ref mq5, .int mtd, .int mat, .int mtk, .int mpl, .int mva, .long mwd, .int mbd, .int mbp, .int mft, .int mfp, .ref mq16, .ref mq17, .ref mq18, .ref mq19, .ref mq20, .ref mq21, .int mlt, .ref mq23, .ref mq24, .ref mq25, .int msd, .ref mq27, .ref mq28, .ref mq29, .ref mq30, .ref mq31, .ref mq32, .int mlr, .int mst, .long mob, .long msb, .ref mq37, .int mln])), (mq1, .inl (mk1, 4, .inl mf1)), (mq2, .inl (mk2, 4, .inl mf2)), (mq3, .inl (mk3, 240, .inr (.inl mf3)))] sz) := by
  refine Met.ofW (cc := cX7_row) (maxL := 5) (ret := (some .int)) (by decide) rfl ?_
  intro p e s m args below meth c s₁ B hml hv
  obtain ⟨rfl, hsz, hP, hK, hD0⟩ := hv
  have hx := B.exec
  have hb := B.bytes
  have hr := B.returns
  have hts := atoms_spec (ws := wz_X7_row) B.pre
  have hown : s.vm.findClass RX7 = some m.cls := findClass_of_methodNamed B.named
  have hlocks := B.notSynchronized
  subst hsz
  have hD := hD0.self (sz := s.heap.size)
  generalize hAe : va_A [(mz, .inr (7, [.int mth, .ref mq1, .ref mq2, .ref mq3, .ref mq4, .ref mq5, .int mtd, .int mat, .int mtk, .int mpl, .int mva, .long mwd, .int mbd, .int mbp, .int mft, .int mfp, .ref mq16, .ref mq17, .ref mq18, .ref mq19, .ref mq20, .ref mq21, .int mlt, .ref mq23, .ref mq24, .ref mq25, .int msd, .ref mq27, .ref mq28, .ref mq29, .ref mq30, .ref mq31, .ref mq32, .int mlr, .int mst, .long mob, .long msb, .ref mq37, .int mln])), (mq1, .inl (mk1, 4, .inl mf1)), (mq2, .inl (mk2, 4, .inl mf2)), (mq3, .inl (mk3, 240, .inr (.inl mf3)))] s.heap.size = A at hD ⊢
  have hA : ∀ q : Nat, s.heap.size ≤ q → A q := fun q h => by rw [← hAe]; exact Or.inr h
  have hS : va_S A s.heap s.heap [] := va_S.rf
  have hP : va_P (dC, dI) vwCl [(mz, .inr (7, [.int mth, .ref mq1, .ref mq2, .ref mq3, .ref mq4, .ref mq5, .int mtd, .int mat, .int mtk, .int mpl, .int mva, .long mwd, .int mbd, .int mbp, .int mft, .int mfp, .ref mq16, .ref mq17, .ref mq18, .ref mq19, .ref mq20, .ref mq21, .int mlt, .ref mq23, .ref mq24, .ref mq25, .int msd, .ref mq27, .ref mq28, .ref mq29, .ref mq30, .ref mq31, .ref mq32, .int mlr, .int mst, .long mob, .long msb, .ref mq37, .int mln])), (mq1, .inl (mk1, 4, .inl mf1)), (mq2, .inl (mk2, 4, .inl mf2)), (mq3, .inl (mk3, 240, .inr (.inl mf3)))] s.heap := hP
  have hl := lv_entry ([.ref mz, .int p0, .int p1, .int p2]) (n := 5) (Nat.le_of_ble_eq_true rfl)
  rw [lg_entry_eq]
  generalize (lg_sl ([.ref mz, .int p0, .int p1, .int p2]) ++ List.replicate (5 - (lg_sl ([.ref mz, .int p0, .int p1, .int p2])).length) Slot.unset).toArray = ls at hl ⊢
  have hl : lv_has ls 5 [(0, .ref mz), (1, .int p0), (2, .int p1), (3, .int p2)] := hl
  have hr2 := i_rng p2
  refine lv_aload_n hx hb dX7_row_0 rfl (lv_at hl 0 rfl) ?_
  refine lv_iconst (v := 0) hx hb dX7_row_1 (by decide) ?_
  refine va_put (D := (dC, dI)) (ci := 7) (v := .int 0) (ty := .int) (C := RX7) (T := TX7) (N := 39) hx hb hts in_X7_row_X7 tyX7 tyX7_ok nmX7 hown hK hP hD hS 0 rfl rfl 0 (by decide) (hts _ wd_X7_row_0) (fun _ h9 => h9) rfl (by decide +kernel) rfl rfl (Nat.le_of_ble_eq_true rfl) dX7_row_2 (fun H locs hP hD hS => ?_)
  have hP : va_P (dC, dI) vwCl [(mz, .inr (7, [.int 0, .ref mq1, .ref mq2, .ref mq3, .ref mq4, .ref mq5, .int mtd, .int mat, .int mtk, .int mpl, .int mva, .long mwd, .int mbd, .int mbp, .int mft, .int mfp, .ref mq16, .ref mq17, .ref mq18, .ref mq19, .ref mq20, .ref mq21, .int mlt, .ref mq23, .ref mq24, .ref mq25, .int msd, .ref mq27, .ref mq28, .ref mq29, .ref mq30, .ref mq31, .ref mq32, .int mlr, .int mst, .long mob, .long msb, .ref mq37, .int mln])), (mq1, .inl (mk1, 4, .inl mf1)), (mq2, .inl (mk2, 4, .inl mf2)), (mq3, .inl (mk3, 240, .inr (.inl mf3)))] H := hP
  have hD : va_D A [(mz, .inr (7, [.int 0, .ref mq1, .ref mq2, .ref mq3, .ref mq4, .ref mq5, .int mtd, .int mat, .int mtk, .int mpl, .int mva, .long mwd, .int mbd, .int mbp, .int mft, .int mfp, .ref mq16, .ref mq17, .ref mq18, .ref mq19, .ref mq20, .ref mq21, .int mlt, .ref mq23, .ref mq24, .ref mq25, .int msd, .ref mq27, .ref mq28, .ref mq29, .ref mq30, .ref mq31, .ref mq32, .int mlr, .int mst, .long mob, .long msb, .ref mq37, .int mln])), (mq1, .inl (mk1, 4, .inl mf1)), (mq2, .inl (mk2, 4, .inl mf2)), (mq3, .inl (mk3, 240, .inr (.inl mf3)))] := hD
  refine lv_iload_n hx hb dX7_row_5 rfl (lv_at hl 1 rfl) ?_
  have hPc := hP.sub (ws' := []) [] rfl
  have hDc := hD.sub (ws' := []) [] (by decide) rfl
  have hKc := hK.sub (tys' := []) [] rfl
  have hFc := va_free (wc := []) hD hS hA [] rfl
  refine va_calli (va_runS (As := [.int p0]) (rest := []) ⟨hx, hb, hml, hown, hts⟩ (c_X7_isSlot l dC dI H.size p0 ) (va_cwS 1 hts g_X7_row_X7_isSlot rfl rfl rfl (by decide +kernel) ⟨Nat.le_of_ble_eq_true rfl, Nat.le_of_ble_eq_true rfl⟩) ⟨fun a U g mk q => by obtain ⟨q0, q1, qP, qK, qD⟩ := q; exact ⟨q0, q1, qP, va_K.moved (u := U) (U := U.calling g mk a) (Vm.Alike.refl U.vm) qK, qD⟩, fun U hU hW => ⟨rfl, by rw [hU], by rw [hU]; exact hPc, va_K.moved hW.alike hKc, hDc.weaken (fun _ _ _ _ => trivial)⟩⟩ rfl rfl hl.1 rfl (lv_room (Nat.le_of_ble_eq_true rfl)) dX7_row_6 ⟨Nat.le_of_ble_eq_true rfl, Nat.le_of_ble_eq_true rfl⟩) hS (fun q _ h => hFc q h) hFc (fun r_1 u t H1 locs ht hvm hw_2 hB hz1 hk1 hS => ?_)
  have hP1 : va_P (dC, dI) vwCl [] H1 := i_nilP
  have hD1 : va_D (va_A [] H.size) [] := i_nilD
  try dsimp only at hw_2
  obtain ⟨hP, hD⟩ := va_join (wr := [(mz, .inr (7, [.int 0, .ref mq1, .ref mq2, .ref mq3, .ref mq4, .ref mq5, .int mtd, .int mat, .int mtk, .int mpl, .int mva, .long mwd, .int mbd, .int mbp, .int mft, .int mfp, .ref mq16, .ref mq17, .ref mq18, .ref mq19, .ref mq20, .ref mq21, .int mlt, .ref mq23, .ref mq24, .ref mq25, .int msd, .ref mq27, .ref mq28, .ref mq29, .ref mq30, .ref mq31, .ref mq32, .int mlr, .int mst, .long mob, .long msb, .ref mq37, .int mln])), (mq1, .inl (mk1, 4, .inl mf1)), (mq2, .inl (mk2, 4, .inl mf2)), (mq3, .inl (mk3, 240, .inr (.inl mf3)))]) (w1 := []) hP hD [] [0, 1, 2, 3] rfl rfl (by decide) (by decide) hk1 hFc hP1 hD1
  generalize H1 = H at hP hS ⊢
  have hP : va_P (dC, dI) vwCl [(mz, .inr (7, [.int 0, .ref mq1, .ref mq2, .ref mq3, .ref mq4, .ref mq5, .int mtd, .int mat, .int mtk, .int mpl, .int mva, .long mwd, .int mbd, .int mbp, .int mft, .int mfp, .ref mq16, .ref mq17, .ref mq18, .ref mq19, .ref mq20, .ref mq21, .int mlt, .ref mq23, .ref mq24, .ref mq25, .int msd, .ref mq27, .ref mq28, .ref mq29, .ref mq30, .ref mq31, .ref mq32, .int mlr, .int mst, .long mob, .long msb, .ref mq37, .int mln])), (mq1, .inl (mk1, 4, .inl mf1)), (mq2, .inl (mk2, 4, .inl mf2)), (mq3, .inl (mk3, 240, .inr (.inl mf3)))] H := hP
  have hD : va_D A [(mz, .inr (7, [.int 0, .ref mq1, .ref mq2, .ref mq3, .ref mq4, .ref mq5, .int mtd, .int mat, .int mtk, .int mpl, .int mva, .long mwd, .int mbd, .int mbp, .int mft, .int mfp, .ref mq16, .ref mq17, .ref mq18, .ref mq19, .ref mq20, .ref mq21, .int mlt, .ref mq23, .ref mq24, .ref mq25, .int msd, .ref mq27, .ref mq28, .ref mq29, .ref mq30, .ref mq31, .ref mq32, .int mlr, .int mst, .long mob, .long msb, .ref mq37, .int mln])), (mq1, .inl (mk1, 4, .inl mf1)), (mq2, .inl (mk2, 4, .inl mf2)), (mq3, .inl (mk3, 240, .inr (.inl mf3)))] := hD
  rcases i_bool hw_2 with ⟨r_19, hC⟩ | ⟨r_19, hC⟩
  · obtain rfl : r_1 = 1 := r_19
    have hC_3 := hC
    refine lv_if_eq (tgt := 30) hx hb dX7_row_9 (by decide) (fun h => absurd h (by decide)) (fun _ => ?_)
    refine lv_iload_n hx hb dX7_row_12 rfl (lv_at hl 2 rfl) ?_
    refine lv_i2l (v := p1.toInt64) hx hb dX7_row_13 rfl ?_
    refine lv_lconst (v := 0) hx hb dX7_row_14 (by decide) ?_
    refine lv_ldc2 hx hb hown (hts _ wd_X7_row_1) dX7_row_15 ?_
    have hPc := hP.sub (ws' := []) [] rfl
    have hDc := hD.sub (ws' := []) [] (by decide) rfl
    have hKc := hK.sub (tys' := []) [] rfl
    have hFc := va_free (wc := []) hD hS hA [] rfl
    refine va_calli (va_runS (As := [.long p1.toInt64, .long 0, .long 3]) (rest := []) ⟨hx, hb, hml, hown, hts⟩ (c_X7_in l dC dI H.size p1.toInt64 ((0 : Int64)) ((3 : Int64)) p1.toInt ((0 : Int)) ((3 : Int)) ((i_wide rfl)) ((by decide)) ((by decide))) (va_cwS 3 hts g_X7_row_X7_in rfl rfl rfl (by decide +kernel) ⟨Nat.le_of_ble_eq_true rfl, Nat.le_of_ble_eq_true rfl⟩) ⟨fun a U g mk q => by obtain ⟨q0, q1, qP, qK, qD⟩ := q; exact ⟨q0, q1, qP, va_K.moved (u := U) (U := U.calling g mk a) (Vm.Alike.refl U.vm) qK, qD⟩, fun U hU hW => ⟨rfl, by rw [hU], by rw [hU]; exact hPc, va_K.moved hW.alike hKc, hDc.weaken (fun _ _ _ _ => trivial)⟩⟩ rfl rfl hl.1 rfl (lv_room (Nat.le_of_ble_eq_true rfl)) dX7_row_18 ⟨Nat.le_of_ble_eq_true rfl, Nat.le_of_ble_eq_true rfl⟩) hS (fun q _ h => hFc q h) hFc (fun r_5 u t H1 locs ht hvm hw_6 hB hz1 hk1 hS => ?_)
    have hP1 : va_P (dC, dI) vwCl [] H1 := i_nilP
    have hD1 : va_D (va_A [] H.size) [] := i_nilD
    try dsimp only at hw_6
    obtain ⟨hP, hD⟩ := va_join (wr := [(mz, .inr (7, [.int 0, .ref mq1, .ref mq2, .ref mq3, .ref mq4, .ref mq5, .int mtd, .int mat, .int mtk, .int mpl, .int mva, .long mwd, .int mbd, .int mbp, .int mft, .int mfp, .ref mq16, .ref mq17, .ref mq18, .ref mq19, .ref mq20, .ref mq21, .int mlt, .ref mq23, .ref mq24, .ref mq25, .int msd, .ref mq27, .ref mq28, .ref mq29, .ref mq30, .ref mq31, .ref mq32, .int mlr, .int mst, .long mob, .long msb, .ref mq37, .int mln])), (mq1, .inl (mk1, 4, .inl mf1)), (mq2, .inl (mk2, 4, .inl mf2)), (mq3, .inl (mk3, 240, .inr (.inl mf3)))]) (w1 := []) hP hD [] [0, 1, 2, 3] rfl rfl (by decide) (by decide) hk1 hFc hP1 hD1
    generalize H1 = H at hP hS ⊢
    have hP : va_P (dC, dI) vwCl [(mz, .inr (7, [.int 0, .ref mq1, .ref mq2, .ref mq3, .ref mq4, .ref mq5, .int mtd, .int mat, .int mtk, .int mpl, .int mva, .long mwd, .int mbd, .int mbp, .int mft, .int mfp, .ref mq16, .ref mq17, .ref mq18, .ref mq19, .ref mq20, .ref mq21, .int mlt, .ref mq23, .ref mq24, .ref mq25, .int msd, .ref mq27, .ref mq28, .ref mq29, .ref mq30, .ref mq31, .ref mq32, .int mlr, .int mst, .long mob, .long msb, .ref mq37, .int mln])), (mq1, .inl (mk1, 4, .inl mf1)), (mq2, .inl (mk2, 4, .inl mf2)), (mq3, .inl (mk3, 240, .inr (.inl mf3)))] H := hP
    have hD : va_D A [(mz, .inr (7, [.int 0, .ref mq1, .ref mq2, .ref mq3, .ref mq4, .ref mq5, .int mtd, .int mat, .int mtk, .int mpl, .int mva, .long mwd, .int mbd, .int mbp, .int mft, .int mfp, .ref mq16, .ref mq17, .ref mq18, .ref mq19, .ref mq20, .ref mq21, .int mlt, .ref mq23, .ref mq24, .ref mq25, .int msd, .ref mq27, .ref mq28, .ref mq29, .ref mq30, .ref mq31, .ref mq32, .int mlr, .int mst, .long mob, .long msb, .ref mq37, .int mln])), (mq1, .inl (mk1, 4, .inl mf1)), (mq2, .inl (mk2, 4, .inl mf2)), (mq3, .inl (mk3, 240, .inr (.inl mf3)))] := hD
    rcases i_bool hw_6 with ⟨r_59, hC⟩ | ⟨r_59, hC⟩
    · obtain rfl : r_5 = 1 := r_59
      have hC_7 := hC
      refine lv_if_eq (tgt := 30) hx hb dX7_row_21 (by decide) (fun h => absurd h (by decide)) (fun _ => ?_)
      refine lv_iload_n hx hb dX7_row_24 rfl (lv_at hl 3 rfl) ?_
      refine lv_bipush (v := 60) hx hb dX7_row_25 (by decide) ?_
      refine lv_icmp_le (tgt := 33) hx hb dX7_row_27 (by decide) (fun c_9 => ?_) (fun c_9 => ?_)
      · have c_9 : p2.toInt ≤ 60 := i_le (a := p2) (b := 60) rfl (by decide) c_9
        refine lv_iload_n hx hb dX7_row_33 rfl (lv_at hl 3 rfl) ?_
        refine lv_if_ge (tgt := 40) hx hb dX7_row_34 (by decide) (fun c_10 => ?_) (fun c_10 => ?_)
        · have c_10 : 0 ≤ p2.toInt := i_le (a := 0) (b := p2) (by decide) rfl c_10
          refine lv_aload_n hx hb dX7_row_40 rfl (lv_at hl 0 rfl) ?_
          refine va_get (D := (dC, dI)) (ci := 7) (v := .ref mq1) (C := RX7) (T := TX7) (N := 39) hx hb hts in_X7_row_X7 hown hK hP 0 rfl rfl 1 (by decide) (hts _ wd_X7_row_2) (fun _ h9 => h9) rfl dX7_row_41 ?_
          refine lv_iload_n hx hb dX7_row_44 rfl (lv_at hl 1 rfl) ?_
          refine lv_iload_n hx hb dX7_row_45 rfl (lv_at hl 2 rfl) ?_
          refine va_iast hx hb hK hP hD hS 1 0 rfl rfl (i_in rfl (by omega) (by omega)) dX7_row_46 (fun H locs hP hD hS => ?_)
          have hP : va_P (dC, dI) vwCl [(mz, .inr (7, [.int 0, .ref mq1, .ref mq2, .ref mq3, .ref mq4, .ref mq5, .int mtd, .int mat, .int mtk, .int mpl, .int mva, .long mwd, .int mbd, .int mbp, .int mft, .int mfp, .ref mq16, .ref mq17, .ref mq18, .ref mq19, .ref mq20, .ref mq21, .int mlt, .ref mq23, .ref mq24, .ref mq25, .int msd, .ref mq27, .ref mq28, .ref mq29, .ref mq30, .ref mq31, .ref mq32, .int mlr, .int mst, .long mob, .long msb, .ref mq37, .int mln])), (mq1, .inl (mk1, 4, .inl (upd mf1 p0.toNatClampNeg p1))), (mq2, .inl (mk2, 4, .inl mf2)), (mq3, .inl (mk3, 240, .inr (.inl mf3)))] H := hP
          have hD : va_D A [(mz, .inr (7, [.int 0, .ref mq1, .ref mq2, .ref mq3, .ref mq4, .ref mq5, .int mtd, .int mat, .int mtk, .int mpl, .int mva, .long mwd, .int mbd, .int mbp, .int mft, .int mfp, .ref mq16, .ref mq17, .ref mq18, .ref mq19, .ref mq20, .ref mq21, .int mlt, .ref mq23, .ref mq24, .ref mq25, .int msd, .ref mq27, .ref mq28, .ref mq29, .ref mq30, .ref mq31, .ref mq32, .int mlr, .int mst, .long mob, .long msb, .ref mq37, .int mln])), (mq1, .inl (mk1, 4, .inl (upd mf1 p0.toNatClampNeg p1))), (mq2, .inl (mk2, 4, .inl mf2)), (mq3, .inl (mk3, 240, .inr (.inl mf3)))] := hD
          obtain ⟨f_11, ef_11⟩ : ∃ g, g = upd mf1 p0.toNatClampNeg p1 := ⟨_, rfl⟩
          rw [← ef_11] at hP hD
          refine lv_aload_n hx hb dX7_row_47 rfl (lv_at hl 0 rfl) ?_
          refine va_get (D := (dC, dI)) (ci := 7) (v := .ref mq2) (C := RX7) (T := TX7) (N := 39) hx hb hts in_X7_row_X7 hown hK hP 0 rfl rfl 2 (by decide) (hts _ wd_X7_row_3) (fun _ h9 => h9) rfl dX7_row_48 ?_
          refine lv_iload_n hx hb dX7_row_51 rfl (lv_at hl 1 rfl) ?_
          refine lv_iload_n hx hb dX7_row_52 rfl (lv_at hl 3 rfl) ?_
          refine va_iast hx hb hK hP hD hS 2 1 rfl rfl (i_in rfl (by omega) (by omega)) dX7_row_53 (fun H locs hP hD hS => ?_)
          have hP : va_P (dC, dI) vwCl [(mz, .inr (7, [.int 0, .ref mq1, .ref mq2, .ref mq3, .ref mq4, .ref mq5, .int mtd, .int mat, .int mtk, .int mpl, .int mva, .long mwd, .int mbd, .int mbp, .int mft, .int mfp, .ref mq16, .ref mq17, .ref mq18, .ref mq19, .ref mq20, .ref mq21, .int mlt, .ref mq23, .ref mq24, .ref mq25, .int msd, .ref mq27, .ref mq28, .ref mq29, .ref mq30, .ref mq31, .ref mq32, .int mlr, .int mst, .long mob, .long msb, .ref mq37, .int mln])), (mq1, .inl (mk1, 4, .inl f_11)), (mq2, .inl (mk2, 4, .inl (upd mf2 p0.toNatClampNeg p2))), (mq3, .inl (mk3, 240, .inr (.inl mf3)))] H := hP
          have hD : va_D A [(mz, .inr (7, [.int 0, .ref mq1, .ref mq2, .ref mq3, .ref mq4, .ref mq5, .int mtd, .int mat, .int mtk, .int mpl, .int mva, .long mwd, .int mbd, .int mbp, .int mft, .int mfp, .ref mq16, .ref mq17, .ref mq18, .ref mq19, .ref mq20, .ref mq21, .int mlt, .ref mq23, .ref mq24, .ref mq25, .int msd, .ref mq27, .ref mq28, .ref mq29, .ref mq30, .ref mq31, .ref mq32, .int mlr, .int mst, .long mob, .long msb, .ref mq37, .int mln])), (mq1, .inl (mk1, 4, .inl f_11)), (mq2, .inl (mk2, 4, .inl (upd mf2 p0.toNatClampNeg p2))), (mq3, .inl (mk3, 240, .inr (.inl mf3)))] := hD
          have hR_12 := RG.upd hR_mq2 p0.toNatClampNeg (x := p2) rfl (by omega) (by omega)
          obtain ⟨f_13, ef_13⟩ : ∃ g, g = upd mf2 p0.toNatClampNeg p2 := ⟨_, rfl⟩
          rw [← ef_13] at hP hD
          rw [← ef_13] at hR_12
          refine lv_iconst (v := 0) hx hb dX7_row_54 (by decide) ?_
          refine lv_istore (lv' := [(4, .int 0), (0, .ref mz), (1, .int p0), (2, .int p1), (3, .int p2)]) hx hb dX7_row_55 hl (by decide) rfl (fun ls hl => ?_)
          refine lp_W (I := fun (a : Int32 × (Nat → Int64)) H locs ls => (0 ≤ a.1.toInt ∧ a.1.toInt ≤ p2.toInt) ∧ va_P (dC, dI) vwCl [(mz, .inr (7, [.int 0, .ref mq1, .ref mq2, .ref mq3, .ref mq4, .ref mq5, .int mtd, .int mat, .int mtk, .int mpl, .int mva, .long mwd, .int mbd, .int mbp, .int mft, .int mfp, .ref mq16, .ref mq17, .ref mq18, .ref mq19, .ref mq20, .ref mq21, .int mlt, .ref mq23, .ref mq24, .ref mq25, .int msd, .ref mq27, .ref mq28, .ref mq29, .ref mq30, .ref mq31, .ref mq32, .int mlr, .int mst, .long mob, .long msb, .ref mq37, .int mln])), (mq1, .inl (mk1, 4, .inl f_11)), (mq2, .inl (mk2, 4, .inl f_13)), (mq3, .inl (mk3, 240, .inr (.inl a.2)))] H ∧ va_D A [(mz, .inr (7, [.int 0, .ref mq1, .ref mq2, .ref mq3, .ref mq4, .ref mq5, .int mtd, .int mat, .int mtk, .int mpl, .int mva, .long mwd, .int mbd, .int mbp, .int mft, .int mfp, .ref mq16, .ref mq17, .ref mq18, .ref mq19, .ref mq20, .ref mq21, .int mlt, .ref mq23, .ref mq24, .ref mq25, .int msd, .ref mq27, .ref mq28, .ref mq29, .ref mq30, .ref mq31, .ref mq32, .int mlr, .int mst, .long mob, .long msb, .ref mq37, .int mln])), (mq1, .inl (mk1, 4, .inl f_11)), (mq2, .inl (mk2, 4, .inl f_13)), (mq3, .inl (mk3, 240, .inr (.inl a.2)))] ∧ va_S A s.heap H locs ∧ lv_has ls 5 [(4, .int a.1), (0, .ref mz), (1, .int p0), (2, .int p1), (3, .int p2)]) (μ := fun a => (p2.toInt - a.1.toInt).toNat) ?_ ((0 : Int32), mf3) ⟨(by have k0 : (0 : Int32).toInt = 0 := (by decide); (try dsimp only); omega), hP.sub [0, 1, 2, 3] rfl, hD.sub [0, 1, 2, 3] (by decide) rfl, hS, lv_sub hl [0, 1, 2, 3, 4] rfl⟩
          intro a H locs ls hI ih57
          obtain ⟨i1, C1⟩ := a
          obtain ⟨h_i1, hP, hD, hS, hl⟩ := hI
          have h_i1 : 0 ≤ i1.toInt ∧ i1.toInt ≤ p2.toInt := h_i1
          have hP : va_P (dC, dI) vwCl [(mz, .inr (7, [.int 0, .ref mq1, .ref mq2, .ref mq3, .ref mq4, .ref mq5, .int mtd, .int mat, .int mtk, .int mpl, .int mva, .long mwd, .int mbd, .int mbp, .int mft, .int mfp, .ref mq16, .ref mq17, .ref mq18, .ref mq19, .ref mq20, .ref mq21, .int mlt, .ref mq23, .ref mq24, .ref mq25, .int msd, .ref mq27, .ref mq28, .ref mq29, .ref mq30, .ref mq31, .ref mq32, .int mlr, .int mst, .long mob, .long msb, .ref mq37, .int mln])), (mq1, .inl (mk1, 4, .inl f_11)), (mq2, .inl (mk2, 4, .inl f_13)), (mq3, .inl (mk3, 240, .inr (.inl C1)))] H := hP
          have hD : va_D A [(mz, .inr (7, [.int 0, .ref mq1, .ref mq2, .ref mq3, .ref mq4, .ref mq5, .int mtd, .int mat, .int mtk, .int mpl, .int mva, .long mwd, .int mbd, .int mbp, .int mft, .int mfp, .ref mq16, .ref mq17, .ref mq18, .ref mq19, .ref mq20, .ref mq21, .int mlt, .ref mq23, .ref mq24, .ref mq25, .int msd, .ref mq27, .ref mq28, .ref mq29, .ref mq30, .ref mq31, .ref mq32, .int mlr, .int mst, .long mob, .long msb, .ref mq37, .int mln])), (mq1, .inl (mk1, 4, .inl f_11)), (mq2, .inl (mk2, 4, .inl f_13)), (mq3, .inl (mk3, 240, .inr (.inl C1)))] := hD
          have hl : lv_has ls 5 [(4, .int i1), (0, .ref mz), (1, .int p0), (2, .int p1), (3, .int p2)] := hl
          refine lv_iload hx hb dX7_row_57 (lv_at hl 0 rfl) ?_
          refine lv_iload_n hx hb dX7_row_59 rfl (lv_at hl 4 rfl) ?_
          refine lv_icmp_ge (tgt := 82) hx hb dX7_row_60 (by decide) (fun c_14 => ?_) (fun c_14 => ?_)
          · have c_14 : p2.toInt ≤ i1.toInt := i_le (a := p2) (b := i1) rfl rfl c_14
            refine lv_iconst (v := 0) hx hb dX7_row_82 (by decide) ?_
            have hP9 := hP.sub (ws' := [(mz, .inr (7, [.int 0, .ref mq1, .ref mq2, .ref mq3, .ref mq4, .ref mq5, .int mtd, .int mat, .int mtk, .int mpl, .int mva, .long mwd, .int mbd, .int mbp, .int mft, .int mfp, .ref mq16, .ref mq17, .ref mq18, .ref mq19, .ref mq20, .ref mq21, .int mlt, .ref mq23, .ref mq24, .ref mq25, .int msd, .ref mq27, .ref mq28, .ref mq29, .ref mq30, .ref mq31, .ref mq32, .int mlr, .int mst, .long mob, .long msb, .ref mq37, .int mln])), (mq1, .inl (mk1, 4, .inl f_11)), (mq2, .inl (mk2, 4, .inl f_13)), (mq3, .inl (mk3, 240, .inr (.inl C1)))]) [0, 1, 2, 3] rfl
            have hD9 := hD.sub (ws' := [(mz, .inr (7, [.int 0, .ref mq1, .ref mq2, .ref mq3, .ref mq4, .ref mq5, .int mtd, .int mat, .int mtk, .int mpl, .int mva, .long mwd, .int mbd, .int mbp, .int mft, .int mfp, .ref mq16, .ref mq17, .ref mq18, .ref mq19, .ref mq20, .ref mq21, .int mlt, .ref mq23, .ref mq24, .ref mq25, .int msd, .ref mq27, .ref mq28, .ref mq29, .ref mq30, .ref mq31, .ref mq32, .int mlr, .int mst, .long mob, .long msb, .ref mq37, .int mln])), (mq1, .inl (mk1, 4, .inl f_11)), (mq2, .inl (mk2, 4, .inl f_13)), (mq3, .inl (mk3, 240, .inr (.inl C1)))]) [0, 1, 2, 3] (by decide) rfl
            have hK9 := hK.sub (tys' := []) [] rfl
            refine W.widen (k := 0) (n := 0) (by omega) (by omega) ?_
            exact W.iret (v := 0) hx hb hr (fun t ht hW => ⟨⟨0, (f_11, f_13, C1), rfl, ⟨(by first | rfl | ((repeat' split) <;> (first | rfl | (exfalso; omega)))), (Or.inl ⟨⟨by omega, by omega, by omega, by omega, by omega, by omega⟩, ef_11, ef_13⟩), hR_12⟩, by rw [ht]; exact hP9, va_K.moved hW.alike hK9, hD9⟩, hS.F ht⟩) hS.2.2 dX7_row_83
          · have c_14 : i1.toInt < p2.toInt := i_nle (a := p2) (b := i1) rfl rfl c_14
            refine lv_aload_n hx hb dX7_row_63 rfl (lv_at hl 1 rfl) ?_
            refine va_get (D := (dC, dI)) (ci := 7) (v := .ref mq3) (C := RX7) (T := TX7) (N := 39) hx hb hts in_X7_row_X7 hown hK hP 0 rfl rfl 3 (by decide) (hts _ wd_X7_row_4) (fun _ h9 => h9) rfl dX7_row_64 ?_
            refine lv_bipush (v := 60) hx hb dX7_row_67 (by decide) ?_
            refine lv_iload_n hx hb dX7_row_69 rfl (lv_at hl 2 rfl) ?_
            refine lv_imul hx hb dX7_row_70 ?_
            refine lv_topi (fun x_15 ex_15 => ?_)
            have zx_15 : x_15.toInt = 60 * p0.toInt := by rw [ex_15]; exact i_mul (by decide) rfl (by omega) (by omega)
            refine lv_iload hx hb dX7_row_71 (lv_at hl 0 rfl) ?_
            refine lv_iadd hx hb dX7_row_73 ?_
            refine lv_topi (fun x_16 ex_16 => ?_)
            have zx_16 : x_16.toInt = x_15.toInt + i1.toInt := by rw [ex_16]; exact i_add rfl rfl (by omega) (by omega)
            refine lv_lconst (v := 0) hx hb dX7_row_74 (by decide) ?_
            refine va_last hx hb hK hP hD hS 3 2 rfl rfl (i_in rfl (by omega) (by omega)) dX7_row_75 (fun H locs hP hD hS => ?_)
            have hP : va_P (dC, dI) vwCl [(mz, .inr (7, [.int 0, .ref mq1, .ref mq2, .ref mq3, .ref mq4, .ref mq5, .int mtd, .int mat, .int mtk, .int mpl, .int mva, .long mwd, .int mbd, .int mbp, .int mft, .int mfp, .ref mq16, .ref mq17, .ref mq18, .ref mq19, .ref mq20, .ref mq21, .int mlt, .ref mq23, .ref mq24, .ref mq25, .int msd, .ref mq27, .ref mq28, .ref mq29, .ref mq30, .ref mq31, .ref mq32, .int mlr, .int mst, .long mob, .long msb, .ref mq37, .int mln])), (mq1, .inl (mk1, 4, .inl f_11)), (mq2, .inl (mk2, 4, .inl f_13)), (mq3, .inl (mk3, 240, .inr (.inl (vp_updL C1 x_16.toNatClampNeg 0))))] H := hP
            have hD : va_D A [(mz, .inr (7, [.int 0, .ref mq1, .ref mq2, .ref mq3, .ref mq4, .ref mq5, .int mtd, .int mat, .int mtk, .int mpl, .int mva, .long mwd, .int mbd, .int mbp, .int mft, .int mfp, .ref mq16, .ref mq17, .ref mq18, .ref mq19, .ref mq20, .ref mq21, .int mlt, .ref mq23, .ref mq24, .ref mq25, .int msd, .ref mq27, .ref mq28, .ref mq29, .ref mq30, .ref mq31, .ref mq32, .int mlr, .int mst, .long mob, .long msb, .ref mq37, .int mln])), (mq1, .inl (mk1, 4, .inl f_11)), (mq2, .inl (mk2, 4, .inl f_13)), (mq3, .inl (mk3, 240, .inr (.inl (vp_updL C1 x_16.toNatClampNeg 0))))] := hD
            obtain ⟨f_17, ef_17⟩ : ∃ g, g = vp_updL C1 x_16.toNatClampNeg 0 := ⟨_, rfl⟩
            rw [← ef_17] at hP hD
            obtain ⟨x_18, ex_18⟩ : ∃ y9 : Int32, y9 = i1 + Int32.ofInt 1 := ⟨_, rfl⟩
            have zx_18 : x_18.toInt = i1.toInt + 1 := by rw [ex_18]; exact i_add rfl (show (Int32.ofInt 1).toInt = 1 by decide) (by omega) (by omega)
            refine lv_iinc (v := x_18) (lv' := [(4, .int x_18), (0, .ref mz), (1, .int p0), (2, .int p1), (3, .int p2)]) hx hb dX7_row_76 hl (k := 0) rfl (by rw [ex_18]) (by decide) rfl (fun ls hl => ?_)
            refine lv_goto (tgt := 57) hx hb dX7_row_79 (by decide) ?_
            exact ih57 (x_18, f_17) _ _ _ ⟨(by (try dsimp only); omega), hP.sub [0, 1, 2, 3] rfl, hD.sub [0, 1, 2, 3] (by decide) rfl, hS, lv_sub hl [0, 1, 2, 3, 4] rfl⟩ (by (try dsimp only); omega)
        · have c_10 : p2.toInt < 0 := i_nle (a := 0) (b := p2) (by decide) rfl c_10
          refine lv_bipush (v := -3) hx hb dX7_row_37 (by decide) ?_
          have hP9 := hP.sub (ws' := [(mz, .inr (7, [.int 0, .ref mq1, .ref mq2, .ref mq3, .ref mq4, .ref mq5, .int mtd, .int mat, .int mtk, .int mpl, .int mva, .long mwd, .int mbd, .int mbp, .int mft, .int mfp, .ref mq16, .ref mq17, .ref mq18, .ref mq19, .ref mq20, .ref mq21, .int mlt, .ref mq23, .ref mq24, .ref mq25, .int msd, .ref mq27, .ref mq28, .ref mq29, .ref mq30, .ref mq31, .ref mq32, .int mlr, .int mst, .long mob, .long msb, .ref mq37, .int mln])), (mq1, .inl (mk1, 4, .inl mf1)), (mq2, .inl (mk2, 4, .inl mf2)), (mq3, .inl (mk3, 240, .inr (.inl mf3)))]) [0, 1, 2, 3] rfl
          have hD9 := hD.sub (ws' := [(mz, .inr (7, [.int 0, .ref mq1, .ref mq2, .ref mq3, .ref mq4, .ref mq5, .int mtd, .int mat, .int mtk, .int mpl, .int mva, .long mwd, .int mbd, .int mbp, .int mft, .int mfp, .ref mq16, .ref mq17, .ref mq18, .ref mq19, .ref mq20, .ref mq21, .int mlt, .ref mq23, .ref mq24, .ref mq25, .int msd, .ref mq27, .ref mq28, .ref mq29, .ref mq30, .ref mq31, .ref mq32, .int mlr, .int mst, .long mob, .long msb, .ref mq37, .int mln])), (mq1, .inl (mk1, 4, .inl mf1)), (mq2, .inl (mk2, 4, .inl mf2)), (mq3, .inl (mk3, 240, .inr (.inl mf3)))]) [0, 1, 2, 3] (by decide) rfl
          have hK9 := hK.sub (tys' := []) [] rfl
          refine W.widen (k := 0) (n := 0) (by omega) (by omega) ?_
          exact W.iret (v := -3) hx hb hr (fun t ht hW => ⟨⟨(-3), (mf1, mf2, mf3), rfl, ⟨(by first | rfl | ((repeat' split) <;> (first | rfl | (exfalso; omega)))), (Or.inr ⟨by omega, rfl, rfl⟩), hR_mq2⟩, by rw [ht]; exact hP9, va_K.moved hW.alike hK9, hD9⟩, hS.F ht⟩) hS.2.2 dX7_row_39
      · have c_9 : 60 < p2.toInt := i_nle (a := p2) (b := 60) rfl (by decide) c_9
        refine lv_bipush (v := -2) hx hb dX7_row_30 (by decide) ?_
        have hP9 := hP.sub (ws' := [(mz, .inr (7, [.int 0, .ref mq1, .ref mq2, .ref mq3, .ref mq4, .ref mq5, .int mtd, .int mat, .int mtk, .int mpl, .int mva, .long mwd, .int mbd, .int mbp, .int mft, .int mfp, .ref mq16, .ref mq17, .ref mq18, .ref mq19, .ref mq20, .ref mq21, .int mlt, .ref mq23, .ref mq24, .ref mq25, .int msd, .ref mq27, .ref mq28, .ref mq29, .ref mq30, .ref mq31, .ref mq32, .int mlr, .int mst, .long mob, .long msb, .ref mq37, .int mln])), (mq1, .inl (mk1, 4, .inl mf1)), (mq2, .inl (mk2, 4, .inl mf2)), (mq3, .inl (mk3, 240, .inr (.inl mf3)))]) [0, 1, 2, 3] rfl
        have hD9 := hD.sub (ws' := [(mz, .inr (7, [.int 0, .ref mq1, .ref mq2, .ref mq3, .ref mq4, .ref mq5, .int mtd, .int mat, .int mtk, .int mpl, .int mva, .long mwd, .int mbd, .int mbp, .int mft, .int mfp, .ref mq16, .ref mq17, .ref mq18, .ref mq19, .ref mq20, .ref mq21, .int mlt, .ref mq23, .ref mq24, .ref mq25, .int msd, .ref mq27, .ref mq28, .ref mq29, .ref mq30, .ref mq31, .ref mq32, .int mlr, .int mst, .long mob, .long msb, .ref mq37, .int mln])), (mq1, .inl (mk1, 4, .inl mf1)), (mq2, .inl (mk2, 4, .inl mf2)), (mq3, .inl (mk3, 240, .inr (.inl mf3)))]) [0, 1, 2, 3] (by decide) rfl
        have hK9 := hK.sub (tys' := []) [] rfl
        refine W.widen (k := 0) (n := 0) (by omega) (by omega) ?_
        exact W.iret (v := -2) hx hb hr (fun t ht hW => ⟨⟨(-2), (mf1, mf2, mf3), rfl, ⟨(by first | rfl | ((repeat' split) <;> (first | rfl | (exfalso; omega)))), (Or.inr ⟨by omega, rfl, rfl⟩), hR_mq2⟩, by rw [ht]; exact hP9, va_K.moved hW.alike hK9, hD9⟩, hS.F ht⟩) hS.2.2 dX7_row_32
    · obtain rfl : r_5 = 0 := r_59
      have hC_19 := hC
      refine lv_if_eq (tgt := 30) hx hb dX7_row_21 (by decide) (fun _ => ?_) (fun h => absurd (by decide) h)
      refine lv_bipush (v := -2) hx hb dX7_row_30 (by decide) ?_
      have hP9 := hP.sub (ws' := [(mz, .inr (7, [.int 0, .ref mq1, .ref mq2, .ref mq3, .ref mq4, .ref mq5, .int mtd, .int mat, .int mtk, .int mpl, .int mva, .long mwd, .int mbd, .int mbp, .int mft, .int mfp, .ref mq16, .ref mq17, .ref mq18, .ref mq19, .ref mq20, .ref mq21, .int mlt, .ref mq23, .ref mq24, .ref mq25, .int msd, .ref mq27, .ref mq28, .ref mq29, .ref mq30, .ref mq31, .ref mq32, .int mlr, .int mst, .long mob, .long msb, .ref mq37, .int mln])), (mq1, .inl (mk1, 4, .inl mf1)), (mq2, .inl (mk2, 4, .inl mf2)), (mq3, .inl (mk3, 240, .inr (.inl mf3)))]) [0, 1, 2, 3] rfl
      have hD9 := hD.sub (ws' := [(mz, .inr (7, [.int 0, .ref mq1, .ref mq2, .ref mq3, .ref mq4, .ref mq5, .int mtd, .int mat, .int mtk, .int mpl, .int mva, .long mwd, .int mbd, .int mbp, .int mft, .int mfp, .ref mq16, .ref mq17, .ref mq18, .ref mq19, .ref mq20, .ref mq21, .int mlt, .ref mq23, .ref mq24, .ref mq25, .int msd, .ref mq27, .ref mq28, .ref mq29, .ref mq30, .ref mq31, .ref mq32, .int mlr, .int mst, .long mob, .long msb, .ref mq37, .int mln])), (mq1, .inl (mk1, 4, .inl mf1)), (mq2, .inl (mk2, 4, .inl mf2)), (mq3, .inl (mk3, 240, .inr (.inl mf3)))]) [0, 1, 2, 3] (by decide) rfl
      have hK9 := hK.sub (tys' := []) [] rfl
      refine W.widen (k := 0) (n := 0) (by omega) (by omega) ?_
      exact W.iret (v := -2) hx hb hr (fun t ht hW => ⟨⟨(-2), (mf1, mf2, mf3), rfl, ⟨(by first | rfl | ((repeat' split) <;> (first | rfl | (exfalso; omega)))), (Or.inr ⟨by omega, rfl, rfl⟩), hR_mq2⟩, by rw [ht]; exact hP9, va_K.moved hW.alike hK9, hD9⟩, hS.F ht⟩) hS.2.2 dX7_row_32
  · obtain rfl : r_1 = 0 := r_19
    have hC_21 := hC
    refine lv_if_eq (tgt := 30) hx hb dX7_row_9 (by decide) (fun _ => ?_) (fun h => absurd (by decide) h)
    refine lv_bipush (v := -2) hx hb dX7_row_30 (by decide) ?_
    have hP9 := hP.sub (ws' := [(mz, .inr (7, [.int 0, .ref mq1, .ref mq2, .ref mq3, .ref mq4, .ref mq5, .int mtd, .int mat, .int mtk, .int mpl, .int mva, .long mwd, .int mbd, .int mbp, .int mft, .int mfp, .ref mq16, .ref mq17, .ref mq18, .ref mq19, .ref mq20, .ref mq21, .int mlt, .ref mq23, .ref mq24, .ref mq25, .int msd, .ref mq27, .ref mq28, .ref mq29, .ref mq30, .ref mq31, .ref mq32, .int mlr, .int mst, .long mob, .long msb, .ref mq37, .int mln])), (mq1, .inl (mk1, 4, .inl mf1)), (mq2, .inl (mk2, 4, .inl mf2)), (mq3, .inl (mk3, 240, .inr (.inl mf3)))]) [0, 1, 2, 3] rfl
    have hD9 := hD.sub (ws' := [(mz, .inr (7, [.int 0, .ref mq1, .ref mq2, .ref mq3, .ref mq4, .ref mq5, .int mtd, .int mat, .int mtk, .int mpl, .int mva, .long mwd, .int mbd, .int mbp, .int mft, .int mfp, .ref mq16, .ref mq17, .ref mq18, .ref mq19, .ref mq20, .ref mq21, .int mlt, .ref mq23, .ref mq24, .ref mq25, .int msd, .ref mq27, .ref mq28, .ref mq29, .ref mq30, .ref mq31, .ref mq32, .int mlr, .int mst, .long mob, .long msb, .ref mq37, .int mln])), (mq1, .inl (mk1, 4, .inl mf1)), (mq2, .inl (mk2, 4, .inl mf2)), (mq3, .inl (mk3, 240, .inr (.inl mf3)))]) [0, 1, 2, 3] (by decide) rfl
    have hK9 := hK.sub (tys' := []) [] rfl
    refine W.widen (k := 0) (n := 0) (by omega) (by omega) ?_
    exact W.iret (v := -2) hx hb hr (fun t ht hW => ⟨⟨(-2), (mf1, mf2, mf3), rfl, ⟨(by first | rfl | ((repeat' split) <;> (first | rfl | (exfalso; omega)))), (Or.inr ⟨by omega, rfl, rfl⟩), hR_mq2⟩, by rw [ht]; exact hP9, va_K.moved hW.alike hK9, hD9⟩, hS.F ht⟩) hS.2.2 dX7_row_32

theorem dX7_write_0 : decode cX7_write 0 = .ok (.aload_n 0, 1) := by decide +kernel
theorem dX7_write_1 : decode cX7_write 1 = .ok (.iconst 0, 1) := by decide +kernel
theorem dX7_write_2 : decode cX7_write 2 = .ok (.putfield 80, 3) := by decide +kernel
theorem dX7_write_5 : decode cX7_write 5 = .ok (.iload_n 1, 1) := by decide +kernel
theorem dX7_write_6 : decode cX7_write 6 = .ok (.invokestatic 89, 3) := by decide +kernel
theorem dX7_write_9 : decode cX7_write 9 = .ok (.ifCond .ne 6, 3) := by decide +kernel
theorem dX7_write_12 : decode cX7_write 12 = .ok (.bipush (-2), 2) := by decide +kernel
theorem dX7_write_14 : decode cX7_write 14 = .ok (.ireturn, 1) := by decide +kernel
theorem dX7_write_15 : decode cX7_write 15 = .ok (.aload_n 0, 1) := by decide +kernel
theorem dX7_write_16 : decode cX7_write 16 = .ok (.getfield 7, 3) := by decide +kernel
theorem dX7_write_19 : decode cX7_write 19 = .ok (.iload_n 1, 1) := by decide +kernel
theorem dX7_write_20 : decode cX7_write 20 = .ok (.iaload, 1) := by decide +kernel
theorem dX7_write_21 : decode cX7_write 21 = .ok (.iconst (-1), 1) := by decide +kernel
theorem dX7_write_22 : decode cX7_write 22 = .ok (.if_icmp .ne 6, 3) := by decide +kernel
theorem dX7_write_25 : decode cX7_write 25 = .ok (.bipush (-6), 2) := by decide +kernel
theorem dX7_write_27 : decode cX7_write 27 = .ok (.ireturn, 1) := by decide +kernel
theorem dX7_write_28 : decode cX7_write 28 = .ok (.iload_n 2, 1) := by decide +kernel
theorem dX7_write_29 : decode cX7_write 29 = .ok (.i2l, 1) := by decide +kernel
theorem dX7_write_30 : decode cX7_write 30 = .ok (.lconst 0, 1) := by decide +kernel
theorem dX7_write_31 : decode cX7_write 31 = .ok (.aload_n 0, 1) := by decide +kernel
theorem dX7_write_32 : decode cX7_write 32 = .ok (.getfield 13, 3) := by decide +kernel
theorem dX7_write_35 : decode cX7_write 35 = .ok (.iload_n 1, 1) := by decide +kernel
theorem dX7_write_36 : decode cX7_write 36 = .ok (.iaload, 1) := by decide +kernel
theorem dX7_write_37 : decode cX7_write 37 = .ok (.iconst 1, 1) := by decide +kernel
theorem dX7_write_38 : decode cX7_write 38 = .ok (.isub, 1) := by decide +kernel
theorem dX7_write_39 : decode cX7_write 39 = .ok (.i2l, 1) := by decide +kernel
theorem dX7_write_40 : decode cX7_write 40 = .ok (.invokestatic 85, 3) := by decide +kernel
theorem dX7_write_43 : decode cX7_write 43 = .ok (.ifCond .ne 6, 3) := by decide +kernel
theorem dX7_write_46 : decode cX7_write 46 = .ok (.bipush (-7), 2) := by decide +kernel
theorem dX7_write_48 : decode cX7_write 48 = .ok (.ireturn, 1) := by decide +kernel
theorem dX7_write_49 : decode cX7_write 49 = .ok (.aload_n 0, 1) := by decide +kernel
theorem dX7_write_50 : decode cX7_write 50 = .ok (.getfield 16, 3) := by decide +kernel
theorem dX7_write_53 : decode cX7_write 53 = .ok (.bipush 60, 2) := by decide +kernel
theorem dX7_write_55 : decode cX7_write 55 = .ok (.iload_n 1, 1) := by decide +kernel
theorem dX7_write_56 : decode cX7_write 56 = .ok (.imul, 1) := by decide +kernel
theorem dX7_write_57 : decode cX7_write 57 = .ok (.iload_n 2, 1) := by decide +kernel
theorem dX7_write_58 : decode cX7_write 58 = .ok (.iadd, 1) := by decide +kernel
theorem dX7_write_59 : decode cX7_write 59 = .ok (.lload_n 3, 1) := by decide +kernel
theorem dX7_write_60 : decode cX7_write 60 = .ok (.aload_n 0, 1) := by decide +kernel
theorem dX7_write_61 : decode cX7_write 61 = .ok (.getfield 7, 3) := by decide +kernel
theorem dX7_write_64 : decode cX7_write 64 = .ok (.iload_n 1, 1) := by decide +kernel
theorem dX7_write_65 : decode cX7_write 65 = .ok (.iaload, 1) := by decide +kernel
theorem dX7_write_66 : decode cX7_write 66 = .ok (.invokestatic 93, 3) := by decide +kernel
theorem dX7_write_69 : decode cX7_write 69 = .ok (.lastore, 1) := by decide +kernel
theorem dX7_write_70 : decode cX7_write 70 = .ok (.iconst 0, 1) := by decide +kernel
theorem dX7_write_71 : decode cX7_write 71 = .ok (.ireturn, 1) := by decide +kernel
def wz_X7_write : List Cond := .code yX7_write cX7_write 5 (some .int) :: ([Cond.fieldLink RX7 80 "HedgeMazeModel" "thrown" "I", Cond.fieldLink RX7 7 "HedgeMazeModel" "width" "[I", Cond.fieldLink RX7 13 "HedgeMazeModel" "many" "[I", Cond.fieldLink RX7 16 "HedgeMazeModel" "cells" "[J", Cond.methodLink RX7 89 yX7_isSlot, Cond.static yX7_isSlot, Cond.initialized RX7, Cond.code yX7_isSlot cX7_isSlot 1 (some .boolean), Cond.constantLong RX7 83 (3), Cond.methodLink RX7 85 yX7_in, Cond.static yX7_in, Cond.code yX7_in cX7_in 6 (some .boolean), Cond.methodLink RX7 93 yX7_cut, Cond.static yX7_cut, Cond.code yX7_cut cX7_cut 3 (some .long)] ++ wsX70)
theorem wd_X7_write_0 : Cond.fieldLink RX7 80 "HedgeMazeModel" "thrown" "I" ∈ wz_X7_write := List.mem_of_getElem? (i := 1) rfl
theorem wd_X7_write_1 : Cond.fieldLink RX7 7 "HedgeMazeModel" "width" "[I" ∈ wz_X7_write := List.mem_of_getElem? (i := 2) rfl
theorem wd_X7_write_2 : Cond.fieldLink RX7 13 "HedgeMazeModel" "many" "[I" ∈ wz_X7_write := List.mem_of_getElem? (i := 3) rfl
theorem wd_X7_write_3 : Cond.fieldLink RX7 16 "HedgeMazeModel" "cells" "[J" ∈ wz_X7_write := List.mem_of_getElem? (i := 4) rfl
theorem in_X7_write_X7 : ∀ w ∈ wsX70, w ∈ wz_X7_write := fun _ h => List.mem_cons_of_mem _ (List.mem_append_right _ h)
set_option maxRecDepth 20000 in
theorem g_X7_write_X7_isSlot : GoodIn wz_X7_write (va_wsS RX7 89 yX7_isSlot wz_X7_isSlot) := goodIn_r _ [5, 6, 7, 8, 9, 10, 11, 7, 12] rfl (by decide +kernel)
set_option maxRecDepth 20000 in
theorem g_X7_write_X7_in : GoodIn wz_X7_write (va_wsS RX7 85 yX7_in wz_X7_in) := goodIn_r _ [10, 11, 7, 12] rfl (by decide +kernel)
set_option maxRecDepth 20000 in
theorem g_X7_write_X7_cut : GoodIn wz_X7_write (va_wsS RX7 93 yX7_cut wz_X7_cut) := goodIn_r _ [13, 14, 7, 15] rfl (by decide +kernel)
set_option maxHeartbeats 4000000 in
set_option maxRecDepth 100000 in
theorem c_X7_write (l : Launch) (dC : Nat → ClassId) (dI : Nat → Nat → Nat) (sz : Nat) (mz : Nat) (mth : Int32) (mq1 : Nat) (mq2 : Nat) (mq3 : Nat) (mq4 : Nat) (mq5 : Nat) (mtd : Int32) (mat : Int32) (mtk : Int32) (mpl : Int32) (mva : Int32) (mwd : Int64) (mbd : Int32) (mbp : Int32) (mft : Int32) (mfp : Int32) (mq16 : Nat) (mq17 : Nat) (mq18 : Nat) (mq19 : Nat) (mq20 : Nat) (mq21 : Nat) (mlt : Int32) (mq23 : Nat) (mq24 : Nat) (mq25 : Nat) (msd : Int32) (mq27 : Nat) (mq28 : Nat) (mq29 : Nat) (mq30 : Nat) (mq31 : Nat) (mq32 : Nat) (mlr : Int32) (mst : Int32) (mob : Int64) (msb : Int64) (mq37 : Nat) (mln : Int32) (mk1 : ClassId) (mf1 : Nat → Int32) (mk2 : ClassId) (mf2 : Nat → Int32) (mk3 : ClassId) (mf3 : Nat → Int64) (p0 : Int32) (p1 : Int32) (p2 : Int64) (hR_mq2 : RG mf2 4 0 60) : Met l yX7_write wz_X7_write ({ frames := 2, cells := 0, slots := 0, locals := 45 }) (va_Pc [.ref mz, .int p0, .int p1, .long p2] (fun U => U.heap.size = sz ∧ va_P (dC, dI) vwCl [(mz, .inr (7, [.int mth, .ref mq1, .ref mq2, .ref mq3, .ref mq4, .ref mq5, .int mtd, .int mat, .int mtk, .int mpl, .int mva, .long mwd, .int mbd, .int mbp, .int mft, .int mfp, .ref mq16, .ref mq17, .ref mq18, .ref mq19, .ref mq20, .ref mq21, .int mlt, .ref mq23, .ref mq24, .ref mq25, .int msd, .ref mq27, .ref mq28, .ref mq29, .ref mq30, .ref mq31, .ref mq32, .int mlr, .int mst, .long mob, .long msb, .ref mq37, .int mln])), (mq1, .inl (mk1, 4, .inl mf1)), (mq2, .inl (mk2, 4, .inl mf2)), (mq3, .inl (mk3, 240, .inr (.inl mf3)))] U.heap ∧ va_K (dC, dI) vwCl [(mk1, .int), (mk2, .int), (mk3, .long)] U ∧ va_D (fun _ => True) [(mz, .inr (7, [.int mth, .ref mq1, .ref mq2, .ref mq3, .ref mq4, .ref mq5, .int mtd, .int mat, .int mtk, .int mpl, .int mva, .long mwd, .int mbd, .int mbp, .int mft, .int mfp, .ref mq16, .ref mq17, .ref mq18, .ref mq19, .ref mq20, .ref mq21, .int mlt, .ref mq23, .ref mq24, .ref mq25, .int msd, .ref mq27, .ref mq28, .ref mq29, .ref mq30, .ref mq31, .ref mq32, .int mlr, .int mst, .long mob, .long msb, .ref mq37, .int mln])), (mq1, .inl (mk1, 4, .inl mf1)), (mq2, .inl (mk2, 4, .inl mf2)), (mq3, .inl (mk3, 240, .inr (.inl mf3)))])) (va_Qi (fun (r : Int32) (u : (Nat → Int64)) => (r = if (0 ≤ p0.toInt ∧ p0.toInt ≤ 3) then (if (mf1 p0.toNatClampNeg).toInt = -1 then -6 else if 0 ≤ p1.toInt ∧ p1.toInt ≤ (mf2 p0.toNatClampNeg).toInt - 1 then 0 else -7) else -2)) (fun (u : (Nat → Int64)) (t : State) => va_P (dC, dI) vwCl [(mz, .inr (7, [.int 0, .ref mq1, .ref mq2, .ref mq3, .ref mq4, .ref mq5, .int mtd, .int mat, .int mtk, .int mpl, .int mva, .long mwd, .int mbd, .int mbp, .int mft, .int mfp, .ref mq16, .ref mq17, .ref mq18, .ref mq19, .ref mq20, .ref mq21, .int mlt, .ref mq23, .ref mq24, .ref mq25, .int msd, .ref mq27, .ref mq28, .ref mq29, .ref mq30, .ref mq31, .ref mq32, .int mlr, .int mst, .long mob, .long msb, .ref mq37, .int mln])), (mq1, .inl (mk1, 4, .inl mf1)), (mq2, .inl (mk2, 4, .inl mf2)), (mq3, .inl (mk3, 240, .inr (.inl u)))] t.heap ∧ va_K (dC, dI) vwCl [] t ∧ va_D (va_A [(mz, .inr (7, [.int mth, .ref mq1, .ref mq2, .ref mq3, .ref mq4, .ref mq5, .int mtd, .int mat, .int mtk, .int mpl, .int mva, .long mwd, .int mbd, .int mbp, .int mft, .int mfp, .ref mq16, .ref mq17, .ref mq18, .ref mq19, .ref mq20, .ref mq21, .int mlt, .ref mq23, .ref mq24, .ref mq25, .int msd, .ref mq27, .ref mq28, .ref mq29, .ref mq30, .ref mq31, .ref mq32, .int mlr, .int mst, .long mob, .long msb, .ref mq37, .int mln])), (mq1, .inl (mk1, 4, .inl mf1)), (mq2, .inl (mk2, 4, .inl mf2)), (mq3, .inl (mk3, 240, .inr (.inl mf3)))] sz) [(mz, .inr (7, [.int 0, .ref mq1, .ref mq2, .ref mq3, .ref mq4, .ref mq5, .int mtd, .int mat, .int mtk, .int mpl, .int mva, .long mwd, .int mbd, .int mbp, .int mft, .int mfp, .ref mq16, .ref mq17, .ref mq18, .ref mq19, .ref mq20, .ref mq21, .int mlt, .ref mq23, .ref mq24, .ref mq25, .int msd, .ref mq27, .ref mq28, .ref mq29, .ref mq30, .ref mq31, .ref mq32, .int mlr, .int mst, .long mob, .long msb, .ref mq37, .int mln])), (mq1, .inl (mk1, 4, .inl mf1)), (mq2, .inl (mk2, 4, .inl mf2)), (mq3, .inl (mk3, 240, .inr (.inl u)))]) (va_A [(mz, .inr (7, [.int mth, .ref mq1, .ref mq2, .ref mq3, .ref mq4, .ref mq5, .int mtd, .int mat, .int mtk, .int mpl, .int mva, .long mwd, .int mbd, .int mbp, .int mft, .int mfp, .ref mq16, .ref mq17, .ref mq18, .ref mq19, .ref mq20, .ref mq21, .int mlt, .ref mq23, .ref mq24, .ref mq25, .int msd, .ref mq27, .ref mq28, .ref mq29, .ref mq30, .ref mq31, .ref mq32, .int mlr, .int mst, .long mob, .long msb, .ref mq37, .int mln])), (mq1, .inl (mk1, 4, .inl mf1)), (mq2, .inl (mk2, 4, .inl mf2)), (mq3, .inl (mk3, 240, .inr (.inl mf3)))] sz)) 0 0 (va_A [(mz, .inr (7, [.int mth, .ref mq1, .ref mq2, .ref mq3, .ref mq4, .ref mq5, .int mtd, .int mat, .int mtk, .int mpl, .int mva, .long mwd, .int mbd, .int mbp, .int mft, .int mfp, .ref mq16, .ref mq17, .ref mq18, .ref mq19, .ref mq20, .ref mq21, .int mlt, .ref mq23, .ref mq24, .ref mq25, .int msd, .ref mq27, .ref mq28, .ref mq29, .ref mq30, .ref mq31, .ref mq32, .int mlr, .int mst, .long mob, .long msb, .ref mq37, .int mln])), (mq1, .inl (mk1, 4, .inl mf1)), (mq2, .inl (mk2, 4, .inl mf2)), (mq3, .inl (mk3, 240, .inr (.inl mf3)))] sz) := by
  refine Met.ofW (cc := cX7_write) (maxL := 5) (ret := (some .int)) (by decide) rfl ?_
  intro p e s m args below meth c s₁ B hml hv
  obtain ⟨rfl, hsz, hP, hK, hD0⟩ := hv
  have hx := B.exec
  have hb := B.bytes
  have hr := B.returns
  have hts := atoms_spec (ws := wz_X7_write) B.pre
  have hown : s.vm.findClass RX7 = some m.cls := findClass_of_methodNamed B.named
  have hlocks := B.notSynchronized
  subst hsz
  have hD := hD0.self (sz := s.heap.size)
  generalize hAe : va_A [(mz, .inr (7, [.int mth, .ref mq1, .ref mq2, .ref mq3, .ref mq4, .ref mq5, .int mtd, .int mat, .int mtk, .int mpl, .int mva, .long mwd, .int mbd, .int mbp, .int mft, .int mfp, .ref mq16, .ref mq17, .ref mq18, .ref mq19, .ref mq20, .ref mq21, .int mlt, .ref mq23, .ref mq24, .ref mq25, .int msd, .ref mq27, .ref mq28, .ref mq29, .ref mq30, .ref mq31, .ref mq32, .int mlr, .int mst, .long mob, .long msb, .ref mq37, .int mln])), (mq1, .inl (mk1, 4, .inl mf1)), (mq2, .inl (mk2, 4, .inl mf2)), (mq3, .inl (mk3, 240, .inr (.inl mf3)))] s.heap.size = A at hD ⊢
  have hA : ∀ q : Nat, s.heap.size ≤ q → A q := fun q h => by rw [← hAe]; exact Or.inr h
  have hS : va_S A s.heap s.heap [] := va_S.rf
  have hP : va_P (dC, dI) vwCl [(mz, .inr (7, [.int mth, .ref mq1, .ref mq2, .ref mq3, .ref mq4, .ref mq5, .int mtd, .int mat, .int mtk, .int mpl, .int mva, .long mwd, .int mbd, .int mbp, .int mft, .int mfp, .ref mq16, .ref mq17, .ref mq18, .ref mq19, .ref mq20, .ref mq21, .int mlt, .ref mq23, .ref mq24, .ref mq25, .int msd, .ref mq27, .ref mq28, .ref mq29, .ref mq30, .ref mq31, .ref mq32, .int mlr, .int mst, .long mob, .long msb, .ref mq37, .int mln])), (mq1, .inl (mk1, 4, .inl mf1)), (mq2, .inl (mk2, 4, .inl mf2)), (mq3, .inl (mk3, 240, .inr (.inl mf3)))] s.heap := hP
  have hl := lv_entry ([.ref mz, .int p0, .int p1, .long p2]) (n := 5) (Nat.le_of_ble_eq_true rfl)
  rw [lg_entry_eq]
  generalize (lg_sl ([.ref mz, .int p0, .int p1, .long p2]) ++ List.replicate (5 - (lg_sl ([.ref mz, .int p0, .int p1, .long p2])).length) Slot.unset).toArray = ls at hl ⊢
  have hl : lv_has ls 5 [(0, .ref mz), (1, .int p0), (2, .int p1), (3, .long p2)] := hl
  refine lv_aload_n hx hb dX7_write_0 rfl (lv_at hl 0 rfl) ?_
  refine lv_iconst (v := 0) hx hb dX7_write_1 (by decide) ?_
  refine va_put (D := (dC, dI)) (ci := 7) (v := .int 0) (ty := .int) (C := RX7) (T := TX7) (N := 39) hx hb hts in_X7_write_X7 tyX7 tyX7_ok nmX7 hown hK hP hD hS 0 rfl rfl 0 (by decide) (hts _ wd_X7_write_0) (fun _ h9 => h9) rfl (by decide +kernel) rfl rfl (Nat.le_of_ble_eq_true rfl) dX7_write_2 (fun H locs hP hD hS => ?_)
  have hP : va_P (dC, dI) vwCl [(mz, .inr (7, [.int 0, .ref mq1, .ref mq2, .ref mq3, .ref mq4, .ref mq5, .int mtd, .int mat, .int mtk, .int mpl, .int mva, .long mwd, .int mbd, .int mbp, .int mft, .int mfp, .ref mq16, .ref mq17, .ref mq18, .ref mq19, .ref mq20, .ref mq21, .int mlt, .ref mq23, .ref mq24, .ref mq25, .int msd, .ref mq27, .ref mq28, .ref mq29, .ref mq30, .ref mq31, .ref mq32, .int mlr, .int mst, .long mob, .long msb, .ref mq37, .int mln])), (mq1, .inl (mk1, 4, .inl mf1)), (mq2, .inl (mk2, 4, .inl mf2)), (mq3, .inl (mk3, 240, .inr (.inl mf3)))] H := hP
  have hD : va_D A [(mz, .inr (7, [.int 0, .ref mq1, .ref mq2, .ref mq3, .ref mq4, .ref mq5, .int mtd, .int mat, .int mtk, .int mpl, .int mva, .long mwd, .int mbd, .int mbp, .int mft, .int mfp, .ref mq16, .ref mq17, .ref mq18, .ref mq19, .ref mq20, .ref mq21, .int mlt, .ref mq23, .ref mq24, .ref mq25, .int msd, .ref mq27, .ref mq28, .ref mq29, .ref mq30, .ref mq31, .ref mq32, .int mlr, .int mst, .long mob, .long msb, .ref mq37, .int mln])), (mq1, .inl (mk1, 4, .inl mf1)), (mq2, .inl (mk2, 4, .inl mf2)), (mq3, .inl (mk3, 240, .inr (.inl mf3)))] := hD
  refine lv_iload_n hx hb dX7_write_5 rfl (lv_at hl 1 rfl) ?_
  have hPc := hP.sub (ws' := []) [] rfl
  have hDc := hD.sub (ws' := []) [] (by decide) rfl
  have hKc := hK.sub (tys' := []) [] rfl
  have hFc := va_free (wc := []) hD hS hA [] rfl
  refine va_calli (va_runS (As := [.int p0]) (rest := []) ⟨hx, hb, hml, hown, hts⟩ (c_X7_isSlot l dC dI H.size p0 ) (va_cwS 1 hts g_X7_write_X7_isSlot rfl rfl rfl (by decide +kernel) ⟨Nat.le_of_ble_eq_true rfl, Nat.le_of_ble_eq_true rfl⟩) ⟨fun a U g mk q => by obtain ⟨q0, q1, qP, qK, qD⟩ := q; exact ⟨q0, q1, qP, va_K.moved (u := U) (U := U.calling g mk a) (Vm.Alike.refl U.vm) qK, qD⟩, fun U hU hW => ⟨rfl, by rw [hU], by rw [hU]; exact hPc, va_K.moved hW.alike hKc, hDc.weaken (fun _ _ _ _ => trivial)⟩⟩ rfl rfl hl.1 rfl (lv_room (Nat.le_of_ble_eq_true rfl)) dX7_write_6 ⟨Nat.le_of_ble_eq_true rfl, Nat.le_of_ble_eq_true rfl⟩) hS (fun q _ h => hFc q h) hFc (fun r_1 u t H1 locs ht hvm hw_2 hB hz1 hk1 hS => ?_)
  have hP1 : va_P (dC, dI) vwCl [] H1 := i_nilP
  have hD1 : va_D (va_A [] H.size) [] := i_nilD
  try dsimp only at hw_2
  obtain ⟨hP, hD⟩ := va_join (wr := [(mz, .inr (7, [.int 0, .ref mq1, .ref mq2, .ref mq3, .ref mq4, .ref mq5, .int mtd, .int mat, .int mtk, .int mpl, .int mva, .long mwd, .int mbd, .int mbp, .int mft, .int mfp, .ref mq16, .ref mq17, .ref mq18, .ref mq19, .ref mq20, .ref mq21, .int mlt, .ref mq23, .ref mq24, .ref mq25, .int msd, .ref mq27, .ref mq28, .ref mq29, .ref mq30, .ref mq31, .ref mq32, .int mlr, .int mst, .long mob, .long msb, .ref mq37, .int mln])), (mq1, .inl (mk1, 4, .inl mf1)), (mq2, .inl (mk2, 4, .inl mf2)), (mq3, .inl (mk3, 240, .inr (.inl mf3)))]) (w1 := []) hP hD [] [0, 1, 2, 3] rfl rfl (by decide) (by decide) hk1 hFc hP1 hD1
  generalize H1 = H at hP hS ⊢
  have hP : va_P (dC, dI) vwCl [(mz, .inr (7, [.int 0, .ref mq1, .ref mq2, .ref mq3, .ref mq4, .ref mq5, .int mtd, .int mat, .int mtk, .int mpl, .int mva, .long mwd, .int mbd, .int mbp, .int mft, .int mfp, .ref mq16, .ref mq17, .ref mq18, .ref mq19, .ref mq20, .ref mq21, .int mlt, .ref mq23, .ref mq24, .ref mq25, .int msd, .ref mq27, .ref mq28, .ref mq29, .ref mq30, .ref mq31, .ref mq32, .int mlr, .int mst, .long mob, .long msb, .ref mq37, .int mln])), (mq1, .inl (mk1, 4, .inl mf1)), (mq2, .inl (mk2, 4, .inl mf2)), (mq3, .inl (mk3, 240, .inr (.inl mf3)))] H := hP
  have hD : va_D A [(mz, .inr (7, [.int 0, .ref mq1, .ref mq2, .ref mq3, .ref mq4, .ref mq5, .int mtd, .int mat, .int mtk, .int mpl, .int mva, .long mwd, .int mbd, .int mbp, .int mft, .int mfp, .ref mq16, .ref mq17, .ref mq18, .ref mq19, .ref mq20, .ref mq21, .int mlt, .ref mq23, .ref mq24, .ref mq25, .int msd, .ref mq27, .ref mq28, .ref mq29, .ref mq30, .ref mq31, .ref mq32, .int mlr, .int mst, .long mob, .long msb, .ref mq37, .int mln])), (mq1, .inl (mk1, 4, .inl mf1)), (mq2, .inl (mk2, 4, .inl mf2)), (mq3, .inl (mk3, 240, .inr (.inl mf3)))] := hD
  rcases i_bool hw_2 with ⟨r_19, hC⟩ | ⟨r_19, hC⟩
  · obtain rfl : r_1 = 1 := r_19
    have hC_3 := hC
    refine lv_if_ne (tgt := 15) hx hb dX7_write_9 (by decide) (fun _ => ?_) (fun h => absurd h (by decide))
    refine lv_aload_n hx hb dX7_write_15 rfl (lv_at hl 0 rfl) ?_
    refine va_get (D := (dC, dI)) (ci := 7) (v := .ref mq1) (C := RX7) (T := TX7) (N := 39) hx hb hts in_X7_write_X7 hown hK hP 0 rfl rfl 1 (by decide) (hts _ wd_X7_write_1) (fun _ h9 => h9) rfl dX7_write_16 ?_
    refine lv_iload_n hx hb dX7_write_19 rfl (lv_at hl 1 rfl) ?_
    refine va_iald hx hb hK hP 1 0 rfl rfl (i_in rfl (by omega) (by omega)) dX7_write_20 ?_
    refine lv_topi (fun v_5 ev_5 => ?_)
    have kv_5 : v_5.toInt = (mf1 p0.toNatClampNeg).toInt := congrArg Int32.toInt ev_5
    refine lv_iconst (v := -1) hx hb dX7_write_21 (by decide) ?_
    refine lv_icmp_ne (tgt := 28) hx hb dX7_write_22 (by decide) (fun c_6 => ?_) (fun c_6 => ?_)
    · have c_6 : v_5.toInt ≠ (-1) := i_ne (a := v_5) (b := -1) rfl (by decide) c_6
      refine lv_iload_n hx hb dX7_write_28 rfl (lv_at hl 2 rfl) ?_
      refine lv_i2l (v := p1.toInt64) hx hb dX7_write_29 rfl ?_
      refine lv_lconst (v := 0) hx hb dX7_write_30 (by decide) ?_
      refine lv_aload_n hx hb dX7_write_31 rfl (lv_at hl 0 rfl) ?_
      refine va_get (D := (dC, dI)) (ci := 7) (v := .ref mq2) (C := RX7) (T := TX7) (N := 39) hx hb hts in_X7_write_X7 hown hK hP 0 rfl rfl 2 (by decide) (hts _ wd_X7_write_2) (fun _ h9 => h9) rfl dX7_write_32 ?_
      refine lv_iload_n hx hb dX7_write_35 rfl (lv_at hl 1 rfl) ?_
      have hin_7 : vp_in p0 4 := (i_in rfl (by omega) (by omega))
      refine va_iald hx hb hK hP 2 1 rfl rfl hin_7 dX7_write_36 ?_
      refine lv_topi (fun v_8 ev_8 => ?_)
      have kv_8 : v_8.toInt = (mf2 p0.toNatClampNeg).toInt := congrArg Int32.toInt ev_8
      have hv_8 := RG.at hR_mq2 hin_7 ev_8
      refine lv_iconst (v := 1) hx hb dX7_write_37 (by decide) ?_
      refine lv_isub hx hb dX7_write_38 ?_
      refine lv_topi (fun x_9 ex_9 => ?_)
      have zx_9 : x_9.toInt = v_8.toInt - 1 := by rw [ex_9]; exact i_sub rfl (by decide) (by omega) (by omega)
      refine lv_i2l (v := x_9.toInt64) hx hb dX7_write_39 rfl ?_
      have hPc := hP.sub (ws' := []) [] rfl
      have hDc := hD.sub (ws' := []) [] (by decide) rfl
      have hKc := hK.sub (tys' := []) [] rfl
      have hFc := va_free (wc := []) hD hS hA [] rfl
      refine va_calli (va_runS (As := [.long p1.toInt64, .long 0, .long x_9.toInt64]) (rest := []) ⟨hx, hb, hml, hown, hts⟩ (c_X7_in l dC dI H.size p1.toInt64 ((0 : Int64)) x_9.toInt64 p1.toInt ((0 : Int)) x_9.toInt ((i_wide rfl)) ((by decide)) ((i_wide rfl))) (va_cwS 3 hts g_X7_write_X7_in rfl rfl rfl (by decide +kernel) ⟨Nat.le_of_ble_eq_true rfl, Nat.le_of_ble_eq_true rfl⟩) ⟨fun a U g mk q => by obtain ⟨q0, q1, qP, qK, qD⟩ := q; exact ⟨q0, q1, qP, va_K.moved (u := U) (U := U.calling g mk a) (Vm.Alike.refl U.vm) qK, qD⟩, fun U hU hW => ⟨rfl, by rw [hU], by rw [hU]; exact hPc, va_K.moved hW.alike hKc, hDc.weaken (fun _ _ _ _ => trivial)⟩⟩ rfl rfl hl.1 rfl (lv_room (Nat.le_of_ble_eq_true rfl)) dX7_write_40 ⟨Nat.le_of_ble_eq_true rfl, Nat.le_of_ble_eq_true rfl⟩) hS (fun q _ h => hFc q h) hFc (fun r_10 u t H1 locs ht hvm hw_11 hB hz1 hk1 hS => ?_)
      have hP1 : va_P (dC, dI) vwCl [] H1 := i_nilP
      have hD1 : va_D (va_A [] H.size) [] := i_nilD
      try dsimp only at hw_11
      obtain ⟨hP, hD⟩ := va_join (wr := [(mz, .inr (7, [.int 0, .ref mq1, .ref mq2, .ref mq3, .ref mq4, .ref mq5, .int mtd, .int mat, .int mtk, .int mpl, .int mva, .long mwd, .int mbd, .int mbp, .int mft, .int mfp, .ref mq16, .ref mq17, .ref mq18, .ref mq19, .ref mq20, .ref mq21, .int mlt, .ref mq23, .ref mq24, .ref mq25, .int msd, .ref mq27, .ref mq28, .ref mq29, .ref mq30, .ref mq31, .ref mq32, .int mlr, .int mst, .long mob, .long msb, .ref mq37, .int mln])), (mq1, .inl (mk1, 4, .inl mf1)), (mq2, .inl (mk2, 4, .inl mf2)), (mq3, .inl (mk3, 240, .inr (.inl mf3)))]) (w1 := []) hP hD [] [0, 1, 2, 3] rfl rfl (by decide) (by decide) hk1 hFc hP1 hD1
      generalize H1 = H at hP hS ⊢
      have hP : va_P (dC, dI) vwCl [(mz, .inr (7, [.int 0, .ref mq1, .ref mq2, .ref mq3, .ref mq4, .ref mq5, .int mtd, .int mat, .int mtk, .int mpl, .int mva, .long mwd, .int mbd, .int mbp, .int mft, .int mfp, .ref mq16, .ref mq17, .ref mq18, .ref mq19, .ref mq20, .ref mq21, .int mlt, .ref mq23, .ref mq24, .ref mq25, .int msd, .ref mq27, .ref mq28, .ref mq29, .ref mq30, .ref mq31, .ref mq32, .int mlr, .int mst, .long mob, .long msb, .ref mq37, .int mln])), (mq1, .inl (mk1, 4, .inl mf1)), (mq2, .inl (mk2, 4, .inl mf2)), (mq3, .inl (mk3, 240, .inr (.inl mf3)))] H := hP
      have hD : va_D A [(mz, .inr (7, [.int 0, .ref mq1, .ref mq2, .ref mq3, .ref mq4, .ref mq5, .int mtd, .int mat, .int mtk, .int mpl, .int mva, .long mwd, .int mbd, .int mbp, .int mft, .int mfp, .ref mq16, .ref mq17, .ref mq18, .ref mq19, .ref mq20, .ref mq21, .int mlt, .ref mq23, .ref mq24, .ref mq25, .int msd, .ref mq27, .ref mq28, .ref mq29, .ref mq30, .ref mq31, .ref mq32, .int mlr, .int mst, .long mob, .long msb, .ref mq37, .int mln])), (mq1, .inl (mk1, 4, .inl mf1)), (mq2, .inl (mk2, 4, .inl mf2)), (mq3, .inl (mk3, 240, .inr (.inl mf3)))] := hD
      rcases i_bool hw_11 with ⟨r_109, hC⟩ | ⟨r_109, hC⟩
      · obtain rfl : r_10 = 1 := r_109
        have hC_12 := hC
        refine lv_if_ne (tgt := 49) hx hb dX7_write_43 (by decide) (fun _ => ?_) (fun h => absurd h (by decide))
        refine lv_aload_n hx hb dX7_write_49 rfl (lv_at hl 0 rfl) ?_
        refine va_get (D := (dC, dI)) (ci := 7) (v := .ref mq3) (C := RX7) (T := TX7) (N := 39) hx hb hts in_X7_write_X7 hown hK hP 0 rfl rfl 3 (by decide) (hts _ wd_X7_write_3) (fun _ h9 => h9) rfl dX7_write_50 ?_
        refine lv_bipush (v := 60) hx hb dX7_write_53 (by decide) ?_
        refine lv_iload_n hx hb dX7_write_55 rfl (lv_at hl 1 rfl) ?_
        refine lv_imul hx hb dX7_write_56 ?_
        refine lv_topi (fun x_14 ex_14 => ?_)
        have zx_14 : x_14.toInt = 60 * p0.toInt := by rw [ex_14]; exact i_mul (by decide) rfl (by omega) (by omega)
        refine lv_iload_n hx hb dX7_write_57 rfl (lv_at hl 2 rfl) ?_
        refine lv_iadd hx hb dX7_write_58 ?_
        refine lv_topi (fun x_15 ex_15 => ?_)
        have zx_15 : x_15.toInt = x_14.toInt + p1.toInt := by rw [ex_15]; exact i_add rfl rfl (by omega) (by omega)
        refine lv_lload_n hx hb dX7_write_59 rfl (lv_at hl 3 rfl) ?_
        refine lv_aload_n hx hb dX7_write_60 rfl (lv_at hl 0 rfl) ?_
        refine va_get (D := (dC, dI)) (ci := 7) (v := .ref mq1) (C := RX7) (T := TX7) (N := 39) hx hb hts in_X7_write_X7 hown hK hP 0 rfl rfl 1 (by decide) (hts _ wd_X7_write_1) (fun _ h9 => h9) rfl dX7_write_61 ?_
        refine lv_iload_n hx hb dX7_write_64 rfl (lv_at hl 1 rfl) ?_
        refine va_iald hx hb hK hP 1 0 rfl rfl (i_in rfl (by omega) (by omega)) dX7_write_65 ?_
        refine lv_topi (fun v_16 ev_16 => ?_)
        have kv_16 : v_16.toInt = (mf1 p0.toNatClampNeg).toInt := congrArg Int32.toInt ev_16
        have hPc := hP.sub (ws' := []) [] rfl
        have hDc := hD.sub (ws' := []) [] (by decide) rfl
        have hKc := hK.sub (tys' := []) [] rfl
        have hFc := va_free (wc := []) hD hS hA [] rfl
        refine va_calll (va_runS (As := [.long p2, .int v_16]) (rest := [.int x_15, .ref mq3]) ⟨hx, hb, hml, hown, hts⟩ (c_X7_cut l dC dI H.size p2 v_16 ) (va_cwS 2 hts g_X7_write_X7_cut rfl rfl rfl (by decide +kernel) ⟨Nat.le_of_ble_eq_true rfl, Nat.le_of_ble_eq_true rfl⟩) ⟨fun a U g mk q => by obtain ⟨q0, q1, qP, qK, qD⟩ := q; exact ⟨q0, q1, qP, va_K.moved (u := U) (U := U.calling g mk a) (Vm.Alike.refl U.vm) qK, qD⟩, fun U hU hW => ⟨rfl, by rw [hU], by rw [hU]; exact hPc, va_K.moved hW.alike hKc, hDc.weaken (fun _ _ _ _ => trivial)⟩⟩ rfl rfl hl.1 rfl (lv_room (Nat.le_of_ble_eq_true rfl)) dX7_write_66 ⟨Nat.le_of_ble_eq_true rfl, Nat.le_of_ble_eq_true rfl⟩) hS (fun q _ h => hFc q h) hFc (fun r_17 u t H1 locs ht hvm hw_18 hB hz1 hk1 hS => ?_)
        have hP1 : va_P (dC, dI) vwCl [] H1 := i_nilP
        have hD1 : va_D (va_A [] H.size) [] := i_nilD
        try dsimp only at hw_18
        obtain ⟨hP, hD⟩ := va_join (wr := [(mz, .inr (7, [.int 0, .ref mq1, .ref mq2, .ref mq3, .ref mq4, .ref mq5, .int mtd, .int mat, .int mtk, .int mpl, .int mva, .long mwd, .int mbd, .int mbp, .int mft, .int mfp, .ref mq16, .ref mq17, .ref mq18, .ref mq19, .ref mq20, .ref mq21, .int mlt, .ref mq23, .ref mq24, .ref mq25, .int msd, .ref mq27, .ref mq28, .ref mq29, .ref mq30, .ref mq31, .ref mq32, .int mlr, .int mst, .long mob, .long msb, .ref mq37, .int mln])), (mq1, .inl (mk1, 4, .inl mf1)), (mq2, .inl (mk2, 4, .inl mf2)), (mq3, .inl (mk3, 240, .inr (.inl mf3)))]) (w1 := []) hP hD [] [0, 1, 2, 3] rfl rfl (by decide) (by decide) hk1 hFc hP1 hD1
        generalize H1 = H at hP hS ⊢
        have hP : va_P (dC, dI) vwCl [(mz, .inr (7, [.int 0, .ref mq1, .ref mq2, .ref mq3, .ref mq4, .ref mq5, .int mtd, .int mat, .int mtk, .int mpl, .int mva, .long mwd, .int mbd, .int mbp, .int mft, .int mfp, .ref mq16, .ref mq17, .ref mq18, .ref mq19, .ref mq20, .ref mq21, .int mlt, .ref mq23, .ref mq24, .ref mq25, .int msd, .ref mq27, .ref mq28, .ref mq29, .ref mq30, .ref mq31, .ref mq32, .int mlr, .int mst, .long mob, .long msb, .ref mq37, .int mln])), (mq1, .inl (mk1, 4, .inl mf1)), (mq2, .inl (mk2, 4, .inl mf2)), (mq3, .inl (mk3, 240, .inr (.inl mf3)))] H := hP
        have hD : va_D A [(mz, .inr (7, [.int 0, .ref mq1, .ref mq2, .ref mq3, .ref mq4, .ref mq5, .int mtd, .int mat, .int mtk, .int mpl, .int mva, .long mwd, .int mbd, .int mbp, .int mft, .int mfp, .ref mq16, .ref mq17, .ref mq18, .ref mq19, .ref mq20, .ref mq21, .int mlt, .ref mq23, .ref mq24, .ref mq25, .int msd, .ref mq27, .ref mq28, .ref mq29, .ref mq30, .ref mq31, .ref mq32, .int mlr, .int mst, .long mob, .long msb, .ref mq37, .int mln])), (mq1, .inl (mk1, 4, .inl mf1)), (mq2, .inl (mk2, 4, .inl mf2)), (mq3, .inl (mk3, 240, .inr (.inl mf3)))] := hD
        refine va_last hx hb hK hP hD hS 3 2 rfl rfl (i_in rfl (by omega) (by omega)) dX7_write_69 (fun H locs hP hD hS => ?_)
        have hP : va_P (dC, dI) vwCl [(mz, .inr (7, [.int 0, .ref mq1, .ref mq2, .ref mq3, .ref mq4, .ref mq5, .int mtd, .int mat, .int mtk, .int mpl, .int mva, .long mwd, .int mbd, .int mbp, .int mft, .int mfp, .ref mq16, .ref mq17, .ref mq18, .ref mq19, .ref mq20, .ref mq21, .int mlt, .ref mq23, .ref mq24, .ref mq25, .int msd, .ref mq27, .ref mq28, .ref mq29, .ref mq30, .ref mq31, .ref mq32, .int mlr, .int mst, .long mob, .long msb, .ref mq37, .int mln])), (mq1, .inl (mk1, 4, .inl mf1)), (mq2, .inl (mk2, 4, .inl mf2)), (mq3, .inl (mk3, 240, .inr (.inl (vp_updL mf3 x_15.toNatClampNeg r_17))))] H := hP
        have hD : va_D A [(mz, .inr (7, [.int 0, .ref mq1, .ref mq2, .ref mq3, .ref mq4, .ref mq5, .int mtd, .int mat, .int mtk, .int mpl, .int mva, .long mwd, .int mbd, .int mbp, .int mft, .int mfp, .ref mq16, .ref mq17, .ref mq18, .ref mq19, .ref mq20, .ref mq21, .int mlt, .ref mq23, .ref mq24, .ref mq25, .int msd, .ref mq27, .ref mq28, .ref mq29, .ref mq30, .ref mq31, .ref mq32, .int mlr, .int mst, .long mob, .long msb, .ref mq37, .int mln])), (mq1, .inl (mk1, 4, .inl mf1)), (mq2, .inl (mk2, 4, .inl mf2)), (mq3, .inl (mk3, 240, .inr (.inl (vp_updL mf3 x_15.toNatClampNeg r_17))))] := hD
        obtain ⟨f_19, ef_19⟩ : ∃ g, g = vp_updL mf3 x_15.toNatClampNeg r_17 := ⟨_, rfl⟩
        rw [← ef_19] at hP hD
        refine lv_iconst (v := 0) hx hb dX7_write_70 (by decide) ?_
        have hP9 := hP.sub (ws' := [(mz, .inr (7, [.int 0, .ref mq1, .ref mq2, .ref mq3, .ref mq4, .ref mq5, .int mtd, .int mat, .int mtk, .int mpl, .int mva, .long mwd, .int mbd, .int mbp, .int mft, .int mfp, .ref mq16, .ref mq17, .ref mq18, .ref mq19, .ref mq20, .ref mq21, .int mlt, .ref mq23, .ref mq24, .ref mq25, .int msd, .ref mq27, .ref mq28, .ref mq29, .ref mq30, .ref mq31, .ref mq32, .int mlr, .int mst, .long mob, .long msb, .ref mq37, .int mln])), (mq1, .inl (mk1, 4, .inl mf1)), (mq2, .inl (mk2, 4, .inl mf2)), (mq3, .inl (mk3, 240, .inr (.inl f_19)))]) [0, 1, 2, 3] rfl
        have hD9 := hD.sub (ws' := [(mz, .inr (7, [.int 0, .ref mq1, .ref mq2, .ref mq3, .ref mq4, .ref mq5, .int mtd, .int mat, .int mtk, .int mpl, .int mva, .long mwd, .int mbd, .int mbp, .int mft, .int mfp, .ref mq16, .ref mq17, .ref mq18, .ref mq19, .ref mq20, .ref mq21, .int mlt, .ref mq23, .ref mq24, .ref mq25, .int msd, .ref mq27, .ref mq28, .ref mq29, .ref mq30, .ref mq31, .ref mq32, .int mlr, .int mst, .long mob, .long msb, .ref mq37, .int mln])), (mq1, .inl (mk1, 4, .inl mf1)), (mq2, .inl (mk2, 4, .inl mf2)), (mq3, .inl (mk3, 240, .inr (.inl f_19)))]) [0, 1, 2, 3] (by decide) rfl
        have hK9 := hK.sub (tys' := []) [] rfl
        refine W.widen (k := 0) (n := 0) (by omega) (by omega) ?_
        exact W.iret (v := 0) hx hb hr (fun t ht hW => ⟨⟨0, (f_19), rfl, (by first | rfl | ((repeat' split) <;> (first | rfl | (exfalso; omega)))), by rw [ht]; exact hP9, va_K.moved hW.alike hK9, hD9⟩, hS.F ht⟩) hS.2.2 dX7_write_71
      · obtain rfl : r_10 = 0 := r_109
        have hC_20 := hC
        refine lv_if_ne (tgt := 49) hx hb dX7_write_43 (by decide) (fun h => absurd (by decide) h) (fun _ => ?_)
        refine lv_bipush (v := -7) hx hb dX7_write_46 (by decide) ?_
        have hP9 := hP.sub (ws' := [(mz, .inr (7, [.int 0, .ref mq1, .ref mq2, .ref mq3, .ref mq4, .ref mq5, .int mtd, .int mat, .int mtk, .int mpl, .int mva, .long mwd, .int mbd, .int mbp, .int mft, .int mfp, .ref mq16, .ref mq17, .ref mq18, .ref mq19, .ref mq20, .ref mq21, .int mlt, .ref mq23, .ref mq24, .ref mq25, .int msd, .ref mq27, .ref mq28, .ref mq29, .ref mq30, .ref mq31, .ref mq32, .int mlr, .int mst, .long mob, .long msb, .ref mq37, .int mln])), (mq1, .inl (mk1, 4, .inl mf1)), (mq2, .inl (mk2, 4, .inl mf2)), (mq3, .inl (mk3, 240, .inr (.inl mf3)))]) [0, 1, 2, 3] rfl
        have hD9 := hD.sub (ws' := [(mz, .inr (7, [.int 0, .ref mq1, .ref mq2, .ref mq3, .ref mq4, .ref mq5, .int mtd, .int mat, .int mtk, .int mpl, .int mva, .long mwd, .int mbd, .int mbp, .int mft, .int mfp, .ref mq16, .ref mq17, .ref mq18, .ref mq19, .ref mq20, .ref mq21, .int mlt, .ref mq23, .ref mq24, .ref mq25, .int msd, .ref mq27, .ref mq28, .ref mq29, .ref mq30, .ref mq31, .ref mq32, .int mlr, .int mst, .long mob, .long msb, .ref mq37, .int mln])), (mq1, .inl (mk1, 4, .inl mf1)), (mq2, .inl (mk2, 4, .inl mf2)), (mq3, .inl (mk3, 240, .inr (.inl mf3)))]) [0, 1, 2, 3] (by decide) rfl
        have hK9 := hK.sub (tys' := []) [] rfl
        refine W.widen (k := 0) (n := 0) (by omega) (by omega) ?_
        exact W.iret (v := -7) hx hb hr (fun t ht hW => ⟨⟨(-7), (mf3), rfl, (by first | rfl | ((repeat' split) <;> (first | rfl | (exfalso; omega)))), by rw [ht]; exact hP9, va_K.moved hW.alike hK9, hD9⟩, hS.F ht⟩) hS.2.2 dX7_write_48
    · have c_6 : v_5.toInt = (-1) := i_eq (a := v_5) (b := -1) rfl (by decide) c_6
      refine lv_bipush (v := -6) hx hb dX7_write_25 (by decide) ?_
      have hP9 := hP.sub (ws' := [(mz, .inr (7, [.int 0, .ref mq1, .ref mq2, .ref mq3, .ref mq4, .ref mq5, .int mtd, .int mat, .int mtk, .int mpl, .int mva, .long mwd, .int mbd, .int mbp, .int mft, .int mfp, .ref mq16, .ref mq17, .ref mq18, .ref mq19, .ref mq20, .ref mq21, .int mlt, .ref mq23, .ref mq24, .ref mq25, .int msd, .ref mq27, .ref mq28, .ref mq29, .ref mq30, .ref mq31, .ref mq32, .int mlr, .int mst, .long mob, .long msb, .ref mq37, .int mln])), (mq1, .inl (mk1, 4, .inl mf1)), (mq2, .inl (mk2, 4, .inl mf2)), (mq3, .inl (mk3, 240, .inr (.inl mf3)))]) [0, 1, 2, 3] rfl
      have hD9 := hD.sub (ws' := [(mz, .inr (7, [.int 0, .ref mq1, .ref mq2, .ref mq3, .ref mq4, .ref mq5, .int mtd, .int mat, .int mtk, .int mpl, .int mva, .long mwd, .int mbd, .int mbp, .int mft, .int mfp, .ref mq16, .ref mq17, .ref mq18, .ref mq19, .ref mq20, .ref mq21, .int mlt, .ref mq23, .ref mq24, .ref mq25, .int msd, .ref mq27, .ref mq28, .ref mq29, .ref mq30, .ref mq31, .ref mq32, .int mlr, .int mst, .long mob, .long msb, .ref mq37, .int mln])), (mq1, .inl (mk1, 4, .inl mf1)), (mq2, .inl (mk2, 4, .inl mf2)), (mq3, .inl (mk3, 240, .inr (.inl mf3)))]) [0, 1, 2, 3] (by decide) rfl
      have hK9 := hK.sub (tys' := []) [] rfl
      refine W.widen (k := 0) (n := 0) (by omega) (by omega) ?_
      exact W.iret (v := -6) hx hb hr (fun t ht hW => ⟨⟨(-6), (mf3), rfl, (by first | rfl | ((repeat' split) <;> (first | rfl | (exfalso; omega)))), by rw [ht]; exact hP9, va_K.moved hW.alike hK9, hD9⟩, hS.F ht⟩) hS.2.2 dX7_write_27
  · obtain rfl : r_1 = 0 := r_19
    have hC_22 := hC
    refine lv_if_ne (tgt := 15) hx hb dX7_write_9 (by decide) (fun h => absurd (by decide) h) (fun _ => ?_)
    refine lv_bipush (v := -2) hx hb dX7_write_12 (by decide) ?_
    have hP9 := hP.sub (ws' := [(mz, .inr (7, [.int 0, .ref mq1, .ref mq2, .ref mq3, .ref mq4, .ref mq5, .int mtd, .int mat, .int mtk, .int mpl, .int mva, .long mwd, .int mbd, .int mbp, .int mft, .int mfp, .ref mq16, .ref mq17, .ref mq18, .ref mq19, .ref mq20, .ref mq21, .int mlt, .ref mq23, .ref mq24, .ref mq25, .int msd, .ref mq27, .ref mq28, .ref mq29, .ref mq30, .ref mq31, .ref mq32, .int mlr, .int mst, .long mob, .long msb, .ref mq37, .int mln])), (mq1, .inl (mk1, 4, .inl mf1)), (mq2, .inl (mk2, 4, .inl mf2)), (mq3, .inl (mk3, 240, .inr (.inl mf3)))]) [0, 1, 2, 3] rfl
    have hD9 := hD.sub (ws' := [(mz, .inr (7, [.int 0, .ref mq1, .ref mq2, .ref mq3, .ref mq4, .ref mq5, .int mtd, .int mat, .int mtk, .int mpl, .int mva, .long mwd, .int mbd, .int mbp, .int mft, .int mfp, .ref mq16, .ref mq17, .ref mq18, .ref mq19, .ref mq20, .ref mq21, .int mlt, .ref mq23, .ref mq24, .ref mq25, .int msd, .ref mq27, .ref mq28, .ref mq29, .ref mq30, .ref mq31, .ref mq32, .int mlr, .int mst, .long mob, .long msb, .ref mq37, .int mln])), (mq1, .inl (mk1, 4, .inl mf1)), (mq2, .inl (mk2, 4, .inl mf2)), (mq3, .inl (mk3, 240, .inr (.inl mf3)))]) [0, 1, 2, 3] (by decide) rfl
    have hK9 := hK.sub (tys' := []) [] rfl
    refine W.widen (k := 0) (n := 0) (by omega) (by omega) ?_
    exact W.iret (v := -2) hx hb hr (fun t ht hW => ⟨⟨(-2), (mf3), rfl, (by first | rfl | ((repeat' split) <;> (first | rfl | (exfalso; omega)))), by rw [ht]; exact hP9, va_K.moved hW.alike hK9, hD9⟩, hS.F ht⟩) hS.2.2 dX7_write_14

theorem dX7_paste_0 : decode cX7_paste 0 = .ok (.aload_n 0, 1) := by decide +kernel
theorem dX7_paste_1 : decode cX7_paste 1 = .ok (.iconst 0, 1) := by decide +kernel
theorem dX7_paste_2 : decode cX7_paste 2 = .ok (.putfield 80, 3) := by decide +kernel
theorem dX7_paste_5 : decode cX7_paste 5 = .ok (.iload_n 1, 1) := by decide +kernel
theorem dX7_paste_6 : decode cX7_paste 6 = .ok (.invokestatic 89, 3) := by decide +kernel
theorem dX7_paste_9 : decode cX7_paste 9 = .ok (.ifCond .eq 10, 3) := by decide +kernel
theorem dX7_paste_12 : decode cX7_paste 12 = .ok (.iload_n 3, 1) := by decide +kernel
theorem dX7_paste_13 : decode cX7_paste 13 = .ok (.invokestatic 89, 3) := by decide +kernel
theorem dX7_paste_16 : decode cX7_paste 16 = .ok (.ifCond .ne 6, 3) := by decide +kernel
theorem dX7_paste_19 : decode cX7_paste 19 = .ok (.bipush (-2), 2) := by decide +kernel
theorem dX7_paste_21 : decode cX7_paste 21 = .ok (.ireturn, 1) := by decide +kernel
theorem dX7_paste_22 : decode cX7_paste 22 = .ok (.aload_n 0, 1) := by decide +kernel
theorem dX7_paste_23 : decode cX7_paste 23 = .ok (.getfield 7, 3) := by decide +kernel
theorem dX7_paste_26 : decode cX7_paste 26 = .ok (.iload_n 1, 1) := by decide +kernel
theorem dX7_paste_27 : decode cX7_paste 27 = .ok (.iaload, 1) := by decide +kernel
theorem dX7_paste_28 : decode cX7_paste 28 = .ok (.iconst (-1), 1) := by decide +kernel
theorem dX7_paste_29 : decode cX7_paste 29 = .ok (.if_icmp .eq 13, 3) := by decide +kernel
theorem dX7_paste_32 : decode cX7_paste 32 = .ok (.aload_n 0, 1) := by decide +kernel
theorem dX7_paste_33 : decode cX7_paste 33 = .ok (.getfield 7, 3) := by decide +kernel
theorem dX7_paste_36 : decode cX7_paste 36 = .ok (.iload_n 3, 1) := by decide +kernel
theorem dX7_paste_37 : decode cX7_paste 37 = .ok (.iaload, 1) := by decide +kernel
theorem dX7_paste_38 : decode cX7_paste 38 = .ok (.iconst (-1), 1) := by decide +kernel
theorem dX7_paste_39 : decode cX7_paste 39 = .ok (.if_icmp .ne 6, 3) := by decide +kernel
theorem dX7_paste_42 : decode cX7_paste 42 = .ok (.bipush (-6), 2) := by decide +kernel
theorem dX7_paste_44 : decode cX7_paste 44 = .ok (.ireturn, 1) := by decide +kernel
theorem dX7_paste_45 : decode cX7_paste 45 = .ok (.aload_n 0, 1) := by decide +kernel
theorem dX7_paste_46 : decode cX7_paste 46 = .ok (.getfield 7, 3) := by decide +kernel
theorem dX7_paste_49 : decode cX7_paste 49 = .ok (.iload_n 1, 1) := by decide +kernel
theorem dX7_paste_50 : decode cX7_paste 50 = .ok (.iaload, 1) := by decide +kernel
theorem dX7_paste_51 : decode cX7_paste 51 = .ok (.aload_n 0, 1) := by decide +kernel
theorem dX7_paste_52 : decode cX7_paste 52 = .ok (.getfield 7, 3) := by decide +kernel
theorem dX7_paste_55 : decode cX7_paste 55 = .ok (.iload_n 3, 1) := by decide +kernel
theorem dX7_paste_56 : decode cX7_paste 56 = .ok (.iaload, 1) := by decide +kernel
theorem dX7_paste_57 : decode cX7_paste 57 = .ok (.if_icmp .eq 6, 3) := by decide +kernel
theorem dX7_paste_60 : decode cX7_paste 60 = .ok (.bipush (-8), 2) := by decide +kernel
theorem dX7_paste_62 : decode cX7_paste 62 = .ok (.ireturn, 1) := by decide +kernel
theorem dX7_paste_63 : decode cX7_paste 63 = .ok (.iload_n 2, 1) := by decide +kernel
theorem dX7_paste_64 : decode cX7_paste 64 = .ok (.ifCond .lt 48, 3) := by decide +kernel
theorem dX7_paste_67 : decode cX7_paste 67 = .ok (.iload 4, 2) := by decide +kernel
theorem dX7_paste_69 : decode cX7_paste 69 = .ok (.ifCond .lt 43, 3) := by decide +kernel
theorem dX7_paste_72 : decode cX7_paste 72 = .ok (.iload 5, 2) := by decide +kernel
theorem dX7_paste_74 : decode cX7_paste 74 = .ok (.ifCond .lt 38, 3) := by decide +kernel
theorem dX7_paste_77 : decode cX7_paste 77 = .ok (.iload_n 2, 1) := by decide +kernel
theorem dX7_paste_78 : decode cX7_paste 78 = .ok (.i2l, 1) := by decide +kernel
theorem dX7_paste_79 : decode cX7_paste 79 = .ok (.iload 5, 2) := by decide +kernel
theorem dX7_paste_81 : decode cX7_paste 81 = .ok (.i2l, 1) := by decide +kernel
theorem dX7_paste_82 : decode cX7_paste 82 = .ok (.ladd, 1) := by decide +kernel
theorem dX7_paste_83 : decode cX7_paste 83 = .ok (.aload_n 0, 1) := by decide +kernel
theorem dX7_paste_84 : decode cX7_paste 84 = .ok (.getfield 13, 3) := by decide +kernel
theorem dX7_paste_87 : decode cX7_paste 87 = .ok (.iload_n 1, 1) := by decide +kernel
theorem dX7_paste_88 : decode cX7_paste 88 = .ok (.iaload, 1) := by decide +kernel
theorem dX7_paste_89 : decode cX7_paste 89 = .ok (.i2l, 1) := by decide +kernel
theorem dX7_paste_90 : decode cX7_paste 90 = .ok (.lcmp, 1) := by decide +kernel
theorem dX7_paste_91 : decode cX7_paste 91 = .ok (.ifCond .gt 21, 3) := by decide +kernel
theorem dX7_paste_94 : decode cX7_paste 94 = .ok (.iload 4, 2) := by decide +kernel
theorem dX7_paste_96 : decode cX7_paste 96 = .ok (.i2l, 1) := by decide +kernel
theorem dX7_paste_97 : decode cX7_paste 97 = .ok (.iload 5, 2) := by decide +kernel
theorem dX7_paste_99 : decode cX7_paste 99 = .ok (.i2l, 1) := by decide +kernel
theorem dX7_paste_100 : decode cX7_paste 100 = .ok (.ladd, 1) := by decide +kernel
theorem dX7_paste_101 : decode cX7_paste 101 = .ok (.aload_n 0, 1) := by decide +kernel
theorem dX7_paste_102 : decode cX7_paste 102 = .ok (.getfield 13, 3) := by decide +kernel
theorem dX7_paste_105 : decode cX7_paste 105 = .ok (.iload_n 3, 1) := by decide +kernel
theorem dX7_paste_106 : decode cX7_paste 106 = .ok (.iaload, 1) := by decide +kernel
theorem dX7_paste_107 : decode cX7_paste 107 = .ok (.i2l, 1) := by decide +kernel
theorem dX7_paste_108 : decode cX7_paste 108 = .ok (.lcmp, 1) := by decide +kernel
theorem dX7_paste_109 : decode cX7_paste 109 = .ok (.ifCond .le 6, 3) := by decide +kernel
theorem dX7_paste_112 : decode cX7_paste 112 = .ok (.bipush (-7), 2) := by decide +kernel
theorem dX7_paste_114 : decode cX7_paste 114 = .ok (.ireturn, 1) := by decide +kernel
theorem dX7_paste_115 : decode cX7_paste 115 = .ok (.iconst 0, 1) := by decide +kernel
theorem dX7_paste_116 : decode cX7_paste 116 = .ok (.istore 6, 2) := by decide +kernel
theorem dX7_paste_118 : decode cX7_paste 118 = .ok (.iload 6, 2) := by decide +kernel
theorem dX7_paste_120 : decode cX7_paste 120 = .ok (.iload 5, 2) := by decide +kernel
theorem dX7_paste_122 : decode cX7_paste 122 = .ok (.if_icmp .ge 30, 3) := by decide +kernel
theorem dX7_paste_125 : decode cX7_paste 125 = .ok (.aload_n 0, 1) := by decide +kernel
theorem dX7_paste_126 : decode cX7_paste 126 = .ok (.getfield 20, 3) := by decide +kernel
theorem dX7_paste_129 : decode cX7_paste 129 = .ok (.iload 6, 2) := by decide +kernel
theorem dX7_paste_131 : decode cX7_paste 131 = .ok (.aload_n 0, 1) := by decide +kernel
theorem dX7_paste_132 : decode cX7_paste 132 = .ok (.getfield 16, 3) := by decide +kernel
theorem dX7_paste_135 : decode cX7_paste 135 = .ok (.bipush 60, 2) := by decide +kernel
theorem dX7_paste_137 : decode cX7_paste 137 = .ok (.iload_n 1, 1) := by decide +kernel
theorem dX7_paste_138 : decode cX7_paste 138 = .ok (.imul, 1) := by decide +kernel
theorem dX7_paste_139 : decode cX7_paste 139 = .ok (.iload_n 2, 1) := by decide +kernel
theorem dX7_paste_140 : decode cX7_paste 140 = .ok (.iadd, 1) := by decide +kernel
theorem dX7_paste_141 : decode cX7_paste 141 = .ok (.iload 6, 2) := by decide +kernel
theorem dX7_paste_143 : decode cX7_paste 143 = .ok (.iadd, 1) := by decide +kernel
theorem dX7_paste_144 : decode cX7_paste 144 = .ok (.laload, 1) := by decide +kernel
theorem dX7_paste_145 : decode cX7_paste 145 = .ok (.lastore, 1) := by decide +kernel
theorem dX7_paste_146 : decode cX7_paste 146 = .ok (.iinc 6 1, 3) := by decide +kernel
theorem dX7_paste_149 : decode cX7_paste 149 = .ok (.goto (-31), 3) := by decide +kernel
theorem dX7_paste_152 : decode cX7_paste 152 = .ok (.iconst 0, 1) := by decide +kernel
theorem dX7_paste_153 : decode cX7_paste 153 = .ok (.istore 6, 2) := by decide +kernel
theorem dX7_paste_155 : decode cX7_paste 155 = .ok (.iload 6, 2) := by decide +kernel
theorem dX7_paste_157 : decode cX7_paste 157 = .ok (.iload 5, 2) := by decide +kernel
theorem dX7_paste_159 : decode cX7_paste 159 = .ok (.if_icmp .ge 31, 3) := by decide +kernel
theorem dX7_paste_162 : decode cX7_paste 162 = .ok (.aload_n 0, 1) := by decide +kernel
theorem dX7_paste_163 : decode cX7_paste 163 = .ok (.getfield 16, 3) := by decide +kernel
theorem dX7_paste_166 : decode cX7_paste 166 = .ok (.bipush 60, 2) := by decide +kernel
theorem dX7_paste_168 : decode cX7_paste 168 = .ok (.iload_n 3, 1) := by decide +kernel
theorem dX7_paste_169 : decode cX7_paste 169 = .ok (.imul, 1) := by decide +kernel
theorem dX7_paste_170 : decode cX7_paste 170 = .ok (.iload 4, 2) := by decide +kernel
theorem dX7_paste_172 : decode cX7_paste 172 = .ok (.iadd, 1) := by decide +kernel
theorem dX7_paste_173 : decode cX7_paste 173 = .ok (.iload 6, 2) := by decide +kernel
theorem dX7_paste_175 : decode cX7_paste 175 = .ok (.iadd, 1) := by decide +kernel
theorem dX7_paste_176 : decode cX7_paste 176 = .ok (.aload_n 0, 1) := by decide +kernel
theorem dX7_paste_177 : decode cX7_paste 177 = .ok (.getfield 20, 3) := by decide +kernel
theorem dX7_paste_180 : decode cX7_paste 180 = .ok (.iload 6, 2) := by decide +kernel
theorem dX7_paste_182 : decode cX7_paste 182 = .ok (.laload, 1) := by decide +kernel
theorem dX7_paste_183 : decode cX7_paste 183 = .ok (.lastore, 1) := by decide +kernel
theorem dX7_paste_184 : decode cX7_paste 184 = .ok (.iinc 6 1, 3) := by decide +kernel
theorem dX7_paste_187 : decode cX7_paste 187 = .ok (.goto (-32), 3) := by decide +kernel
theorem dX7_paste_190 : decode cX7_paste 190 = .ok (.iconst 0, 1) := by decide +kernel
theorem dX7_paste_191 : decode cX7_paste 191 = .ok (.ireturn, 1) := by decide +kernel
def wz_X7_paste : List Cond := .code yX7_paste cX7_paste 7 (some .int) :: ([Cond.fieldLink RX7 80 "HedgeMazeModel" "thrown" "I", Cond.fieldLink RX7 7 "HedgeMazeModel" "width" "[I", Cond.fieldLink RX7 13 "HedgeMazeModel" "many" "[I", Cond.fieldLink RX7 16 "HedgeMazeModel" "cells" "[J", Cond.fieldLink RX7 20 "HedgeMazeModel" "moved" "[J", Cond.methodLink RX7 89 yX7_isSlot, Cond.static yX7_isSlot, Cond.initialized RX7, Cond.code yX7_isSlot cX7_isSlot 1 (some .boolean), Cond.constantLong RX7 83 (3), Cond.methodLink RX7 85 yX7_in, Cond.static yX7_in, Cond.code yX7_in cX7_in 6 (some .boolean)] ++ wsX70)
theorem wd_X7_paste_0 : Cond.fieldLink RX7 80 "HedgeMazeModel" "thrown" "I" ∈ wz_X7_paste := List.mem_of_getElem? (i := 1) rfl
theorem wd_X7_paste_1 : Cond.fieldLink RX7 7 "HedgeMazeModel" "width" "[I" ∈ wz_X7_paste := List.mem_of_getElem? (i := 2) rfl
theorem wd_X7_paste_2 : Cond.fieldLink RX7 13 "HedgeMazeModel" "many" "[I" ∈ wz_X7_paste := List.mem_of_getElem? (i := 3) rfl
theorem wd_X7_paste_3 : Cond.fieldLink RX7 16 "HedgeMazeModel" "cells" "[J" ∈ wz_X7_paste := List.mem_of_getElem? (i := 4) rfl
theorem wd_X7_paste_4 : Cond.fieldLink RX7 20 "HedgeMazeModel" "moved" "[J" ∈ wz_X7_paste := List.mem_of_getElem? (i := 5) rfl
theorem in_X7_paste_X7 : ∀ w ∈ wsX70, w ∈ wz_X7_paste := fun _ h => List.mem_cons_of_mem _ (List.mem_append_right _ h)
set_option maxRecDepth 20000 in
theorem g_X7_paste_X7_isSlot : GoodIn wz_X7_paste (va_wsS RX7 89 yX7_isSlot wz_X7_isSlot) := goodIn_r _ [6, 7, 8, 9, 10, 11, 12, 8, 13] rfl (by decide +kernel)
set_option maxHeartbeats 4000000 in
set_option maxRecDepth 100000 in
theorem c_X7_paste (l : Launch) (dC : Nat → ClassId) (dI : Nat → Nat → Nat) (sz : Nat) (mz : Nat) (mth : Int32) (mq1 : Nat) (mq2 : Nat) (mq3 : Nat) (mq4 : Nat) (mq5 : Nat) (mtd : Int32) (mat : Int32) (mtk : Int32) (mpl : Int32) (mva : Int32) (mwd : Int64) (mbd : Int32) (mbp : Int32) (mft : Int32) (mfp : Int32) (mq16 : Nat) (mq17 : Nat) (mq18 : Nat) (mq19 : Nat) (mq20 : Nat) (mq21 : Nat) (mlt : Int32) (mq23 : Nat) (mq24 : Nat) (mq25 : Nat) (msd : Int32) (mq27 : Nat) (mq28 : Nat) (mq29 : Nat) (mq30 : Nat) (mq31 : Nat) (mq32 : Nat) (mlr : Int32) (mst : Int32) (mob : Int64) (msb : Int64) (mq37 : Nat) (mln : Int32) (mk1 : ClassId) (mf1 : Nat → Int32) (mk2 : ClassId) (mf2 : Nat → Int32) (mk3 : ClassId) (mf3 : Nat → Int64) (mk4 : ClassId) (mf4 : Nat → Int64) (p0 : Int32) (p1 : Int32) (p2 : Int32) (p3 : Int32) (p4 : Int32) (hR_mq2 : RG mf2 4 0 60) : Met l yX7_paste wz_X7_paste ({ frames := 2, cells := 0, slots := 0, locals := 45 }) (va_Pc [.ref mz, .int p0, .int p1, .int p2, .int p3, .int p4] (fun U => U.heap.size = sz ∧ va_P (dC, dI) vwCl [(mz, .inr (7, [.int mth, .ref mq1, .ref mq2, .ref mq3, .ref mq4, .ref mq5, .int mtd, .int mat, .int mtk, .int mpl, .int mva, .long mwd, .int mbd, .int mbp, .int mft, .int mfp, .ref mq16, .ref mq17, .ref mq18, .ref mq19, .ref mq20, .ref mq21, .int mlt, .ref mq23, .ref mq24, .ref mq25, .int msd, .ref mq27, .ref mq28, .ref mq29, .ref mq30, .ref mq31, .ref mq32, .int mlr, .int mst, .long mob, .long msb, .ref mq37, .int mln])), (mq1, .inl (mk1, 4, .inl mf1)), (mq2, .inl (mk2, 4, .inl mf2)), (mq3, .inl (mk3, 240, .inr (.inl mf3))), (mq4, .inl (mk4, 60, .inr (.inl mf4)))] U.heap ∧ va_K (dC, dI) vwCl [(mk1, .int), (mk2, .int), (mk3, .long), (mk4, .long)] U ∧ va_D (fun _ => True) [(mz, .inr (7, [.int mth, .ref mq1, .ref mq2, .ref mq3, .ref mq4, .ref mq5, .int mtd, .int mat, .int mtk, .int mpl, .int mva, .long mwd, .int mbd, .int mbp, .int mft, .int mfp, .ref mq16, .ref mq17, .ref mq18, .ref mq19, .ref mq20, .ref mq21, .int mlt, .ref mq23, .ref mq24, .ref mq25, .int msd, .ref mq27, .ref mq28, .ref mq29, .ref mq30, .ref mq31, .ref mq32, .int mlr, .int mst, .long mob, .long msb, .ref mq37, .int mln])), (mq1, .inl (mk1, 4, .inl mf1)), (mq2, .inl (mk2, 4, .inl mf2)), (mq3, .inl (mk3, 240, .inr (.inl mf3))), (mq4, .inl (mk4, 60, .inr (.inl mf4)))])) (va_Qi (fun (r : Int32) (u : (Nat → Int64) × (Nat → Int64)) => (r = if (0 ≤ p0.toInt ∧ p0.toInt ≤ 3) ∧ (0 ≤ p2.toInt ∧ p2.toInt ≤ 3) then (if (mf1 p0.toNatClampNeg).toInt = -1 ∨ (mf1 p2.toNatClampNeg).toInt = -1 then -6 else if ¬ (mf1 p0.toNatClampNeg).toInt = (mf1 p2.toNatClampNeg).toInt then -8 else if p1.toInt < 0 ∨ p3.toInt < 0 ∨ p4.toInt < 0 ∨ (mf2 p0.toNatClampNeg).toInt < p1.toInt + p4.toInt ∨ (mf2 p2.toNatClampNeg).toInt < p3.toInt + p4.toInt then -7 else 0) else -2)) (fun (u : (Nat → Int64) × (Nat → Int64)) (t : State) => va_P (dC, dI) vwCl [(mz, .inr (7, [.int 0, .ref mq1, .ref mq2, .ref mq3, .ref mq4, .ref mq5, .int mtd, .int mat, .int mtk, .int mpl, .int mva, .long mwd, .int mbd, .int mbp, .int mft, .int mfp, .ref mq16, .ref mq17, .ref mq18, .ref mq19, .ref mq20, .ref mq21, .int mlt, .ref mq23, .ref mq24, .ref mq25, .int msd, .ref mq27, .ref mq28, .ref mq29, .ref mq30, .ref mq31, .ref mq32, .int mlr, .int mst, .long mob, .long msb, .ref mq37, .int mln])), (mq1, .inl (mk1, 4, .inl mf1)), (mq2, .inl (mk2, 4, .inl mf2)), (mq3, .inl (mk3, 240, .inr (.inl u.1))), (mq4, .inl (mk4, 60, .inr (.inl u.2)))] t.heap ∧ va_K (dC, dI) vwCl [] t ∧ va_D (va_A [(mz, .inr (7, [.int mth, .ref mq1, .ref mq2, .ref mq3, .ref mq4, .ref mq5, .int mtd, .int mat, .int mtk, .int mpl, .int mva, .long mwd, .int mbd, .int mbp, .int mft, .int mfp, .ref mq16, .ref mq17, .ref mq18, .ref mq19, .ref mq20, .ref mq21, .int mlt, .ref mq23, .ref mq24, .ref mq25, .int msd, .ref mq27, .ref mq28, .ref mq29, .ref mq30, .ref mq31, .ref mq32, .int mlr, .int mst, .long mob, .long msb, .ref mq37, .int mln])), (mq1, .inl (mk1, 4, .inl mf1)), (mq2, .inl (mk2, 4, .inl mf2)), (mq3, .inl (mk3, 240, .inr (.inl mf3))), (mq4, .inl (mk4, 60, .inr (.inl mf4)))] sz) [(mz, .inr (7, [.int 0, .ref mq1, .ref mq2, .ref mq3, .ref mq4, .ref mq5, .int mtd, .int mat, .int mtk, .int mpl, .int mva, .long mwd, .int mbd, .int mbp, .int mft, .int mfp, .ref mq16, .ref mq17, .ref mq18, .ref mq19, .ref mq20, .ref mq21, .int mlt, .ref mq23, .ref mq24, .ref mq25, .int msd, .ref mq27, .ref mq28, .ref mq29, .ref mq30, .ref mq31, .ref mq32, .int mlr, .int mst, .long mob, .long msb, .ref mq37, .int mln])), (mq1, .inl (mk1, 4, .inl mf1)), (mq2, .inl (mk2, 4, .inl mf2)), (mq3, .inl (mk3, 240, .inr (.inl u.1))), (mq4, .inl (mk4, 60, .inr (.inl u.2)))]) (va_A [(mz, .inr (7, [.int mth, .ref mq1, .ref mq2, .ref mq3, .ref mq4, .ref mq5, .int mtd, .int mat, .int mtk, .int mpl, .int mva, .long mwd, .int mbd, .int mbp, .int mft, .int mfp, .ref mq16, .ref mq17, .ref mq18, .ref mq19, .ref mq20, .ref mq21, .int mlt, .ref mq23, .ref mq24, .ref mq25, .int msd, .ref mq27, .ref mq28, .ref mq29, .ref mq30, .ref mq31, .ref mq32, .int mlr, .int mst, .long mob, .long msb, .ref mq37, .int mln])), (mq1, .inl (mk1, 4, .inl mf1)), (mq2, .inl (mk2, 4, .inl mf2)), (mq3, .inl (mk3, 240, .inr (.inl mf3))), (mq4, .inl (mk4, 60, .inr (.inl mf4)))] sz)) 0 0 (va_A [(mz, .inr (7, [.int mth, .ref mq1, .ref mq2, .ref mq3, .ref mq4, .ref mq5, .int mtd, .int mat, .int mtk, .int mpl, .int mva, .long mwd, .int mbd, .int mbp, .int mft, .int mfp, .ref mq16, .ref mq17, .ref mq18, .ref mq19, .ref mq20, .ref mq21, .int mlt, .ref mq23, .ref mq24, .ref mq25, .int msd, .ref mq27, .ref mq28, .ref mq29, .ref mq30, .ref mq31, .ref mq32, .int mlr, .int mst, .long mob, .long msb, .ref mq37, .int mln])), (mq1, .inl (mk1, 4, .inl mf1)), (mq2, .inl (mk2, 4, .inl mf2)), (mq3, .inl (mk3, 240, .inr (.inl mf3))), (mq4, .inl (mk4, 60, .inr (.inl mf4)))] sz) := by
  refine Met.ofW (cc := cX7_paste) (maxL := 7) (ret := (some .int)) (by decide) rfl ?_
  intro p e s m args below meth c s₁ B hml hv
  obtain ⟨rfl, hsz, hP, hK, hD0⟩ := hv
  have hx := B.exec
  have hb := B.bytes
  have hr := B.returns
  have hts := atoms_spec (ws := wz_X7_paste) B.pre
  have hown : s.vm.findClass RX7 = some m.cls := findClass_of_methodNamed B.named
  have hlocks := B.notSynchronized
  subst hsz
  have hD := hD0.self (sz := s.heap.size)
  generalize hAe : va_A [(mz, .inr (7, [.int mth, .ref mq1, .ref mq2, .ref mq3, .ref mq4, .ref mq5, .int mtd, .int mat, .int mtk, .int mpl, .int mva, .long mwd, .int mbd, .int mbp, .int mft, .int mfp, .ref mq16, .ref mq17, .ref mq18, .ref mq19, .ref mq20, .ref mq21, .int mlt, .ref mq23, .ref mq24, .ref mq25, .int msd, .ref mq27, .ref mq28, .ref mq29, .ref mq30, .ref mq31, .ref mq32, .int mlr, .int mst, .long mob, .long msb, .ref mq37, .int mln])), (mq1, .inl (mk1, 4, .inl mf1)), (mq2, .inl (mk2, 4, .inl mf2)), (mq3, .inl (mk3, 240, .inr (.inl mf3))), (mq4, .inl (mk4, 60, .inr (.inl mf4)))] s.heap.size = A at hD ⊢
  have hA : ∀ q : Nat, s.heap.size ≤ q → A q := fun q h => by rw [← hAe]; exact Or.inr h
  have hS : va_S A s.heap s.heap [] := va_S.rf
  have hP : va_P (dC, dI) vwCl [(mz, .inr (7, [.int mth, .ref mq1, .ref mq2, .ref mq3, .ref mq4, .ref mq5, .int mtd, .int mat, .int mtk, .int mpl, .int mva, .long mwd, .int mbd, .int mbp, .int mft, .int mfp, .ref mq16, .ref mq17, .ref mq18, .ref mq19, .ref mq20, .ref mq21, .int mlt, .ref mq23, .ref mq24, .ref mq25, .int msd, .ref mq27, .ref mq28, .ref mq29, .ref mq30, .ref mq31, .ref mq32, .int mlr, .int mst, .long mob, .long msb, .ref mq37, .int mln])), (mq1, .inl (mk1, 4, .inl mf1)), (mq2, .inl (mk2, 4, .inl mf2)), (mq3, .inl (mk3, 240, .inr (.inl mf3))), (mq4, .inl (mk4, 60, .inr (.inl mf4)))] s.heap := hP
  have hl := lv_entry ([.ref mz, .int p0, .int p1, .int p2, .int p3, .int p4]) (n := 7) (Nat.le_of_ble_eq_true rfl)
  rw [lg_entry_eq]
  generalize (lg_sl ([.ref mz, .int p0, .int p1, .int p2, .int p3, .int p4]) ++ List.replicate (7 - (lg_sl ([.ref mz, .int p0, .int p1, .int p2, .int p3, .int p4])).length) Slot.unset).toArray = ls at hl ⊢
  have hl : lv_has ls 7 [(0, .ref mz), (1, .int p0), (2, .int p1), (3, .int p2), (4, .int p3), (5, .int p4)] := hl
  have hr1 := i_rng p1
  have hr3 := i_rng p3
  have hr4 := i_rng p4
  refine lv_aload_n hx hb dX7_paste_0 rfl (lv_at hl 0 rfl) ?_
  refine lv_iconst (v := 0) hx hb dX7_paste_1 (by decide) ?_
  refine va_put (D := (dC, dI)) (ci := 7) (v := .int 0) (ty := .int) (C := RX7) (T := TX7) (N := 39) hx hb hts in_X7_paste_X7 tyX7 tyX7_ok nmX7 hown hK hP hD hS 0 rfl rfl 0 (by decide) (hts _ wd_X7_paste_0) (fun _ h9 => h9) rfl (by decide +kernel) rfl rfl (Nat.le_of_ble_eq_true rfl) dX7_paste_2 (fun H locs hP hD hS => ?_)
  have hP : va_P (dC, dI) vwCl [(mz, .inr (7, [.int 0, .ref mq1, .ref mq2, .ref mq3, .ref mq4, .ref mq5, .int mtd, .int mat, .int mtk, .int mpl, .int mva, .long mwd, .int mbd, .int mbp, .int mft, .int mfp, .ref mq16, .ref mq17, .ref mq18, .ref mq19, .ref mq20, .ref mq21, .int mlt, .ref mq23, .ref mq24, .ref mq25, .int msd, .ref mq27, .ref mq28, .ref mq29, .ref mq30, .ref mq31, .ref mq32, .int mlr, .int mst, .long mob, .long msb, .ref mq37, .int mln])), (mq1, .inl (mk1, 4, .inl mf1)), (mq2, .inl (mk2, 4, .inl mf2)), (mq3, .inl (mk3, 240, .inr (.inl mf3))), (mq4, .inl (mk4, 60, .inr (.inl mf4)))] H := hP
  have hD : va_D A [(mz, .inr (7, [.int 0, .ref mq1, .ref mq2, .ref mq3, .ref mq4, .ref mq5, .int mtd, .int mat, .int mtk, .int mpl, .int mva, .long mwd, .int mbd, .int mbp, .int mft, .int mfp, .ref mq16, .ref mq17, .ref mq18, .ref mq19, .ref mq20, .ref mq21, .int mlt, .ref mq23, .ref mq24, .ref mq25, .int msd, .ref mq27, .ref mq28, .ref mq29, .ref mq30, .ref mq31, .ref mq32, .int mlr, .int mst, .long mob, .long msb, .ref mq37, .int mln])), (mq1, .inl (mk1, 4, .inl mf1)), (mq2, .inl (mk2, 4, .inl mf2)), (mq3, .inl (mk3, 240, .inr (.inl mf3))), (mq4, .inl (mk4, 60, .inr (.inl mf4)))] := hD
  refine lv_iload_n hx hb dX7_paste_5 rfl (lv_at hl 1 rfl) ?_
  have hPc := hP.sub (ws' := []) [] rfl
  have hDc := hD.sub (ws' := []) [] (by decide) rfl
  have hKc := hK.sub (tys' := []) [] rfl
  have hFc := va_free (wc := []) hD hS hA [] rfl
  refine va_calli (va_runS (As := [.int p0]) (rest := []) ⟨hx, hb, hml, hown, hts⟩ (c_X7_isSlot l dC dI H.size p0 ) (va_cwS 1 hts g_X7_paste_X7_isSlot rfl rfl rfl (by decide +kernel) ⟨Nat.le_of_ble_eq_true rfl, Nat.le_of_ble_eq_true rfl⟩) ⟨fun a U g mk q => by obtain ⟨q0, q1, qP, qK, qD⟩ := q; exact ⟨q0, q1, qP, va_K.moved (u := U) (U := U.calling g mk a) (Vm.Alike.refl U.vm) qK, qD⟩, fun U hU hW => ⟨rfl, by rw [hU], by rw [hU]; exact hPc, va_K.moved hW.alike hKc, hDc.weaken (fun _ _ _ _ => trivial)⟩⟩ rfl rfl hl.1 rfl (lv_room (Nat.le_of_ble_eq_true rfl)) dX7_paste_6 ⟨Nat.le_of_ble_eq_true rfl, Nat.le_of_ble_eq_true rfl⟩) hS (fun q _ h => hFc q h) hFc (fun r_1 u t H1 locs ht hvm hw_2 hB hz1 hk1 hS => ?_)
  have hP1 : va_P (dC, dI) vwCl [] H1 := i_nilP
  have hD1 : va_D (va_A [] H.size) [] := i_nilD
  try dsimp only at hw_2
  obtain ⟨hP, hD⟩ := va_join (wr := [(mz, .inr (7, [.int 0, .ref mq1, .ref mq2, .ref mq3, .ref mq4, .ref mq5, .int mtd, .int mat, .int mtk, .int mpl, .int mva, .long mwd, .int mbd, .int mbp, .int mft, .int mfp, .ref mq16, .ref mq17, .ref mq18, .ref mq19, .ref mq20, .ref mq21, .int mlt, .ref mq23, .ref mq24, .ref mq25, .int msd, .ref mq27, .ref mq28, .ref mq29, .ref mq30, .ref mq31, .ref mq32, .int mlr, .int mst, .long mob, .long msb, .ref mq37, .int mln])), (mq1, .inl (mk1, 4, .inl mf1)), (mq2, .inl (mk2, 4, .inl mf2)), (mq3, .inl (mk3, 240, .inr (.inl mf3))), (mq4, .inl (mk4, 60, .inr (.inl mf4)))]) (w1 := []) hP hD [] [0, 1, 2, 3, 4] rfl rfl (by decide) (by decide) hk1 hFc hP1 hD1
  generalize H1 = H at hP hS ⊢
  have hP : va_P (dC, dI) vwCl [(mz, .inr (7, [.int 0, .ref mq1, .ref mq2, .ref mq3, .ref mq4, .ref mq5, .int mtd, .int mat, .int mtk, .int mpl, .int mva, .long mwd, .int mbd, .int mbp, .int mft, .int mfp, .ref mq16, .ref mq17, .ref mq18, .ref mq19, .ref mq20, .ref mq21, .int mlt, .ref mq23, .ref mq24, .ref mq25, .int msd, .ref mq27, .ref mq28, .ref mq29, .ref mq30, .ref mq31, .ref mq32, .int mlr, .int mst, .long mob, .long msb, .ref mq37, .int mln])), (mq1, .inl (mk1, 4, .inl mf1)), (mq2, .inl (mk2, 4, .inl mf2)), (mq3, .inl (mk3, 240, .inr (.inl mf3))), (mq4, .inl (mk4, 60, .inr (.inl mf4)))] H := hP
  have hD : va_D A [(mz, .inr (7, [.int 0, .ref mq1, .ref mq2, .ref mq3, .ref mq4, .ref mq5, .int mtd, .int mat, .int mtk, .int mpl, .int mva, .long mwd, .int mbd, .int mbp, .int mft, .int mfp, .ref mq16, .ref mq17, .ref mq18, .ref mq19, .ref mq20, .ref mq21, .int mlt, .ref mq23, .ref mq24, .ref mq25, .int msd, .ref mq27, .ref mq28, .ref mq29, .ref mq30, .ref mq31, .ref mq32, .int mlr, .int mst, .long mob, .long msb, .ref mq37, .int mln])), (mq1, .inl (mk1, 4, .inl mf1)), (mq2, .inl (mk2, 4, .inl mf2)), (mq3, .inl (mk3, 240, .inr (.inl mf3))), (mq4, .inl (mk4, 60, .inr (.inl mf4)))] := hD
  rcases i_bool hw_2 with ⟨r_19, hC⟩ | ⟨r_19, hC⟩
  · obtain rfl : r_1 = 1 := r_19
    have hC_3 := hC
    refine lv_if_eq (tgt := 19) hx hb dX7_paste_9 (by decide) (fun h => absurd h (by decide)) (fun _ => ?_)
    refine lv_iload_n hx hb dX7_paste_12 rfl (lv_at hl 3 rfl) ?_
    have hPc := hP.sub (ws' := []) [] rfl
    have hDc := hD.sub (ws' := []) [] (by decide) rfl
    have hKc := hK.sub (tys' := []) [] rfl
    have hFc := va_free (wc := []) hD hS hA [] rfl
    refine va_calli (va_runS (As := [.int p2]) (rest := []) ⟨hx, hb, hml, hown, hts⟩ (c_X7_isSlot l dC dI H.size p2 ) (va_cwS 1 hts g_X7_paste_X7_isSlot rfl rfl rfl (by decide +kernel) ⟨Nat.le_of_ble_eq_true rfl, Nat.le_of_ble_eq_true rfl⟩) ⟨fun a U g mk q => by obtain ⟨q0, q1, qP, qK, qD⟩ := q; exact ⟨q0, q1, qP, va_K.moved (u := U) (U := U.calling g mk a) (Vm.Alike.refl U.vm) qK, qD⟩, fun U hU hW => ⟨rfl, by rw [hU], by rw [hU]; exact hPc, va_K.moved hW.alike hKc, hDc.weaken (fun _ _ _ _ => trivial)⟩⟩ rfl rfl hl.1 rfl (lv_room (Nat.le_of_ble_eq_true rfl)) dX7_paste_13 ⟨Nat.le_of_ble_eq_true rfl, Nat.le_of_ble_eq_true rfl⟩) hS (fun q _ h => hFc q h) hFc (fun r_5 u t H1 locs ht hvm hw_6 hB hz1 hk1 hS => ?_)
    have hP1 : va_P (dC, dI) vwCl [] H1 := i_nilP
    have hD1 : va_D (va_A [] H.size) [] := i_nilD
    try dsimp only at hw_6
    obtain ⟨hP, hD⟩ := va_join (wr := [(mz, .inr (7, [.int 0, .ref mq1, .ref mq2, .ref mq3, .ref mq4, .ref mq5, .int mtd, .int mat, .int mtk, .int mpl, .int mva, .long mwd, .int mbd, .int mbp, .int mft, .int mfp, .ref mq16, .ref mq17, .ref mq18, .ref mq19, .ref mq20, .ref mq21, .int mlt, .ref mq23, .ref mq24, .ref mq25, .int msd, .ref mq27, .ref mq28, .ref mq29, .ref mq30, .ref mq31, .ref mq32, .int mlr, .int mst, .long mob, .long msb, .ref mq37, .int mln])), (mq1, .inl (mk1, 4, .inl mf1)), (mq2, .inl (mk2, 4, .inl mf2)), (mq3, .inl (mk3, 240, .inr (.inl mf3))), (mq4, .inl (mk4, 60, .inr (.inl mf4)))]) (w1 := []) hP hD [] [0, 1, 2, 3, 4] rfl rfl (by decide) (by decide) hk1 hFc hP1 hD1
    generalize H1 = H at hP hS ⊢
    have hP : va_P (dC, dI) vwCl [(mz, .inr (7, [.int 0, .ref mq1, .ref mq2, .ref mq3, .ref mq4, .ref mq5, .int mtd, .int mat, .int mtk, .int mpl, .int mva, .long mwd, .int mbd, .int mbp, .int mft, .int mfp, .ref mq16, .ref mq17, .ref mq18, .ref mq19, .ref mq20, .ref mq21, .int mlt, .ref mq23, .ref mq24, .ref mq25, .int msd, .ref mq27, .ref mq28, .ref mq29, .ref mq30, .ref mq31, .ref mq32, .int mlr, .int mst, .long mob, .long msb, .ref mq37, .int mln])), (mq1, .inl (mk1, 4, .inl mf1)), (mq2, .inl (mk2, 4, .inl mf2)), (mq3, .inl (mk3, 240, .inr (.inl mf3))), (mq4, .inl (mk4, 60, .inr (.inl mf4)))] H := hP
    have hD : va_D A [(mz, .inr (7, [.int 0, .ref mq1, .ref mq2, .ref mq3, .ref mq4, .ref mq5, .int mtd, .int mat, .int mtk, .int mpl, .int mva, .long mwd, .int mbd, .int mbp, .int mft, .int mfp, .ref mq16, .ref mq17, .ref mq18, .ref mq19, .ref mq20, .ref mq21, .int mlt, .ref mq23, .ref mq24, .ref mq25, .int msd, .ref mq27, .ref mq28, .ref mq29, .ref mq30, .ref mq31, .ref mq32, .int mlr, .int mst, .long mob, .long msb, .ref mq37, .int mln])), (mq1, .inl (mk1, 4, .inl mf1)), (mq2, .inl (mk2, 4, .inl mf2)), (mq3, .inl (mk3, 240, .inr (.inl mf3))), (mq4, .inl (mk4, 60, .inr (.inl mf4)))] := hD
    rcases i_bool hw_6 with ⟨r_59, hC⟩ | ⟨r_59, hC⟩
    · obtain rfl : r_5 = 1 := r_59
      have hC_7 := hC
      refine lv_if_ne (tgt := 22) hx hb dX7_paste_16 (by decide) (fun _ => ?_) (fun h => absurd h (by decide))
      refine lv_aload_n hx hb dX7_paste_22 rfl (lv_at hl 0 rfl) ?_
      refine va_get (D := (dC, dI)) (ci := 7) (v := .ref mq1) (C := RX7) (T := TX7) (N := 39) hx hb hts in_X7_paste_X7 hown hK hP 0 rfl rfl 1 (by decide) (hts _ wd_X7_paste_1) (fun _ h9 => h9) rfl dX7_paste_23 ?_
      refine lv_iload_n hx hb dX7_paste_26 rfl (lv_at hl 1 rfl) ?_
      refine va_iald hx hb hK hP 1 0 rfl rfl (i_in rfl (by omega) (by omega)) dX7_paste_27 ?_
      refine lv_topi (fun v_9 ev_9 => ?_)
      have kv_9 : v_9.toInt = (mf1 p0.toNatClampNeg).toInt := congrArg Int32.toInt ev_9
      refine lv_iconst (v := -1) hx hb dX7_paste_28 (by decide) ?_
      refine lv_icmp_eq (tgt := 42) hx hb dX7_paste_29 (by decide) (fun c_10 => ?_) (fun c_10 => ?_)
      · have c_10 : v_9.toInt = (-1) := i_eq (a := v_9) (b := -1) rfl (by decide) c_10
        refine lv_bipush (v := -6) hx hb dX7_paste_42 (by decide) ?_
        have hP9 := hP.sub (ws' := [(mz, .inr (7, [.int 0, .ref mq1, .ref mq2, .ref mq3, .ref mq4, .ref mq5, .int mtd, .int mat, .int mtk, .int mpl, .int mva, .long mwd, .int mbd, .int mbp, .int mft, .int mfp, .ref mq16, .ref mq17, .ref mq18, .ref mq19, .ref mq20, .ref mq21, .int mlt, .ref mq23, .ref mq24, .ref mq25, .int msd, .ref mq27, .ref mq28, .ref mq29, .ref mq30, .ref mq31, .ref mq32, .int mlr, .int mst, .long mob, .long msb, .ref mq37, .int mln])), (mq1, .inl (mk1, 4, .inl mf1)), (mq2, .inl (mk2, 4, .inl mf2)), (mq3, .inl (mk3, 240, .inr (.inl mf3))), (mq4, .inl (mk4, 60, .inr (.inl mf4)))]) [0, 1, 2, 3, 4] rfl
        have hD9 := hD.sub (ws' := [(mz, .inr (7, [.int 0, .ref mq1, .ref mq2, .ref mq3, .ref mq4, .ref mq5, .int mtd, .int mat, .int mtk, .int mpl, .int mva, .long mwd, .int mbd, .int mbp, .int mft, .int mfp, .ref mq16, .ref mq17, .ref mq18, .ref mq19, .ref mq20, .ref mq21, .int mlt, .ref mq23, .ref mq24, .ref mq25, .int msd, .ref mq27, .ref mq28, .ref mq29, .ref mq30, .ref mq31, .ref mq32, .int mlr, .int mst, .long mob, .long msb, .ref mq37, .int mln])), (mq1, .inl (mk1, 4, .inl mf1)), (mq2, .inl (mk2, 4, .inl mf2)), (mq3, .inl (mk3, 240, .inr (.inl mf3))), (mq4, .inl (mk4, 60, .inr (.inl mf4)))]) [0, 1, 2, 3, 4] (by decide) rfl
        have hK9 := hK.sub (tys' := []) [] rfl
        refine W.widen (k := 0) (n := 0) (by omega) (by omega) ?_
        exact W.iret (v := -6) hx hb hr (fun t ht hW => ⟨⟨(-6), (mf3, mf4), rfl, (by first | rfl | ((repeat' split) <;> (first | rfl | (exfalso; omega)))), by rw [ht]; exact hP9, va_K.moved hW.alike hK9, hD9⟩, hS.F ht⟩) hS.2.2 dX7_paste_44
      · have c_10 : v_9.toInt ≠ (-1) := i_ne (a := v_9) (b := -1) rfl (by decide) c_10
        refine lv_aload_n hx hb dX7_paste_32 rfl (lv_at hl 0 rfl) ?_
        refine va_get (D := (dC, dI)) (ci := 7) (v := .ref mq1) (C := RX7) (T := TX7) (N := 39) hx hb hts in_X7_paste_X7 hown hK hP 0 rfl rfl 1 (by decide) (hts _ wd_X7_paste_1) (fun _ h9 => h9) rfl dX7_paste_33 ?_
        refine lv_iload_n hx hb dX7_paste_36 rfl (lv_at hl 3 rfl) ?_
        refine va_iald hx hb hK hP 1 0 rfl rfl (i_in rfl (by omega) (by omega)) dX7_paste_37 ?_
        refine lv_topi (fun v_11 ev_11 => ?_)
        have kv_11 : v_11.toInt = (mf1 p2.toNatClampNeg).toInt := congrArg Int32.toInt ev_11
        refine lv_iconst (v := -1) hx hb dX7_paste_38 (by decide) ?_
        refine lv_icmp_ne (tgt := 45) hx hb dX7_paste_39 (by decide) (fun c_12 => ?_) (fun c_12 => ?_)
        · have c_12 : v_11.toInt ≠ (-1) := i_ne (a := v_11) (b := -1) rfl (by decide) c_12
          refine lv_aload_n hx hb dX7_paste_45 rfl (lv_at hl 0 rfl) ?_
          refine va_get (D := (dC, dI)) (ci := 7) (v := .ref mq1) (C := RX7) (T := TX7) (N := 39) hx hb hts in_X7_paste_X7 hown hK hP 0 rfl rfl 1 (by decide) (hts _ wd_X7_paste_1) (fun _ h9 => h9) rfl dX7_paste_46 ?_
          refine lv_iload_n hx hb dX7_paste_49 rfl (lv_at hl 1 rfl) ?_
          refine va_iald hx hb hK hP 1 0 rfl rfl (i_in rfl (by omega) (by omega)) dX7_paste_50 ?_
          refine lv_topi (fun v_13 ev_13 => ?_)
          have kv_13 : v_13.toInt = (mf1 p0.toNatClampNeg).toInt := congrArg Int32.toInt ev_13
          refine lv_aload_n hx hb dX7_paste_51 rfl (lv_at hl 0 rfl) ?_
          refine va_get (D := (dC, dI)) (ci := 7) (v := .ref mq1) (C := RX7) (T := TX7) (N := 39) hx hb hts in_X7_paste_X7 hown hK hP 0 rfl rfl 1 (by decide) (hts _ wd_X7_paste_1) (fun _ h9 => h9) rfl dX7_paste_52 ?_
          refine lv_iload_n hx hb dX7_paste_55 rfl (lv_at hl 3 rfl) ?_
          refine va_iald hx hb hK hP 1 0 rfl rfl (i_in rfl (by omega) (by omega)) dX7_paste_56 ?_
          refine lv_topi (fun v_14 ev_14 => ?_)
          have kv_14 : v_14.toInt = (mf1 p2.toNatClampNeg).toInt := congrArg Int32.toInt ev_14
          refine lv_icmp_eq (tgt := 63) hx hb dX7_paste_57 (by decide) (fun c_15 => ?_) (fun c_15 => ?_)
          · have c_15 : v_13.toInt = v_14.toInt := i_eq (a := v_13) (b := v_14) rfl rfl c_15
            refine lv_iload_n hx hb dX7_paste_63 rfl (lv_at hl 2 rfl) ?_
            refine lv_if_lt (tgt := 112) hx hb dX7_paste_64 (by decide) (fun c_16 => ?_) (fun c_16 => ?_)
            · have c_16 : p1.toInt < 0 := i_lt (a := p1) (b := 0) rfl (by decide) c_16
              refine lv_bipush (v := -7) hx hb dX7_paste_112 (by decide) ?_
              have hP9 := hP.sub (ws' := [(mz, .inr (7, [.int 0, .ref mq1, .ref mq2, .ref mq3, .ref mq4, .ref mq5, .int mtd, .int mat, .int mtk, .int mpl, .int mva, .long mwd, .int mbd, .int mbp, .int mft, .int mfp, .ref mq16, .ref mq17, .ref mq18, .ref mq19, .ref mq20, .ref mq21, .int mlt, .ref mq23, .ref mq24, .ref mq25, .int msd, .ref mq27, .ref mq28, .ref mq29, .ref mq30, .ref mq31, .ref mq32, .int mlr, .int mst, .long mob, .long msb, .ref mq37, .int mln])), (mq1, .inl (mk1, 4, .inl mf1)), (mq2, .inl (mk2, 4, .inl mf2)), (mq3, .inl (mk3, 240, .inr (.inl mf3))), (mq4, .inl (mk4, 60, .inr (.inl mf4)))]) [0, 1, 2, 3, 4] rfl
              have hD9 := hD.sub (ws' := [(mz, .inr (7, [.int 0, .ref mq1, .ref mq2, .ref mq3, .ref mq4, .ref mq5, .int mtd, .int mat, .int mtk, .int mpl, .int mva, .long mwd, .int mbd, .int mbp, .int mft, .int mfp, .ref mq16, .ref mq17, .ref mq18, .ref mq19, .ref mq20, .ref mq21, .int mlt, .ref mq23, .ref mq24, .ref mq25, .int msd, .ref mq27, .ref mq28, .ref mq29, .ref mq30, .ref mq31, .ref mq32, .int mlr, .int mst, .long mob, .long msb, .ref mq37, .int mln])), (mq1, .inl (mk1, 4, .inl mf1)), (mq2, .inl (mk2, 4, .inl mf2)), (mq3, .inl (mk3, 240, .inr (.inl mf3))), (mq4, .inl (mk4, 60, .inr (.inl mf4)))]) [0, 1, 2, 3, 4] (by decide) rfl
              have hK9 := hK.sub (tys' := []) [] rfl
              refine W.widen (k := 0) (n := 0) (by omega) (by omega) ?_
              exact W.iret (v := -7) hx hb hr (fun t ht hW => ⟨⟨(-7), (mf3, mf4), rfl, (by first | rfl | ((repeat' split) <;> (first | rfl | (exfalso; omega)))), by rw [ht]; exact hP9, va_K.moved hW.alike hK9, hD9⟩, hS.F ht⟩) hS.2.2 dX7_paste_114
            · have c_16 : 0 ≤ p1.toInt := i_nlt (a := p1) (b := 0) rfl (by decide) c_16
              refine lv_iload hx hb dX7_paste_67 (lv_at hl 4 rfl) ?_
              refine lv_if_lt (tgt := 112) hx hb dX7_paste_69 (by decide) (fun c_17 => ?_) (fun c_17 => ?_)
              · have c_17 : p3.toInt < 0 := i_lt (a := p3) (b := 0) rfl (by decide) c_17
                refine lv_bipush (v := -7) hx hb dX7_paste_112 (by decide) ?_
                have hP9 := hP.sub (ws' := [(mz, .inr (7, [.int 0, .ref mq1, .ref mq2, .ref mq3, .ref mq4, .ref mq5, .int mtd, .int mat, .int mtk, .int mpl, .int mva, .long mwd, .int mbd, .int mbp, .int mft, .int mfp, .ref mq16, .ref mq17, .ref mq18, .ref mq19, .ref mq20, .ref mq21, .int mlt, .ref mq23, .ref mq24, .ref mq25, .int msd, .ref mq27, .ref mq28, .ref mq29, .ref mq30, .ref mq31, .ref mq32, .int mlr, .int mst, .long mob, .long msb, .ref mq37, .int mln])), (mq1, .inl (mk1, 4, .inl mf1)), (mq2, .inl (mk2, 4, .inl mf2)), (mq3, .inl (mk3, 240, .inr (.inl mf3))), (mq4, .inl (mk4, 60, .inr (.inl mf4)))]) [0, 1, 2, 3, 4] rfl
                have hD9 := hD.sub (ws' := [(mz, .inr (7, [.int 0, .ref mq1, .ref mq2, .ref mq3, .ref mq4, .ref mq5, .int mtd, .int mat, .int mtk, .int mpl, .int mva, .long mwd, .int mbd, .int mbp, .int mft, .int mfp, .ref mq16, .ref mq17, .ref mq18, .ref mq19, .ref mq20, .ref mq21, .int mlt, .ref mq23, .ref mq24, .ref mq25, .int msd, .ref mq27, .ref mq28, .ref mq29, .ref mq30, .ref mq31, .ref mq32, .int mlr, .int mst, .long mob, .long msb, .ref mq37, .int mln])), (mq1, .inl (mk1, 4, .inl mf1)), (mq2, .inl (mk2, 4, .inl mf2)), (mq3, .inl (mk3, 240, .inr (.inl mf3))), (mq4, .inl (mk4, 60, .inr (.inl mf4)))]) [0, 1, 2, 3, 4] (by decide) rfl
                have hK9 := hK.sub (tys' := []) [] rfl
                refine W.widen (k := 0) (n := 0) (by omega) (by omega) ?_
                exact W.iret (v := -7) hx hb hr (fun t ht hW => ⟨⟨(-7), (mf3, mf4), rfl, (by first | rfl | ((repeat' split) <;> (first | rfl | (exfalso; omega)))), by rw [ht]; exact hP9, va_K.moved hW.alike hK9, hD9⟩, hS.F ht⟩) hS.2.2 dX7_paste_114
              · have c_17 : 0 ≤ p3.toInt := i_nlt (a := p3) (b := 0) rfl (by decide) c_17
                refine lv_iload hx hb dX7_paste_72 (lv_at hl 5 rfl) ?_
                refine lv_if_lt (tgt := 112) hx hb dX7_paste_74 (by decide) (fun c_18 => ?_) (fun c_18 => ?_)
                · have c_18 : p4.toInt < 0 := i_lt (a := p4) (b := 0) rfl (by decide) c_18
                  refine lv_bipush (v := -7) hx hb dX7_paste_112 (by decide) ?_
                  have hP9 := hP.sub (ws' := [(mz, .inr (7, [.int 0, .ref mq1, .ref mq2, .ref mq3, .ref mq4, .ref mq5, .int mtd, .int mat, .int mtk, .int mpl, .int mva, .long mwd, .int mbd, .int mbp, .int mft, .int mfp, .ref mq16, .ref mq17, .ref mq18, .ref mq19, .ref mq20, .ref mq21, .int mlt, .ref mq23, .ref mq24, .ref mq25, .int msd, .ref mq27, .ref mq28, .ref mq29, .ref mq30, .ref mq31, .ref mq32, .int mlr, .int mst, .long mob, .long msb, .ref mq37, .int mln])), (mq1, .inl (mk1, 4, .inl mf1)), (mq2, .inl (mk2, 4, .inl mf2)), (mq3, .inl (mk3, 240, .inr (.inl mf3))), (mq4, .inl (mk4, 60, .inr (.inl mf4)))]) [0, 1, 2, 3, 4] rfl
                  have hD9 := hD.sub (ws' := [(mz, .inr (7, [.int 0, .ref mq1, .ref mq2, .ref mq3, .ref mq4, .ref mq5, .int mtd, .int mat, .int mtk, .int mpl, .int mva, .long mwd, .int mbd, .int mbp, .int mft, .int mfp, .ref mq16, .ref mq17, .ref mq18, .ref mq19, .ref mq20, .ref mq21, .int mlt, .ref mq23, .ref mq24, .ref mq25, .int msd, .ref mq27, .ref mq28, .ref mq29, .ref mq30, .ref mq31, .ref mq32, .int mlr, .int mst, .long mob, .long msb, .ref mq37, .int mln])), (mq1, .inl (mk1, 4, .inl mf1)), (mq2, .inl (mk2, 4, .inl mf2)), (mq3, .inl (mk3, 240, .inr (.inl mf3))), (mq4, .inl (mk4, 60, .inr (.inl mf4)))]) [0, 1, 2, 3, 4] (by decide) rfl
                  have hK9 := hK.sub (tys' := []) [] rfl
                  refine W.widen (k := 0) (n := 0) (by omega) (by omega) ?_
                  exact W.iret (v := -7) hx hb hr (fun t ht hW => ⟨⟨(-7), (mf3, mf4), rfl, (by first | rfl | ((repeat' split) <;> (first | rfl | (exfalso; omega)))), by rw [ht]; exact hP9, va_K.moved hW.alike hK9, hD9⟩, hS.F ht⟩) hS.2.2 dX7_paste_114
                · have c_18 : 0 ≤ p4.toInt := i_nlt (a := p4) (b := 0) rfl (by decide) c_18
                  refine lv_iload_n hx hb dX7_paste_77 rfl (lv_at hl 2 rfl) ?_
                  refine lv_i2l (v := p1.toInt64) hx hb dX7_paste_78 rfl ?_
                  refine lv_iload hx hb dX7_paste_79 (lv_at hl 5 rfl) ?_
                  refine lv_i2l (v := p4.toInt64) hx hb dX7_paste_81 rfl ?_
                  refine lv_ladd hx hb dX7_paste_82 ?_
                  refine lv_topl (fun y_19 ey_19 => ?_)
                  have zy_19 : y_19.toInt = p1.toInt + p4.toInt := by rw [ey_19]; exact i_addL (i_wide rfl) (i_wide rfl) (by omega) (by omega)
                  refine lv_aload_n hx hb dX7_paste_83 rfl (lv_at hl 0 rfl) ?_
                  refine va_get (D := (dC, dI)) (ci := 7) (v := .ref mq2) (C := RX7) (T := TX7) (N := 39) hx hb hts in_X7_paste_X7 hown hK hP 0 rfl rfl 2 (by decide) (hts _ wd_X7_paste_2) (fun _ h9 => h9) rfl dX7_paste_84 ?_
                  refine lv_iload_n hx hb dX7_paste_87 rfl (lv_at hl 1 rfl) ?_
                  have hin_20 : vp_in p0 4 := (i_in rfl (by omega) (by omega))
                  refine va_iald hx hb hK hP 2 1 rfl rfl hin_20 dX7_paste_88 ?_
                  refine lv_topi (fun v_21 ev_21 => ?_)
                  have kv_21 : v_21.toInt = (mf2 p0.toNatClampNeg).toInt := congrArg Int32.toInt ev_21
                  have hv_21 := RG.at hR_mq2 hin_20 ev_21
                  refine lv_i2l (v := v_21.toInt64) hx hb dX7_paste_89 rfl ?_
                  refine W.lcmp hx hb dX7_paste_90 ?_
                  refine lv_if_gt (tgt := 112) hx hb dX7_paste_91 (by decide) (fun c_22 => ?_) (fun c_22 => ?_)
                  · have c_22 := (lg_cmp_gt y_19 v_21.toInt64).mp c_22
                    have c_22 : v_21.toInt < y_19.toInt := i_ltL (a := v_21.toInt64) (b := y_19) (i_wide rfl) rfl c_22
                    refine lv_bipush (v := -7) hx hb dX7_paste_112 (by decide) ?_
                    have hP9 := hP.sub (ws' := [(mz, .inr (7, [.int 0, .ref mq1, .ref mq2, .ref mq3, .ref mq4, .ref mq5, .int mtd, .int mat, .int mtk, .int mpl, .int mva, .long mwd, .int mbd, .int mbp, .int mft, .int mfp, .ref mq16, .ref mq17, .ref mq18, .ref mq19, .ref mq20, .ref mq21, .int mlt, .ref mq23, .ref mq24, .ref mq25, .int msd, .ref mq27, .ref mq28, .ref mq29, .ref mq30, .ref mq31, .ref mq32, .int mlr, .int mst, .long mob, .long msb, .ref mq37, .int mln])), (mq1, .inl (mk1, 4, .inl mf1)), (mq2, .inl (mk2, 4, .inl mf2)), (mq3, .inl (mk3, 240, .inr (.inl mf3))), (mq4, .inl (mk4, 60, .inr (.inl mf4)))]) [0, 1, 2, 3, 4] rfl
                    have hD9 := hD.sub (ws' := [(mz, .inr (7, [.int 0, .ref mq1, .ref mq2, .ref mq3, .ref mq4, .ref mq5, .int mtd, .int mat, .int mtk, .int mpl, .int mva, .long mwd, .int mbd, .int mbp, .int mft, .int mfp, .ref mq16, .ref mq17, .ref mq18, .ref mq19, .ref mq20, .ref mq21, .int mlt, .ref mq23, .ref mq24, .ref mq25, .int msd, .ref mq27, .ref mq28, .ref mq29, .ref mq30, .ref mq31, .ref mq32, .int mlr, .int mst, .long mob, .long msb, .ref mq37, .int mln])), (mq1, .inl (mk1, 4, .inl mf1)), (mq2, .inl (mk2, 4, .inl mf2)), (mq3, .inl (mk3, 240, .inr (.inl mf3))), (mq4, .inl (mk4, 60, .inr (.inl mf4)))]) [0, 1, 2, 3, 4] (by decide) rfl
                    have hK9 := hK.sub (tys' := []) [] rfl
                    refine W.widen (k := 0) (n := 0) (by omega) (by omega) ?_
                    exact W.iret (v := -7) hx hb hr (fun t ht hW => ⟨⟨(-7), (mf3, mf4), rfl, (by first | rfl | ((repeat' split) <;> (first | rfl | (exfalso; omega)))), by rw [ht]; exact hP9, va_K.moved hW.alike hK9, hD9⟩, hS.F ht⟩) hS.2.2 dX7_paste_114
                  · have c_22 := fun h => c_22 ((lg_cmp_gt y_19 v_21.toInt64).mpr h)
                    have c_22 : y_19.toInt ≤ v_21.toInt := i_nltL (a := v_21.toInt64) (b := y_19) (i_wide rfl) rfl c_22
                    refine lv_iload hx hb dX7_paste_94 (lv_at hl 4 rfl) ?_
                    refine lv_i2l (v := p3.toInt64) hx hb dX7_paste_96 rfl ?_
                    refine lv_iload hx hb dX7_paste_97 (lv_at hl 5 rfl) ?_
                    refine lv_i2l (v := p4.toInt64) hx hb dX7_paste_99 rfl ?_
                    refine lv_ladd hx hb dX7_paste_100 ?_
                    refine lv_topl (fun y_23 ey_23 => ?_)
                    have zy_23 : y_23.toInt = p3.toInt + p4.toInt := by rw [ey_23]; exact i_addL (i_wide rfl) (i_wide rfl) (by omega) (by omega)
                    refine lv_aload_n hx hb dX7_paste_101 rfl (lv_at hl 0 rfl) ?_
                    refine va_get (D := (dC, dI)) (ci := 7) (v := .ref mq2) (C := RX7) (T := TX7) (N := 39) hx hb hts in_X7_paste_X7 hown hK hP 0 rfl rfl 2 (by decide) (hts _ wd_X7_paste_2) (fun _ h9 => h9) rfl dX7_paste_102 ?_
                    refine lv_iload_n hx hb dX7_paste_105 rfl (lv_at hl 3 rfl) ?_
                    have hin_24 : vp_in p2 4 := (i_in rfl (by omega) (by omega))
                    refine va_iald hx hb hK hP 2 1 rfl rfl hin_24 dX7_paste_106 ?_
                    refine lv_topi (fun v_25 ev_25 => ?_)
                    have kv_25 : v_25.toInt = (mf2 p2.toNatClampNeg).toInt := congrArg Int32.toInt ev_25
                    have hv_25 := RG.at hR_mq2 hin_24 ev_25
                    refine lv_i2l (v := v_25.toInt64) hx hb dX7_paste_107 rfl ?_
                    refine W.lcmp hx hb dX7_paste_108 ?_
                    refine lv_if_le (tgt := 115) hx hb dX7_paste_109 (by decide) (fun c_26 => ?_) (fun c_26 => ?_)
                    · have c_26 := (lg_cmp_le y_23 v_25.toInt64).mp c_26
                      have c_26 : y_23.toInt ≤ v_25.toInt := i_leL (a := y_23) (b := v_25.toInt64) rfl (i_wide rfl) c_26
                      refine lv_iconst (v := 0) hx hb dX7_paste_115 (by decide) ?_
                      refine lv_istore (lv' := [(6, .int 0), (0, .ref mz), (1, .int p0), (2, .int p1), (3, .int p2), (4, .int p3), (5, .int p4)]) hx hb dX7_paste_116 hl (by decide) rfl (fun ls hl => ?_)
                      refine lp_W (I := fun (a : Int32 × (Nat → Int64)) H locs ls => (0 ≤ a.1.toInt ∧ a.1.toInt ≤ p4.toInt) ∧ va_P (dC, dI) vwCl [(mz, .inr (7, [.int 0, .ref mq1, .ref mq2, .ref mq3, .ref mq4, .ref mq5, .int mtd, .int mat, .int mtk, .int mpl, .int mva, .long mwd, .int mbd, .int mbp, .int mft, .int mfp, .ref mq16, .ref mq17, .ref mq18, .ref mq19, .ref mq20, .ref mq21, .int mlt, .ref mq23, .ref mq24, .ref mq25, .int msd, .ref mq27, .ref mq28, .ref mq29, .ref mq30, .ref mq31, .ref mq32, .int mlr, .int mst, .long mob, .long msb, .ref mq37, .int mln])), (mq1, .inl (mk1, 4, .inl mf1)), (mq2, .inl (mk2, 4, .inl mf2)), (mq3, .inl (mk3, 240, .inr (.inl mf3))), (mq4, .inl (mk4, 60, .inr (.inl a.2)))] H ∧ va_D A [(mz, .inr (7, [.int 0, .ref mq1, .ref mq2, .ref mq3, .ref mq4, .ref mq5, .int mtd, .int mat, .int mtk, .int mpl, .int mva, .long mwd, .int mbd, .int mbp, .int mft, .int mfp, .ref mq16, .ref mq17, .ref mq18, .ref mq19, .ref mq20, .ref mq21, .int mlt, .ref mq23, .ref mq24, .ref mq25, .int msd, .ref mq27, .ref mq28, .ref mq29, .ref mq30, .ref mq31, .ref mq32, .int mlr, .int mst, .long mob, .long msb, .ref mq37, .int mln])), (mq1, .inl (mk1, 4, .inl mf1)), (mq2, .inl (mk2, 4, .inl mf2)), (mq3, .inl (mk3, 240, .inr (.inl mf3))), (mq4, .inl (mk4, 60, .inr (.inl a.2)))] ∧ va_S A s.heap H locs ∧ lv_has ls 7 [(6, .int a.1), (0, .ref mz), (1, .int p0), (2, .int p1), (3, .int p2), (4, .int p3), (5, .int p4)]) (μ := fun a => (p4.toInt - a.1.toInt).toNat) ?_ ((0 : Int32), mf4) ⟨(by have k0 : (0 : Int32).toInt = 0 := (by decide); (try dsimp only); omega), hP.sub [0, 1, 2, 3, 4] rfl, hD.sub [0, 1, 2, 3, 4] (by decide) rfl, hS, lv_sub hl [0, 1, 2, 3, 4, 5, 6] rfl⟩
                      intro a H locs ls hI ih118
                      obtain ⟨i1, V1⟩ := a
                      obtain ⟨h_i1, hP, hD, hS, hl⟩ := hI
                      have h_i1 : 0 ≤ i1.toInt ∧ i1.toInt ≤ p4.toInt := h_i1
                      have hP : va_P (dC, dI) vwCl [(mz, .inr (7, [.int 0, .ref mq1, .ref mq2, .ref mq3, .ref mq4, .ref mq5, .int mtd, .int mat, .int mtk, .int mpl, .int mva, .long mwd, .int mbd, .int mbp, .int mft, .int mfp, .ref mq16, .ref mq17, .ref mq18, .ref mq19, .ref mq20, .ref mq21, .int mlt, .ref mq23, .ref mq24, .ref mq25, .int msd, .ref mq27, .ref mq28, .ref mq29, .ref mq30, .ref mq31, .ref mq32, .int mlr, .int mst, .long mob, .long msb, .ref mq37, .int mln])), (mq1, .inl (mk1, 4, .inl mf1)), (mq2, .inl (mk2, 4, .inl mf2)), (mq3, .inl (mk3, 240, .inr (.inl mf3))), (mq4, .inl (mk4, 60, .inr (.inl V1)))] H := hP
                      have hD : va_D A [(mz, .inr (7, [.int 0, .ref mq1, .ref mq2, .ref mq3, .ref mq4, .ref mq5, .int mtd, .int mat, .int mtk, .int mpl, .int mva, .long mwd, .int mbd, .int mbp, .int mft, .int mfp, .ref mq16, .ref mq17, .ref mq18, .ref mq19, .ref mq20, .ref mq21, .int mlt, .ref mq23, .ref mq24, .ref mq25, .int msd, .ref mq27, .ref mq28, .ref mq29, .ref mq30, .ref mq31, .ref mq32, .int mlr, .int mst, .long mob, .long msb, .ref mq37, .int mln])), (mq1, .inl (mk1, 4, .inl mf1)), (mq2, .inl (mk2, 4, .inl mf2)), (mq3, .inl (mk3, 240, .inr (.inl mf3))), (mq4, .inl (mk4, 60, .inr (.inl V1)))] := hD
                      have hl : lv_has ls 7 [(6, .int i1), (0, .ref mz), (1, .int p0), (2, .int p1), (3, .int p2), (4, .int p3), (5, .int p4)] := hl
                      refine lv_iload hx hb dX7_paste_118 (lv_at hl 0 rfl) ?_
                      refine lv_iload hx hb dX7_paste_120 (lv_at hl 6 rfl) ?_
                      refine lv_icmp_ge (tgt := 152) hx hb dX7_paste_122 (by decide) (fun c_27 => ?_) (fun c_27 => ?_)
                      · have c_27 : p4.toInt ≤ i1.toInt := i_le (a := p4) (b := i1) rfl rfl c_27
                        refine lv_iconst (v := 0) hx hb dX7_paste_152 (by decide) ?_
                        refine lv_istore (lv' := [(6, .int 0), (0, .ref mz), (1, .int p0), (2, .int p1), (3, .int p2), (4, .int p3), (5, .int p4)]) hx hb dX7_paste_153 hl (by decide) rfl (fun ls hl => ?_)
                        refine lp_W (I := fun (a : Int32 × (Nat → Int64)) H locs ls => (0 ≤ a.1.toInt ∧ a.1.toInt ≤ p4.toInt) ∧ va_P (dC, dI) vwCl [(mz, .inr (7, [.int 0, .ref mq1, .ref mq2, .ref mq3, .ref mq4, .ref mq5, .int mtd, .int mat, .int mtk, .int mpl, .int mva, .long mwd, .int mbd, .int mbp, .int mft, .int mfp, .ref mq16, .ref mq17, .ref mq18, .ref mq19, .ref mq20, .ref mq21, .int mlt, .ref mq23, .ref mq24, .ref mq25, .int msd, .ref mq27, .ref mq28, .ref mq29, .ref mq30, .ref mq31, .ref mq32, .int mlr, .int mst, .long mob, .long msb, .ref mq37, .int mln])), (mq1, .inl (mk1, 4, .inl mf1)), (mq2, .inl (mk2, 4, .inl mf2)), (mq3, .inl (mk3, 240, .inr (.inl a.2))), (mq4, .inl (mk4, 60, .inr (.inl V1)))] H ∧ va_D A [(mz, .inr (7, [.int 0, .ref mq1, .ref mq2, .ref mq3, .ref mq4, .ref mq5, .int mtd, .int mat, .int mtk, .int mpl, .int mva, .long mwd, .int mbd, .int mbp, .int mft, .int mfp, .ref mq16, .ref mq17, .ref mq18, .ref mq19, .ref mq20, .ref mq21, .int mlt, .ref mq23, .ref mq24, .ref mq25, .int msd, .ref mq27, .ref mq28, .ref mq29, .ref mq30, .ref mq31, .ref mq32, .int mlr, .int mst, .long mob, .long msb, .ref mq37, .int mln])), (mq1, .inl (mk1, 4, .inl mf1)), (mq2, .inl (mk2, 4, .inl mf2)), (mq3, .inl (mk3, 240, .inr (.inl a.2))), (mq4, .inl (mk4, 60, .inr (.inl V1)))] ∧ va_S A s.heap H locs ∧ lv_has ls 7 [(6, .int a.1), (0, .ref mz), (1, .int p0), (2, .int p1), (3, .int p2), (4, .int p3), (5, .int p4)]) (μ := fun a => (p4.toInt - a.1.toInt).toNat) ?_ ((0 : Int32), mf3) ⟨(by have k0 : (0 : Int32).toInt = 0 := (by decide); (try dsimp only); omega), hP.sub [0, 1, 2, 3, 4] rfl, hD.sub [0, 1, 2, 3, 4] (by decide) rfl, hS, lv_sub hl [0, 1, 2, 3, 4, 5, 6] rfl⟩
                        intro a H locs ls hI ih155
                        obtain ⟨i2, C2⟩ := a
                        obtain ⟨h_i2, hP, hD, hS, hl⟩ := hI
                        have h_i2 : 0 ≤ i2.toInt ∧ i2.toInt ≤ p4.toInt := h_i2
                        have hP : va_P (dC, dI) vwCl [(mz, .inr (7, [.int 0, .ref mq1, .ref mq2, .ref mq3, .ref mq4, .ref mq5, .int mtd, .int mat, .int mtk, .int mpl, .int mva, .long mwd, .int mbd, .int mbp, .int mft, .int mfp, .ref mq16, .ref mq17, .ref mq18, .ref mq19, .ref mq20, .ref mq21, .int mlt, .ref mq23, .ref mq24, .ref mq25, .int msd, .ref mq27, .ref mq28, .ref mq29, .ref mq30, .ref mq31, .ref mq32, .int mlr, .int mst, .long mob, .long msb, .ref mq37, .int mln])), (mq1, .inl (mk1, 4, .inl mf1)), (mq2, .inl (mk2, 4, .inl mf2)), (mq3, .inl (mk3, 240, .inr (.inl C2))), (mq4, .inl (mk4, 60, .inr (.inl V1)))] H := hP
                        have hD : va_D A [(mz, .inr (7, [.int 0, .ref mq1, .ref mq2, .ref mq3, .ref mq4, .ref mq5, .int mtd, .int mat, .int mtk, .int mpl, .int mva, .long mwd, .int mbd, .int mbp, .int mft, .int mfp, .ref mq16, .ref mq17, .ref mq18, .ref mq19, .ref mq20, .ref mq21, .int mlt, .ref mq23, .ref mq24, .ref mq25, .int msd, .ref mq27, .ref mq28, .ref mq29, .ref mq30, .ref mq31, .ref mq32, .int mlr, .int mst, .long mob, .long msb, .ref mq37, .int mln])), (mq1, .inl (mk1, 4, .inl mf1)), (mq2, .inl (mk2, 4, .inl mf2)), (mq3, .inl (mk3, 240, .inr (.inl C2))), (mq4, .inl (mk4, 60, .inr (.inl V1)))] := hD
                        have hl : lv_has ls 7 [(6, .int i2), (0, .ref mz), (1, .int p0), (2, .int p1), (3, .int p2), (4, .int p3), (5, .int p4)] := hl
                        refine lv_iload hx hb dX7_paste_155 (lv_at hl 0 rfl) ?_
                        refine lv_iload hx hb dX7_paste_157 (lv_at hl 6 rfl) ?_
                        refine lv_icmp_ge (tgt := 190) hx hb dX7_paste_159 (by decide) (fun c_28 => ?_) (fun c_28 => ?_)
                        · have c_28 : p4.toInt ≤ i2.toInt := i_le (a := p4) (b := i2) rfl rfl c_28
                          refine lv_iconst (v := 0) hx hb dX7_paste_190 (by decide) ?_
                          have hP9 := hP.sub (ws' := [(mz, .inr (7, [.int 0, .ref mq1, .ref mq2, .ref mq3, .ref mq4, .ref mq5, .int mtd, .int mat, .int mtk, .int mpl, .int mva, .long mwd, .int mbd, .int mbp, .int mft, .int mfp, .ref mq16, .ref mq17, .ref mq18, .ref mq19, .ref mq20, .ref mq21, .int mlt, .ref mq23, .ref mq24, .ref mq25, .int msd, .ref mq27, .ref mq28, .ref mq29, .ref mq30, .ref mq31, .ref mq32, .int mlr, .int mst, .long mob, .long msb, .ref mq37, .int mln])), (mq1, .inl (mk1, 4, .inl mf1)), (mq2, .inl (mk2, 4, .inl mf2)), (mq3, .inl (mk3, 240, .inr (.inl C2))), (mq4, .inl (mk4, 60, .inr (.inl V1)))]) [0, 1, 2, 3, 4] rfl
                          have hD9 := hD.sub (ws' := [(mz, .inr (7, [.int 0, .ref mq1, .ref mq2, .ref mq3, .ref mq4, .ref mq5, .int mtd, .int mat, .int mtk, .int mpl, .int mva, .long mwd, .int mbd, .int mbp, .int mft, .int mfp, .ref mq16, .ref mq17, .ref mq18, .ref mq19, .ref mq20, .ref mq21, .int mlt, .ref mq23, .ref mq24, .ref mq25, .int msd, .ref mq27, .ref mq28, .ref mq29, .ref mq30, .ref mq31, .ref mq32, .int mlr, .int mst, .long mob, .long msb, .ref mq37, .int mln])), (mq1, .inl (mk1, 4, .inl mf1)), (mq2, .inl (mk2, 4, .inl mf2)), (mq3, .inl (mk3, 240, .inr (.inl C2))), (mq4, .inl (mk4, 60, .inr (.inl V1)))]) [0, 1, 2, 3, 4] (by decide) rfl
                          have hK9 := hK.sub (tys' := []) [] rfl
                          refine W.widen (k := 0) (n := 0) (by omega) (by omega) ?_
                          exact W.iret (v := 0) hx hb hr (fun t ht hW => ⟨⟨0, (C2, V1), rfl, (by first | rfl | ((repeat' split) <;> (first | rfl | (exfalso; omega)))), by rw [ht]; exact hP9, va_K.moved hW.alike hK9, hD9⟩, hS.F ht⟩) hS.2.2 dX7_paste_191
                        · have c_28 : i2.toInt < p4.toInt := i_nle (a := p4) (b := i2) rfl rfl c_28
                          refine lv_aload_n hx hb dX7_paste_162 rfl (lv_at hl 1 rfl) ?_
                          refine va_get (D := (dC, dI)) (ci := 7) (v := .ref mq3) (C := RX7) (T := TX7) (N := 39) hx hb hts in_X7_paste_X7 hown hK hP 0 rfl rfl 3 (by decide) (hts _ wd_X7_paste_3) (fun _ h9 => h9) rfl dX7_paste_163 ?_
                          refine lv_bipush (v := 60) hx hb dX7_paste_166 (by decide) ?_
                          refine lv_iload_n hx hb dX7_paste_168 rfl (lv_at hl 4 rfl) ?_
                          refine lv_imul hx hb dX7_paste_169 ?_
                          refine lv_topi (fun x_29 ex_29 => ?_)
                          have zx_29 : x_29.toInt = 60 * p2.toInt := by rw [ex_29]; exact i_mul (by decide) rfl (by omega) (by omega)
                          refine lv_iload hx hb dX7_paste_170 (lv_at hl 5 rfl) ?_
                          refine lv_iadd hx hb dX7_paste_172 ?_
                          refine lv_topi (fun x_30 ex_30 => ?_)
                          have zx_30 : x_30.toInt = x_29.toInt + p3.toInt := by rw [ex_30]; exact i_add rfl rfl (by omega) (by omega)
                          refine lv_iload hx hb dX7_paste_173 (lv_at hl 0 rfl) ?_
                          refine lv_iadd hx hb dX7_paste_175 ?_
                          refine lv_topi (fun x_31 ex_31 => ?_)
                          have zx_31 : x_31.toInt = x_30.toInt + i2.toInt := by rw [ex_31]; exact i_add rfl rfl (by omega) (by omega)
                          refine lv_aload_n hx hb dX7_paste_176 rfl (lv_at hl 1 rfl) ?_
                          refine va_get (D := (dC, dI)) (ci := 7) (v := .ref mq4) (C := RX7) (T := TX7) (N := 39) hx hb hts in_X7_paste_X7 hown hK hP 0 rfl rfl 4 (by decide) (hts _ wd_X7_paste_4) (fun _ h9 => h9) rfl dX7_paste_177 ?_
                          refine lv_iload hx hb dX7_paste_180 (lv_at hl 0 rfl) ?_
                          refine va_lald hx hb hK hP 4 3 rfl rfl (i_in rfl (by omega) (by omega)) dX7_paste_182 ?_
                          refine lv_topl (fun y_32 ey_32 => ?_)
                          refine va_last hx hb hK hP hD hS 3 2 rfl rfl (i_in rfl (by omega) (by omega)) dX7_paste_183 (fun H locs hP hD hS => ?_)
                          have hP : va_P (dC, dI) vwCl [(mz, .inr (7, [.int 0, .ref mq1, .ref mq2, .ref mq3, .ref mq4, .ref mq5, .int mtd, .int mat, .int mtk, .int mpl, .int mva, .long mwd, .int mbd, .int mbp, .int mft, .int mfp, .ref mq16, .ref mq17, .ref mq18, .ref mq19, .ref mq20, .ref mq21, .int mlt, .ref mq23, .ref mq24, .ref mq25, .int msd, .ref mq27, .ref mq28, .ref mq29, .ref mq30, .ref mq31, .ref mq32, .int mlr, .int mst, .long mob, .long msb, .ref mq37, .int mln])), (mq1, .inl (mk1, 4, .inl mf1)), (mq2, .inl (mk2, 4, .inl mf2)), (mq3, .inl (mk3, 240, .inr (.inl (vp_updL C2 x_31.toNatClampNeg y_32)))), (mq4, .inl (mk4, 60, .inr (.inl V1)))] H := hP
                          have hD : va_D A [(mz, .inr (7, [.int 0, .ref mq1, .ref mq2, .ref mq3, .ref mq4, .ref mq5, .int mtd, .int mat, .int mtk, .int mpl, .int mva, .long mwd, .int mbd, .int mbp, .int mft, .int mfp, .ref mq16, .ref mq17, .ref mq18, .ref mq19, .ref mq20, .ref mq21, .int mlt, .ref mq23, .ref mq24, .ref mq25, .int msd, .ref mq27, .ref mq28, .ref mq29, .ref mq30, .ref mq31, .ref mq32, .int mlr, .int mst, .long mob, .long msb, .ref mq37, .int mln])), (mq1, .inl (mk1, 4, .inl mf1)), (mq2, .inl (mk2, 4, .inl mf2)), (mq3, .inl (mk3, 240, .inr (.inl (vp_updL C2 x_31.toNatClampNeg y_32)))), (mq4, .inl (mk4, 60, .inr (.inl V1)))] := hD
                          obtain ⟨f_33, ef_33⟩ : ∃ g, g = vp_updL C2 x_31.toNatClampNeg y_32 := ⟨_, rfl⟩
                          rw [← ef_33] at hP hD
                          obtain ⟨x_34, ex_34⟩ : ∃ y9 : Int32, y9 = i2 + Int32.ofInt 1 := ⟨_, rfl⟩
                          have zx_34 : x_34.toInt = i2.toInt + 1 := by rw [ex_34]; exact i_add rfl (show (Int32.ofInt 1).toInt = 1 by decide) (by omega) (by omega)
                          refine lv_iinc (v := x_34) (lv' := [(6, .int x_34), (0, .ref mz), (1, .int p0), (2, .int p1), (3, .int p2), (4, .int p3), (5, .int p4)]) hx hb dX7_paste_184 hl (k := 0) rfl (by rw [ex_34]) (by decide) rfl (fun ls hl => ?_)
                          refine lv_goto (tgt := 155) hx hb dX7_paste_187 (by decide) ?_
                          exact ih155 (x_34, f_33) _ _ _ ⟨(by (try dsimp only); omega), hP.sub [0, 1, 2, 3, 4] rfl, hD.sub [0, 1, 2, 3, 4] (by decide) rfl, hS, lv_sub hl [0, 1, 2, 3, 4, 5, 6] rfl⟩ (by (try dsimp only); omega)
                      · have c_27 : i1.toInt < p4.toInt := i_nle (a := p4) (b := i1) rfl rfl c_27
                        refine lv_aload_n hx hb dX7_paste_125 rfl (lv_at hl 1 rfl) ?_
                        refine va_get (D := (dC, dI)) (ci := 7) (v := .ref mq4) (C := RX7) (T := TX7) (N := 39) hx hb hts in_X7_paste_X7 hown hK hP 0 rfl rfl 4 (by decide) (hts _ wd_X7_paste_4) (fun _ h9 => h9) rfl dX7_paste_126 ?_
                        refine lv_iload hx hb dX7_paste_129 (lv_at hl 0 rfl) ?_
                        refine lv_aload_n hx hb dX7_paste_131 rfl (lv_at hl 1 rfl) ?_
                        refine va_get (D := (dC, dI)) (ci := 7) (v := .ref mq3) (C := RX7) (T := TX7) (N := 39) hx hb hts in_X7_paste_X7 hown hK hP 0 rfl rfl 3 (by decide) (hts _ wd_X7_paste_3) (fun _ h9 => h9) rfl dX7_paste_132 ?_
                        refine lv_bipush (v := 60) hx hb dX7_paste_135 (by decide) ?_
                        refine lv_iload_n hx hb dX7_paste_137 rfl (lv_at hl 2 rfl) ?_
                        refine lv_imul hx hb dX7_paste_138 ?_
                        refine lv_topi (fun x_35 ex_35 => ?_)
                        have zx_35 : x_35.toInt = 60 * p0.toInt := by rw [ex_35]; exact i_mul (by decide) rfl (by omega) (by omega)
                        refine lv_iload_n hx hb dX7_paste_139 rfl (lv_at hl 3 rfl) ?_
                        refine lv_iadd hx hb dX7_paste_140 ?_
                        refine lv_topi (fun x_36 ex_36 => ?_)
                        have zx_36 : x_36.toInt = x_35.toInt + p1.toInt := by rw [ex_36]; exact i_add rfl rfl (by omega) (by omega)
                        refine lv_iload hx hb dX7_paste_141 (lv_at hl 0 rfl) ?_
                        refine lv_iadd hx hb dX7_paste_143 ?_
                        refine lv_topi (fun x_37 ex_37 => ?_)
                        have zx_37 : x_37.toInt = x_36.toInt + i1.toInt := by rw [ex_37]; exact i_add rfl rfl (by omega) (by omega)
                        refine va_lald hx hb hK hP 3 2 rfl rfl (i_in rfl (by omega) (by omega)) dX7_paste_144 ?_
                        refine lv_topl (fun y_38 ey_38 => ?_)
                        refine va_last hx hb hK hP hD hS 4 3 rfl rfl (i_in rfl (by omega) (by omega)) dX7_paste_145 (fun H locs hP hD hS => ?_)
                        have hP : va_P (dC, dI) vwCl [(mz, .inr (7, [.int 0, .ref mq1, .ref mq2, .ref mq3, .ref mq4, .ref mq5, .int mtd, .int mat, .int mtk, .int mpl, .int mva, .long mwd, .int mbd, .int mbp, .int mft, .int mfp, .ref mq16, .ref mq17, .ref mq18, .ref mq19, .ref mq20, .ref mq21, .int mlt, .ref mq23, .ref mq24, .ref mq25, .int msd, .ref mq27, .ref mq28, .ref mq29, .ref mq30, .ref mq31, .ref mq32, .int mlr, .int mst, .long mob, .long msb, .ref mq37, .int mln])), (mq1, .inl (mk1, 4, .inl mf1)), (mq2, .inl (mk2, 4, .inl mf2)), (mq3, .inl (mk3, 240, .inr (.inl mf3))), (mq4, .inl (mk4, 60, .inr (.inl (vp_updL V1 i1.toNatClampNeg y_38))))] H := hP
                        have hD : va_D A [(mz, .inr (7, [.int 0, .ref mq1, .ref mq2, .ref mq3, .ref mq4, .ref mq5, .int mtd, .int mat, .int mtk, .int mpl, .int mva, .long mwd, .int mbd, .int mbp, .int mft, .int mfp, .ref mq16, .ref mq17, .ref mq18, .ref mq19, .ref mq20, .ref mq21, .int mlt, .ref mq23, .ref mq24, .ref mq25, .int msd, .ref mq27, .ref mq28, .ref mq29, .ref mq30, .ref mq31, .ref mq32, .int mlr, .int mst, .long mob, .long msb, .ref mq37, .int mln])), (mq1, .inl (mk1, 4, .inl mf1)), (mq2, .inl (mk2, 4, .inl mf2)), (mq3, .inl (mk3, 240, .inr (.inl mf3))), (mq4, .inl (mk4, 60, .inr (.inl (vp_updL V1 i1.toNatClampNeg y_38))))] := hD
                        obtain ⟨f_39, ef_39⟩ : ∃ g, g = vp_updL V1 i1.toNatClampNeg y_38 := ⟨_, rfl⟩
                        rw [← ef_39] at hP hD
                        obtain ⟨x_40, ex_40⟩ : ∃ y9 : Int32, y9 = i1 + Int32.ofInt 1 := ⟨_, rfl⟩
                        have zx_40 : x_40.toInt = i1.toInt + 1 := by rw [ex_40]; exact i_add rfl (show (Int32.ofInt 1).toInt = 1 by decide) (by omega) (by omega)
                        refine lv_iinc (v := x_40) (lv' := [(6, .int x_40), (0, .ref mz), (1, .int p0), (2, .int p1), (3, .int p2), (4, .int p3), (5, .int p4)]) hx hb dX7_paste_146 hl (k := 0) rfl (by rw [ex_40]) (by decide) rfl (fun ls hl => ?_)
                        refine lv_goto (tgt := 118) hx hb dX7_paste_149 (by decide) ?_
                        exact ih118 (x_40, f_39) _ _ _ ⟨(by (try dsimp only); omega), hP.sub [0, 1, 2, 3, 4] rfl, hD.sub [0, 1, 2, 3, 4] (by decide) rfl, hS, lv_sub hl [0, 1, 2, 3, 4, 5, 6] rfl⟩ (by (try dsimp only); omega)
                    · have c_26 := fun h => c_26 ((lg_cmp_le y_23 v_25.toInt64).mpr h)
                      have c_26 : v_25.toInt < y_23.toInt := i_nleL (a := y_23) (b := v_25.toInt64) rfl (i_wide rfl) c_26
                      refine lv_bipush (v := -7) hx hb dX7_paste_112 (by decide) ?_
                      have hP9 := hP.sub (ws' := [(mz, .inr (7, [.int 0, .ref mq1, .ref mq2, .ref mq3, .ref mq4, .ref mq5, .int mtd, .int mat, .int mtk, .int mpl, .int mva, .long mwd, .int mbd, .int mbp, .int mft, .int mfp, .ref mq16, .ref mq17, .ref mq18, .ref mq19, .ref mq20, .ref mq21, .int mlt, .ref mq23, .ref mq24, .ref mq25, .int msd, .ref mq27, .ref mq28, .ref mq29, .ref mq30, .ref mq31, .ref mq32, .int mlr, .int mst, .long mob, .long msb, .ref mq37, .int mln])), (mq1, .inl (mk1, 4, .inl mf1)), (mq2, .inl (mk2, 4, .inl mf2)), (mq3, .inl (mk3, 240, .inr (.inl mf3))), (mq4, .inl (mk4, 60, .inr (.inl mf4)))]) [0, 1, 2, 3, 4] rfl
                      have hD9 := hD.sub (ws' := [(mz, .inr (7, [.int 0, .ref mq1, .ref mq2, .ref mq3, .ref mq4, .ref mq5, .int mtd, .int mat, .int mtk, .int mpl, .int mva, .long mwd, .int mbd, .int mbp, .int mft, .int mfp, .ref mq16, .ref mq17, .ref mq18, .ref mq19, .ref mq20, .ref mq21, .int mlt, .ref mq23, .ref mq24, .ref mq25, .int msd, .ref mq27, .ref mq28, .ref mq29, .ref mq30, .ref mq31, .ref mq32, .int mlr, .int mst, .long mob, .long msb, .ref mq37, .int mln])), (mq1, .inl (mk1, 4, .inl mf1)), (mq2, .inl (mk2, 4, .inl mf2)), (mq3, .inl (mk3, 240, .inr (.inl mf3))), (mq4, .inl (mk4, 60, .inr (.inl mf4)))]) [0, 1, 2, 3, 4] (by decide) rfl
                      have hK9 := hK.sub (tys' := []) [] rfl
                      refine W.widen (k := 0) (n := 0) (by omega) (by omega) ?_
                      exact W.iret (v := -7) hx hb hr (fun t ht hW => ⟨⟨(-7), (mf3, mf4), rfl, (by first | rfl | ((repeat' split) <;> (first | rfl | (exfalso; omega)))), by rw [ht]; exact hP9, va_K.moved hW.alike hK9, hD9⟩, hS.F ht⟩) hS.2.2 dX7_paste_114
          · have c_15 : v_13.toInt ≠ v_14.toInt := i_ne (a := v_13) (b := v_14) rfl rfl c_15
            refine lv_bipush (v := -8) hx hb dX7_paste_60 (by decide) ?_
            have hP9 := hP.sub (ws' := [(mz, .inr (7, [.int 0, .ref mq1, .ref mq2, .ref mq3, .ref mq4, .ref mq5, .int mtd, .int mat, .int mtk, .int mpl, .int mva, .long mwd, .int mbd, .int mbp, .int mft, .int mfp, .ref mq16, .ref mq17, .ref mq18, .ref mq19, .ref mq20, .ref mq21, .int mlt, .ref mq23, .ref mq24, .ref mq25, .int msd, .ref mq27, .ref mq28, .ref mq29, .ref mq30, .ref mq31, .ref mq32, .int mlr, .int mst, .long mob, .long msb, .ref mq37, .int mln])), (mq1, .inl (mk1, 4, .inl mf1)), (mq2, .inl (mk2, 4, .inl mf2)), (mq3, .inl (mk3, 240, .inr (.inl mf3))), (mq4, .inl (mk4, 60, .inr (.inl mf4)))]) [0, 1, 2, 3, 4] rfl
            have hD9 := hD.sub (ws' := [(mz, .inr (7, [.int 0, .ref mq1, .ref mq2, .ref mq3, .ref mq4, .ref mq5, .int mtd, .int mat, .int mtk, .int mpl, .int mva, .long mwd, .int mbd, .int mbp, .int mft, .int mfp, .ref mq16, .ref mq17, .ref mq18, .ref mq19, .ref mq20, .ref mq21, .int mlt, .ref mq23, .ref mq24, .ref mq25, .int msd, .ref mq27, .ref mq28, .ref mq29, .ref mq30, .ref mq31, .ref mq32, .int mlr, .int mst, .long mob, .long msb, .ref mq37, .int mln])), (mq1, .inl (mk1, 4, .inl mf1)), (mq2, .inl (mk2, 4, .inl mf2)), (mq3, .inl (mk3, 240, .inr (.inl mf3))), (mq4, .inl (mk4, 60, .inr (.inl mf4)))]) [0, 1, 2, 3, 4] (by decide) rfl
            have hK9 := hK.sub (tys' := []) [] rfl
            refine W.widen (k := 0) (n := 0) (by omega) (by omega) ?_
            exact W.iret (v := -8) hx hb hr (fun t ht hW => ⟨⟨(-8), (mf3, mf4), rfl, (by first | rfl | ((repeat' split) <;> (first | rfl | (exfalso; omega)))), by rw [ht]; exact hP9, va_K.moved hW.alike hK9, hD9⟩, hS.F ht⟩) hS.2.2 dX7_paste_62
        · have c_12 : v_11.toInt = (-1) := i_eq (a := v_11) (b := -1) rfl (by decide) c_12
          refine lv_bipush (v := -6) hx hb dX7_paste_42 (by decide) ?_
          have hP9 := hP.sub (ws' := [(mz, .inr (7, [.int 0, .ref mq1, .ref mq2, .ref mq3, .ref mq4, .ref mq5, .int mtd, .int mat, .int mtk, .int mpl, .int mva, .long mwd, .int mbd, .int mbp, .int mft, .int mfp, .ref mq16, .ref mq17, .ref mq18, .ref mq19, .ref mq20, .ref mq21, .int mlt, .ref mq23, .ref mq24, .ref mq25, .int msd, .ref mq27, .ref mq28, .ref mq29, .ref mq30, .ref mq31, .ref mq32, .int mlr, .int mst, .long mob, .long msb, .ref mq37, .int mln])), (mq1, .inl (mk1, 4, .inl mf1)), (mq2, .inl (mk2, 4, .inl mf2)), (mq3, .inl (mk3, 240, .inr (.inl mf3))), (mq4, .inl (mk4, 60, .inr (.inl mf4)))]) [0, 1, 2, 3, 4] rfl
          have hD9 := hD.sub (ws' := [(mz, .inr (7, [.int 0, .ref mq1, .ref mq2, .ref mq3, .ref mq4, .ref mq5, .int mtd, .int mat, .int mtk, .int mpl, .int mva, .long mwd, .int mbd, .int mbp, .int mft, .int mfp, .ref mq16, .ref mq17, .ref mq18, .ref mq19, .ref mq20, .ref mq21, .int mlt, .ref mq23, .ref mq24, .ref mq25, .int msd, .ref mq27, .ref mq28, .ref mq29, .ref mq30, .ref mq31, .ref mq32, .int mlr, .int mst, .long mob, .long msb, .ref mq37, .int mln])), (mq1, .inl (mk1, 4, .inl mf1)), (mq2, .inl (mk2, 4, .inl mf2)), (mq3, .inl (mk3, 240, .inr (.inl mf3))), (mq4, .inl (mk4, 60, .inr (.inl mf4)))]) [0, 1, 2, 3, 4] (by decide) rfl
          have hK9 := hK.sub (tys' := []) [] rfl
          refine W.widen (k := 0) (n := 0) (by omega) (by omega) ?_
          exact W.iret (v := -6) hx hb hr (fun t ht hW => ⟨⟨(-6), (mf3, mf4), rfl, (by first | rfl | ((repeat' split) <;> (first | rfl | (exfalso; omega)))), by rw [ht]; exact hP9, va_K.moved hW.alike hK9, hD9⟩, hS.F ht⟩) hS.2.2 dX7_paste_44
    · obtain rfl : r_5 = 0 := r_59
      have hC_41 := hC
      refine lv_if_ne (tgt := 22) hx hb dX7_paste_16 (by decide) (fun h => absurd (by decide) h) (fun _ => ?_)
      refine lv_bipush (v := -2) hx hb dX7_paste_19 (by decide) ?_
      have hP9 := hP.sub (ws' := [(mz, .inr (7, [.int 0, .ref mq1, .ref mq2, .ref mq3, .ref mq4, .ref mq5, .int mtd, .int mat, .int mtk, .int mpl, .int mva, .long mwd, .int mbd, .int mbp, .int mft, .int mfp, .ref mq16, .ref mq17, .ref mq18, .ref mq19, .ref mq20, .ref mq21, .int mlt, .ref mq23, .ref mq24, .ref mq25, .int msd, .ref mq27, .ref mq28, .ref mq29, .ref mq30, .ref mq31, .ref mq32, .int mlr, .int mst, .long mob, .long msb, .ref mq37, .int mln])), (mq1, .inl (mk1, 4, .inl mf1)), (mq2, .inl (mk2, 4, .inl mf2)), (mq3, .inl (mk3, 240, .inr (.inl mf3))), (mq4, .inl (mk4, 60, .inr (.inl mf4)))]) [0, 1, 2, 3, 4] rfl
      have hD9 := hD.sub (ws' := [(mz, .inr (7, [.int 0, .ref mq1, .ref mq2, .ref mq3, .ref mq4, .ref mq5, .int mtd, .int mat, .int mtk, .int mpl, .int mva, .long mwd, .int mbd, .int mbp, .int mft, .int mfp, .ref mq16, .ref mq17, .ref mq18, .ref mq19, .ref mq20, .ref mq21, .int mlt, .ref mq23, .ref mq24, .ref mq25, .int msd, .ref mq27, .ref mq28, .ref mq29, .ref mq30, .ref mq31, .ref mq32, .int mlr, .int mst, .long mob, .long msb, .ref mq37, .int mln])), (mq1, .inl (mk1, 4, .inl mf1)), (mq2, .inl (mk2, 4, .inl mf2)), (mq3, .inl (mk3, 240, .inr (.inl mf3))), (mq4, .inl (mk4, 60, .inr (.inl mf4)))]) [0, 1, 2, 3, 4] (by decide) rfl
      have hK9 := hK.sub (tys' := []) [] rfl
      refine W.widen (k := 0) (n := 0) (by omega) (by omega) ?_
      exact W.iret (v := -2) hx hb hr (fun t ht hW => ⟨⟨(-2), (mf3, mf4), rfl, (by first | rfl | ((repeat' split) <;> (first | rfl | (exfalso; omega)))), by rw [ht]; exact hP9, va_K.moved hW.alike hK9, hD9⟩, hS.F ht⟩) hS.2.2 dX7_paste_21
  · obtain rfl : r_1 = 0 := r_19
    have hC_43 := hC
    refine lv_if_eq (tgt := 19) hx hb dX7_paste_9 (by decide) (fun _ => ?_) (fun h => absurd (by decide) h)
    refine lv_bipush (v := -2) hx hb dX7_paste_19 (by decide) ?_
    have hP9 := hP.sub (ws' := [(mz, .inr (7, [.int 0, .ref mq1, .ref mq2, .ref mq3, .ref mq4, .ref mq5, .int mtd, .int mat, .int mtk, .int mpl, .int mva, .long mwd, .int mbd, .int mbp, .int mft, .int mfp, .ref mq16, .ref mq17, .ref mq18, .ref mq19, .ref mq20, .ref mq21, .int mlt, .ref mq23, .ref mq24, .ref mq25, .int msd, .ref mq27, .ref mq28, .ref mq29, .ref mq30, .ref mq31, .ref mq32, .int mlr, .int mst, .long mob, .long msb, .ref mq37, .int mln])), (mq1, .inl (mk1, 4, .inl mf1)), (mq2, .inl (mk2, 4, .inl mf2)), (mq3, .inl (mk3, 240, .inr (.inl mf3))), (mq4, .inl (mk4, 60, .inr (.inl mf4)))]) [0, 1, 2, 3, 4] rfl
    have hD9 := hD.sub (ws' := [(mz, .inr (7, [.int 0, .ref mq1, .ref mq2, .ref mq3, .ref mq4, .ref mq5, .int mtd, .int mat, .int mtk, .int mpl, .int mva, .long mwd, .int mbd, .int mbp, .int mft, .int mfp, .ref mq16, .ref mq17, .ref mq18, .ref mq19, .ref mq20, .ref mq21, .int mlt, .ref mq23, .ref mq24, .ref mq25, .int msd, .ref mq27, .ref mq28, .ref mq29, .ref mq30, .ref mq31, .ref mq32, .int mlr, .int mst, .long mob, .long msb, .ref mq37, .int mln])), (mq1, .inl (mk1, 4, .inl mf1)), (mq2, .inl (mk2, 4, .inl mf2)), (mq3, .inl (mk3, 240, .inr (.inl mf3))), (mq4, .inl (mk4, 60, .inr (.inl mf4)))]) [0, 1, 2, 3, 4] (by decide) rfl
    have hK9 := hK.sub (tys' := []) [] rfl
    refine W.widen (k := 0) (n := 0) (by omega) (by omega) ?_
    exact W.iret (v := -2) hx hb hr (fun t ht hW => ⟨⟨(-2), (mf3, mf4), rfl, (by first | rfl | ((repeat' split) <;> (first | rfl | (exfalso; omega)))), by rw [ht]; exact hP9, va_K.moved hW.alike hK9, hD9⟩, hS.F ht⟩) hS.2.2 dX7_paste_21

theorem dX7_four_0 : decode cX7_four 0 = .ok (.bipush 24, 2) := by decide +kernel
theorem dX7_four_2 : decode cX7_four 2 = .ok (.istore_n 2, 1) := by decide +kernel
theorem dX7_four_3 : decode cX7_four 3 = .ok (.iload_n 2, 1) := by decide +kernel
theorem dX7_four_4 : decode cX7_four 4 = .ok (.ifCond .lt 32, 3) := by decide +kernel
theorem dX7_four_7 : decode cX7_four 7 = .ok (.aload_n 0, 1) := by decide +kernel
theorem dX7_four_8 : decode cX7_four 8 = .ok (.getfield 23, 3) := by decide +kernel
theorem dX7_four_11 : decode cX7_four 11 = .ok (.aload_n 0, 1) := by decide +kernel
theorem dX7_four_12 : decode cX7_four 12 = .ok (.getfield 97, 3) := by decide +kernel
theorem dX7_four_15 : decode cX7_four 15 = .ok (.iload_n 1, 1) := by decide +kernel
theorem dX7_four_16 : decode cX7_four 16 = .ok (.iload_n 2, 1) := by decide +kernel
theorem dX7_four_17 : decode cX7_four 17 = .ok (.ishr, 1) := by decide +kernel
theorem dX7_four_18 : decode cX7_four 18 = .ok (.i2b, 1) := by decide +kernel
theorem dX7_four_19 : decode cX7_four 19 = .ok (.bastore, 1) := by decide +kernel
theorem dX7_four_20 : decode cX7_four 20 = .ok (.aload_n 0, 1) := by decide +kernel
theorem dX7_four_21 : decode cX7_four 21 = .ok (.dup, 1) := by decide +kernel
theorem dX7_four_22 : decode cX7_four 22 = .ok (.getfield 97, 3) := by decide +kernel
theorem dX7_four_25 : decode cX7_four 25 = .ok (.iconst 1, 1) := by decide +kernel
theorem dX7_four_26 : decode cX7_four 26 = .ok (.iadd, 1) := by decide +kernel
theorem dX7_four_27 : decode cX7_four 27 = .ok (.putfield 97, 3) := by decide +kernel
theorem dX7_four_30 : decode cX7_four 30 = .ok (.iinc 2 (-8), 3) := by decide +kernel
theorem dX7_four_33 : decode cX7_four 33 = .ok (.goto (-30), 3) := by decide +kernel
theorem dX7_four_36 : decode cX7_four 36 = .ok (.return_, 1) := by decide +kernel
def wz_X7_four : List Cond := .code yX7_four cX7_four 3 none :: ([Cond.fieldLink RX7 23 "HedgeMazeModel" "tape" "[B", Cond.fieldLink RX7 97 "HedgeMazeModel" "taped" "I"] ++ wsX70)
theorem wd_X7_four_0 : Cond.fieldLink RX7 23 "HedgeMazeModel" "tape" "[B" ∈ wz_X7_four := List.mem_of_getElem? (i := 1) rfl
theorem wd_X7_four_1 : Cond.fieldLink RX7 97 "HedgeMazeModel" "taped" "I" ∈ wz_X7_four := List.mem_of_getElem? (i := 2) rfl
theorem in_X7_four_X7 : ∀ w ∈ wsX70, w ∈ wz_X7_four := fun _ h => List.mem_cons_of_mem _ (List.mem_append_right _ h)
set_option maxHeartbeats 4000000 in
set_option maxRecDepth 100000 in
theorem c_X7_four (l : Launch) (dC : Nat → ClassId) (dI : Nat → Nat → Nat) (sz : Nat) (mz : Nat) (mth : Int32) (mq1 : Nat) (mq2 : Nat) (mq3 : Nat) (mq4 : Nat) (mq5 : Nat) (mtd : Int32) (mat : Int32) (mtk : Int32) (mpl : Int32) (mva : Int32) (mwd : Int64) (mbd : Int32) (mbp : Int32) (mft : Int32) (mfp : Int32) (mq16 : Nat) (mq17 : Nat) (mq18 : Nat) (mq19 : Nat) (mq20 : Nat) (mq21 : Nat) (mlt : Int32) (mq23 : Nat) (mq24 : Nat) (mq25 : Nat) (msd : Int32) (mq27 : Nat) (mq28 : Nat) (mq29 : Nat) (mq30 : Nat) (mq31 : Nat) (mq32 : Nat) (mlr : Int32) (mst : Int32) (mob : Int64) (msb : Int64) (mq37 : Nat) (mln : Int32) (mk5 : ClassId) (mf5 : Nat → Int32) (p0 : Int32) (h_td : 0 ≤ mtd.toInt ∧ mtd.toInt ≤ 1596) : Met l yX7_four wz_X7_four ({ frames := 0, cells := 0, slots := 0, locals := 0 }) (va_Pc [.ref mz, .int p0] (fun U => U.heap.size = sz ∧ va_P (dC, dI) vwCl [(mz, .inr (7, [.int mth, .ref mq1, .ref mq2, .ref mq3, .ref mq4, .ref mq5, .int mtd, .int mat, .int mtk, .int mpl, .int mva, .long mwd, .int mbd, .int mbp, .int mft, .int mfp, .ref mq16, .ref mq17, .ref mq18, .ref mq19, .ref mq20, .ref mq21, .int mlt, .ref mq23, .ref mq24, .ref mq25, .int msd, .ref mq27, .ref mq28, .ref mq29, .ref mq30, .ref mq31, .ref mq32, .int mlr, .int mst, .long mob, .long msb, .ref mq37, .int mln])), (mq5, .inl (mk5, 1600, .inl mf5))] U.heap ∧ va_K (dC, dI) vwCl [(mk5, .byte)] U ∧ va_D (fun _ => True) [(mz, .inr (7, [.int mth, .ref mq1, .ref mq2, .ref mq3, .ref mq4, .ref mq5, .int mtd, .int mat, .int mtk, .int mpl, .int mva, .long mwd, .int mbd, .int mbp, .int mft, .int mfp, .ref mq16, .ref mq17, .ref mq18, .ref mq19, .ref mq20, .ref mq21, .int mlt, .ref mq23, .ref mq24, .ref mq25, .int msd, .ref mq27, .ref mq28, .ref mq29, .ref mq30, .ref mq31, .ref mq32, .int mlr, .int mst, .long mob, .long msb, .ref mq37, .int mln])), (mq5, .inl (mk5, 1600, .inl mf5))])) (va_Qv (fun (u : Int32 × (Nat → Int32)) => (u.1.toInt = mtd.toInt + 4)) (fun (u : Int32 × (Nat → Int32)) (t : State) => va_P (dC, dI) vwCl [(mz, .inr (7, [.int mth, .ref mq1, .ref mq2, .ref mq3, .ref mq4, .ref mq5, .int u.1, .int mat, .int mtk, .int mpl, .int mva, .long mwd, .int mbd, .int mbp, .int mft, .int mfp, .ref mq16, .ref mq17, .ref mq18, .ref mq19, .ref mq20, .ref mq21, .int mlt, .ref mq23, .ref mq24, .ref mq25, .int msd, .ref mq27, .ref mq28, .ref mq29, .ref mq30, .ref mq31, .ref mq32, .int mlr, .int mst, .long mob, .long msb, .ref mq37, .int mln])), (mq5, .inl (mk5, 1600, .inl u.2))] t.heap ∧ va_K (dC, dI) vwCl [] t ∧ va_D (va_A [(mz, .inr (7, [.int mth, .ref mq1, .ref mq2, .ref mq3, .ref mq4, .ref mq5, .int mtd, .int mat, .int mtk, .int mpl, .int mva, .long mwd, .int mbd, .int mbp, .int mft, .int mfp, .ref mq16, .ref mq17, .ref mq18, .ref mq19, .ref mq20, .ref mq21, .int mlt, .ref mq23, .ref mq24, .ref mq25, .int msd, .ref mq27, .ref mq28, .ref mq29, .ref mq30, .ref mq31, .ref mq32, .int mlr, .int mst, .long mob, .long msb, .ref mq37, .int mln])), (mq5, .inl (mk5, 1600, .inl mf5))] sz) [(mz, .inr (7, [.int mth, .ref mq1, .ref mq2, .ref mq3, .ref mq4, .ref mq5, .int u.1, .int mat, .int mtk, .int mpl, .int mva, .long mwd, .int mbd, .int mbp, .int mft, .int mfp, .ref mq16, .ref mq17, .ref mq18, .ref mq19, .ref mq20, .ref mq21, .int mlt, .ref mq23, .ref mq24, .ref mq25, .int msd, .ref mq27, .ref mq28, .ref mq29, .ref mq30, .ref mq31, .ref mq32, .int mlr, .int mst, .long mob, .long msb, .ref mq37, .int mln])), (mq5, .inl (mk5, 1600, .inl u.2))]) (va_A [(mz, .inr (7, [.int mth, .ref mq1, .ref mq2, .ref mq3, .ref mq4, .ref mq5, .int mtd, .int mat, .int mtk, .int mpl, .int mva, .long mwd, .int mbd, .int mbp, .int mft, .int mfp, .ref mq16, .ref mq17, .ref mq18, .ref mq19, .ref mq20, .ref mq21, .int mlt, .ref mq23, .ref mq24, .ref mq25, .int msd, .ref mq27, .ref mq28, .ref mq29, .ref mq30, .ref mq31, .ref mq32, .int mlr, .int mst, .long mob, .long msb, .ref mq37, .int mln])), (mq5, .inl (mk5, 1600, .inl mf5))] sz)) 0 0 (va_A [(mz, .inr (7, [.int mth, .ref mq1, .ref mq2, .ref mq3, .ref mq4, .ref mq5, .int mtd, .int mat, .int mtk, .int mpl, .int mva, .long mwd, .int mbd, .int mbp, .int mft, .int mfp, .ref mq16, .ref mq17, .ref mq18, .ref mq19, .ref mq20, .ref mq21, .int mlt, .ref mq23, .ref mq24, .ref mq25, .int msd, .ref mq27, .ref mq28, .ref mq29, .ref mq30, .ref mq31, .ref mq32, .int mlr, .int mst, .long mob, .long msb, .ref mq37, .int mln])), (mq5, .inl (mk5, 1600, .inl mf5))] sz) := by
  refine Met.ofW (cc := cX7_four) (maxL := 3) (ret := none) (by decide) rfl ?_
  intro p e s m args below meth c s₁ B hml hv
  obtain ⟨rfl, hsz, hP, hK, hD0⟩ := hv
  have hx := B.exec
  have hb := B.bytes
  have hr := B.returns
  have hts := atoms_spec (ws := wz_X7_four) B.pre
  have hown : s.vm.findClass RX7 = some m.cls := findClass_of_methodNamed B.named
  have hlocks := B.notSynchronized
  subst hsz
  have hD := hD0.self (sz := s.heap.size)
  generalize hAe : va_A [(mz, .inr (7, [.int mth, .ref mq1, .ref mq2, .ref mq3, .ref mq4, .ref mq5, .int mtd, .int mat, .int mtk, .int mpl, .int mva, .long mwd, .int mbd, .int mbp, .int mft, .int mfp, .ref mq16, .ref mq17, .ref mq18, .ref mq19, .ref mq20, .ref mq21, .int mlt, .ref mq23, .ref mq24, .ref mq25, .int msd, .ref mq27, .ref mq28, .ref mq29, .ref mq30, .ref mq31, .ref mq32, .int mlr, .int mst, .long mob, .long msb, .ref mq37, .int mln])), (mq5, .inl (mk5, 1600, .inl mf5))] s.heap.size = A at hD ⊢
  have hA : ∀ q : Nat, s.heap.size ≤ q → A q := fun q h => by rw [← hAe]; exact Or.inr h
  have hS : va_S A s.heap s.heap [] := va_S.rf
  have hP : va_P (dC, dI) vwCl [(mz, .inr (7, [.int mth, .ref mq1, .ref mq2, .ref mq3, .ref mq4, .ref mq5, .int mtd, .int mat, .int mtk, .int mpl, .int mva, .long mwd, .int mbd, .int mbp, .int mft, .int mfp, .ref mq16, .ref mq17, .ref mq18, .ref mq19, .ref mq20, .ref mq21, .int mlt, .ref mq23, .ref mq24, .ref mq25, .int msd, .ref mq27, .ref mq28, .ref mq29, .ref mq30, .ref mq31, .ref mq32, .int mlr, .int mst, .long mob, .long msb, .ref mq37, .int mln])), (mq5, .inl (mk5, 1600, .inl mf5))] s.heap := hP
  have hl := lv_entry ([.ref mz, .int p0]) (n := 3) (Nat.le_of_ble_eq_true rfl)
  rw [lg_entry_eq]
  generalize (lg_sl ([.ref mz, .int p0]) ++ List.replicate (3 - (lg_sl ([.ref mz, .int p0])).length) Slot.unset).toArray = ls at hl ⊢
  have hl : lv_has ls 3 [(0, .ref mz), (1, .int p0)] := hl
  refine lv_bipush (v := 24) hx hb dX7_four_0 (by decide) ?_
  refine lv_istore_n (lv' := [(2, .int 24), (0, .ref mz), (1, .int p0)]) hx hb dX7_four_2 rfl hl (by decide) rfl (fun ls hl => ?_)
  refine lv_iload_n hx hb dX7_four_3 rfl (lv_at hl 0 rfl) ?_
  refine lv_if_lt (tgt := 36) hx hb dX7_four_4 (by decide) (fun h => absurd h (by decide)) (fun _ => ?_)
  refine lv_aload_n hx hb dX7_four_7 rfl (lv_at hl 1 rfl) ?_
  refine va_get (D := (dC, dI)) (ci := 7) (v := .ref mq5) (C := RX7) (T := TX7) (N := 39) hx hb hts in_X7_four_X7 hown hK hP 0 rfl rfl 5 (by decide) (hts _ wd_X7_four_0) (fun _ h9 => h9) rfl dX7_four_8 ?_
  refine lv_aload_n hx hb dX7_four_11 rfl (lv_at hl 1 rfl) ?_
  refine va_get (D := (dC, dI)) (ci := 7) (v := .int mtd) (C := RX7) (T := TX7) (N := 39) hx hb hts in_X7_four_X7 hown hK hP 0 rfl rfl 6 (by decide) (hts _ wd_X7_four_1) (fun _ h9 => h9) rfl dX7_four_12 ?_
  refine lv_iload_n hx hb dX7_four_15 rfl (lv_at hl 2 rfl) ?_
  refine lv_iload_n hx hb dX7_four_16 rfl (lv_at hl 0 rfl) ?_
  refine lv_ishr hx hb dX7_four_17 ?_
  refine lv_topi (fun x_2 ex_2 => ?_)
  refine lv_i2b (v := x_2.toInt8.toInt32) hx hb dX7_four_18 rfl ?_
  refine lv_topi (fun x_3 ex_3 => ?_)
  refine va_bast hx hb hK hP hD hS 1 0 rfl rfl (i_in rfl (by omega) (by omega)) dX7_four_19 (fun H locs hP hD hS => ?_)
  have hP : va_P (dC, dI) vwCl [(mz, .inr (7, [.int mth, .ref mq1, .ref mq2, .ref mq3, .ref mq4, .ref mq5, .int mtd, .int mat, .int mtk, .int mpl, .int mva, .long mwd, .int mbd, .int mbp, .int mft, .int mfp, .ref mq16, .ref mq17, .ref mq18, .ref mq19, .ref mq20, .ref mq21, .int mlt, .ref mq23, .ref mq24, .ref mq25, .int msd, .ref mq27, .ref mq28, .ref mq29, .ref mq30, .ref mq31, .ref mq32, .int mlr, .int mst, .long mob, .long msb, .ref mq37, .int mln])), (mq5, .inl (mk5, 1600, .inl (upd mf5 mtd.toNatClampNeg (vp_nar .byte x_3))))] H := hP
  have hD : va_D A [(mz, .inr (7, [.int mth, .ref mq1, .ref mq2, .ref mq3, .ref mq4, .ref mq5, .int mtd, .int mat, .int mtk, .int mpl, .int mva, .long mwd, .int mbd, .int mbp, .int mft, .int mfp, .ref mq16, .ref mq17, .ref mq18, .ref mq19, .ref mq20, .ref mq21, .int mlt, .ref mq23, .ref mq24, .ref mq25, .int msd, .ref mq27, .ref mq28, .ref mq29, .ref mq30, .ref mq31, .ref mq32, .int mlr, .int mst, .long mob, .long msb, .ref mq37, .int mln])), (mq5, .inl (mk5, 1600, .inl (upd mf5 mtd.toNatClampNeg (vp_nar .byte x_3))))] := hD
  obtain ⟨f_4, ef_4⟩ : ∃ g, g = upd mf5 mtd.toNatClampNeg (vp_nar .byte x_3) := ⟨_, rfl⟩
  rw [← ef_4] at hP hD
  refine lv_aload_n hx hb dX7_four_20 rfl (lv_at hl 1 rfl) ?_
  refine lv_dup hx hb dX7_four_21 rfl ?_
  refine va_get (D := (dC, dI)) (ci := 7) (v := .int mtd) (C := RX7) (T := TX7) (N := 39) hx hb hts in_X7_four_X7 hown hK hP 0 rfl rfl 6 (by decide) (hts _ wd_X7_four_1) (fun _ h9 => h9) rfl dX7_four_22 ?_
  refine lv_iconst (v := 1) hx hb dX7_four_25 (by decide) ?_
  refine lv_iadd hx hb dX7_four_26 ?_
  refine lv_topi (fun x_5 ex_5 => ?_)
  have zx_5 : x_5.toInt = mtd.toInt + 1 := by rw [ex_5]; exact i_add rfl (by decide) (by omega) (by omega)
  refine va_put (D := (dC, dI)) (ci := 7) (v := .int x_5) (ty := .int) (C := RX7) (T := TX7) (N := 39) hx hb hts in_X7_four_X7 tyX7 tyX7_ok nmX7 hown hK hP hD hS 0 rfl rfl 6 (by decide) (hts _ wd_X7_four_1) (fun _ h9 => h9) rfl (by decide +kernel) rfl rfl (Nat.le_of_ble_eq_true rfl) dX7_four_27 (fun H locs hP hD hS => ?_)
  have hP : va_P (dC, dI) vwCl [(mz, .inr (7, [.int mth, .ref mq1, .ref mq2, .ref mq3, .ref mq4, .ref mq5, .int x_5, .int mat, .int mtk, .int mpl, .int mva, .long mwd, .int mbd, .int mbp, .int mft, .int mfp, .ref mq16, .ref mq17, .ref mq18, .ref mq19, .ref mq20, .ref mq21, .int mlt, .ref mq23, .ref mq24, .ref mq25, .int msd, .ref mq27, .ref mq28, .ref mq29, .ref mq30, .ref mq31, .ref mq32, .int mlr, .int mst, .long mob, .long msb, .ref mq37, .int mln])), (mq5, .inl (mk5, 1600, .inl f_4))] H := hP
  have hD : va_D A [(mz, .inr (7, [.int mth, .ref mq1, .ref mq2, .ref mq3, .ref mq4, .ref mq5, .int x_5, .int mat, .int mtk, .int mpl, .int mva, .long mwd, .int mbd, .int mbp, .int mft, .int mfp, .ref mq16, .ref mq17, .ref mq18, .ref mq19, .ref mq20, .ref mq21, .int mlt, .ref mq23, .ref mq24, .ref mq25, .int msd, .ref mq27, .ref mq28, .ref mq29, .ref mq30, .ref mq31, .ref mq32, .int mlr, .int mst, .long mob, .long msb, .ref mq37, .int mln])), (mq5, .inl (mk5, 1600, .inl f_4))] := hD
  refine lv_iinc (v := 16) (lv' := [(2, .int 16), (0, .ref mz), (1, .int p0)]) hx hb dX7_four_30 hl (k := 0) rfl (by decide) (by decide) rfl (fun ls hl => ?_)
  refine lv_goto (tgt := 3) hx hb dX7_four_33 (by decide) ?_
  refine lv_iload_n hx hb dX7_four_3 rfl (lv_at hl 0 rfl) ?_
  refine lv_if_lt (tgt := 36) hx hb dX7_four_4 (by decide) (fun h => absurd h (by decide)) (fun _ => ?_)
  refine lv_aload_n hx hb dX7_four_7 rfl (lv_at hl 1 rfl) ?_
  refine va_get (D := (dC, dI)) (ci := 7) (v := .ref mq5) (C := RX7) (T := TX7) (N := 39) hx hb hts in_X7_four_X7 hown hK hP 0 rfl rfl 5 (by decide) (hts _ wd_X7_four_0) (fun _ h9 => h9) rfl dX7_four_8 ?_
  refine lv_aload_n hx hb dX7_four_11 rfl (lv_at hl 1 rfl) ?_
  refine va_get (D := (dC, dI)) (ci := 7) (v := .int x_5) (C := RX7) (T := TX7) (N := 39) hx hb hts in_X7_four_X7 hown hK hP 0 rfl rfl 6 (by decide) (hts _ wd_X7_four_1) (fun _ h9 => h9) rfl dX7_four_12 ?_
  refine lv_iload_n hx hb dX7_four_15 rfl (lv_at hl 2 rfl) ?_
  refine lv_iload_n hx hb dX7_four_16 rfl (lv_at hl 0 rfl) ?_
  refine lv_ishr hx hb dX7_four_17 ?_
  refine lv_topi (fun x_7 ex_7 => ?_)
  refine lv_i2b (v := x_7.toInt8.toInt32) hx hb dX7_four_18 rfl ?_
  refine lv_topi (fun x_8 ex_8 => ?_)
  refine va_bast hx hb hK hP hD hS 1 0 rfl rfl (i_in rfl (by omega) (by omega)) dX7_four_19 (fun H locs hP hD hS => ?_)
  have hP : va_P (dC, dI) vwCl [(mz, .inr (7, [.int mth, .ref mq1, .ref mq2, .ref mq3, .ref mq4, .ref mq5, .int x_5, .int mat, .int mtk, .int mpl, .int mva, .long mwd, .int mbd, .int mbp, .int mft, .int mfp, .ref mq16, .ref mq17, .ref mq18, .ref mq19, .ref mq20, .ref mq21, .int mlt, .ref mq23, .ref mq24, .ref mq25, .int msd, .ref mq27, .ref mq28, .ref mq29, .ref mq30, .ref mq31, .ref mq32, .int mlr, .int mst, .long mob, .long msb, .ref mq37, .int mln])), (mq5, .inl (mk5, 1600, .inl (upd f_4 x_5.toNatClampNeg (vp_nar .byte x_8))))] H := hP
  have hD : va_D A [(mz, .inr (7, [.int mth, .ref mq1, .ref mq2, .ref mq3, .ref mq4, .ref mq5, .int x_5, .int mat, .int mtk, .int mpl, .int mva, .long mwd, .int mbd, .int mbp, .int mft, .int mfp, .ref mq16, .ref mq17, .ref mq18, .ref mq19, .ref mq20, .ref mq21, .int mlt, .ref mq23, .ref mq24, .ref mq25, .int msd, .ref mq27, .ref mq28, .ref mq29, .ref mq30, .ref mq31, .ref mq32, .int mlr, .int mst, .long mob, .long msb, .ref mq37, .int mln])), (mq5, .inl (mk5, 1600, .inl (upd f_4 x_5.toNatClampNeg (vp_nar .byte x_8))))] := hD
  obtain ⟨f_9, ef_9⟩ : ∃ g, g = upd f_4 x_5.toNatClampNeg (vp_nar .byte x_8) := ⟨_, rfl⟩
  rw [← ef_9] at hP hD
  refine lv_aload_n hx hb dX7_four_20 rfl (lv_at hl 1 rfl) ?_
  refine lv_dup hx hb dX7_four_21 rfl ?_
  refine va_get (D := (dC, dI)) (ci := 7) (v := .int x_5) (C := RX7) (T := TX7) (N := 39) hx hb hts in_X7_four_X7 hown hK hP 0 rfl rfl 6 (by decide) (hts _ wd_X7_four_1) (fun _ h9 => h9) rfl dX7_four_22 ?_
  refine lv_iconst (v := 1) hx hb dX7_four_25 (by decide) ?_
  refine lv_iadd hx hb dX7_four_26 ?_
  refine lv_topi (fun x_10 ex_10 => ?_)
  have zx_10 : x_10.toInt = x_5.toInt + 1 := by rw [ex_10]; exact i_add rfl (by decide) (by omega) (by omega)
  refine va_put (D := (dC, dI)) (ci := 7) (v := .int x_10) (ty := .int) (C := RX7) (T := TX7) (N := 39) hx hb hts in_X7_four_X7 tyX7 tyX7_ok nmX7 hown hK hP hD hS 0 rfl rfl 6 (by decide) (hts _ wd_X7_four_1) (fun _ h9 => h9) rfl (by decide +kernel) rfl rfl (Nat.le_of_ble_eq_true rfl) dX7_four_27 (fun H locs hP hD hS => ?_)
  have hP : va_P (dC, dI) vwCl [(mz, .inr (7, [.int mth, .ref mq1, .ref mq2, .ref mq3, .ref mq4, .ref mq5, .int x_10, .int mat, .int mtk, .int mpl, .int mva, .long mwd, .int mbd, .int mbp, .int mft, .int mfp, .ref mq16, .ref mq17, .ref mq18, .ref mq19, .ref mq20, .ref mq21, .int mlt, .ref mq23, .ref mq24, .ref mq25, .int msd, .ref mq27, .ref mq28, .ref mq29, .ref mq30, .ref mq31, .ref mq32, .int mlr, .int mst, .long mob, .long msb, .ref mq37, .int mln])), (mq5, .inl (mk5, 1600, .inl f_9))] H := hP
  have hD : va_D A [(mz, .inr (7, [.int mth, .ref mq1, .ref mq2, .ref mq3, .ref mq4, .ref mq5, .int x_10, .int mat, .int mtk, .int mpl, .int mva, .long mwd, .int mbd, .int mbp, .int mft, .int mfp, .ref mq16, .ref mq17, .ref mq18, .ref mq19, .ref mq20, .ref mq21, .int mlt, .ref mq23, .ref mq24, .ref mq25, .int msd, .ref mq27, .ref mq28, .ref mq29, .ref mq30, .ref mq31, .ref mq32, .int mlr, .int mst, .long mob, .long msb, .ref mq37, .int mln])), (mq5, .inl (mk5, 1600, .inl f_9))] := hD
  refine lv_iinc (v := 8) (lv' := [(2, .int 8), (0, .ref mz), (1, .int p0)]) hx hb dX7_four_30 hl (k := 0) rfl (by decide) (by decide) rfl (fun ls hl => ?_)
  refine lv_goto (tgt := 3) hx hb dX7_four_33 (by decide) ?_
  refine lv_iload_n hx hb dX7_four_3 rfl (lv_at hl 0 rfl) ?_
  refine lv_if_lt (tgt := 36) hx hb dX7_four_4 (by decide) (fun h => absurd h (by decide)) (fun _ => ?_)
  refine lv_aload_n hx hb dX7_four_7 rfl (lv_at hl 1 rfl) ?_
  refine va_get (D := (dC, dI)) (ci := 7) (v := .ref mq5) (C := RX7) (T := TX7) (N := 39) hx hb hts in_X7_four_X7 hown hK hP 0 rfl rfl 5 (by decide) (hts _ wd_X7_four_0) (fun _ h9 => h9) rfl dX7_four_8 ?_
  refine lv_aload_n hx hb dX7_four_11 rfl (lv_at hl 1 rfl) ?_
  refine va_get (D := (dC, dI)) (ci := 7) (v := .int x_10) (C := RX7) (T := TX7) (N := 39) hx hb hts in_X7_four_X7 hown hK hP 0 rfl rfl 6 (by decide) (hts _ wd_X7_four_1) (fun _ h9 => h9) rfl dX7_four_12 ?_
  refine lv_iload_n hx hb dX7_four_15 rfl (lv_at hl 2 rfl) ?_
  refine lv_iload_n hx hb dX7_four_16 rfl (lv_at hl 0 rfl) ?_
  refine lv_ishr hx hb dX7_four_17 ?_
  refine lv_topi (fun x_12 ex_12 => ?_)
  refine lv_i2b (v := x_12.toInt8.toInt32) hx hb dX7_four_18 rfl ?_
  refine lv_topi (fun x_13 ex_13 => ?_)
  refine va_bast hx hb hK hP hD hS 1 0 rfl rfl (i_in rfl (by omega) (by omega)) dX7_four_19 (fun H locs hP hD hS => ?_)
  have hP : va_P (dC, dI) vwCl [(mz, .inr (7, [.int mth, .ref mq1, .ref mq2, .ref mq3, .ref mq4, .ref mq5, .int x_10, .int mat, .int mtk, .int mpl, .int mva, .long mwd, .int mbd, .int mbp, .int mft, .int mfp, .ref mq16, .ref mq17, .ref mq18, .ref mq19, .ref mq20, .ref mq21, .int mlt, .ref mq23, .ref mq24, .ref mq25, .int msd, .ref mq27, .ref mq28, .ref mq29, .ref mq30, .ref mq31, .ref mq32, .int mlr, .int mst, .long mob, .long msb, .ref mq37, .int mln])), (mq5, .inl (mk5, 1600, .inl (upd f_9 x_10.toNatClampNeg (vp_nar .byte x_13))))] H := hP
  have hD : va_D A [(mz, .inr (7, [.int mth, .ref mq1, .ref mq2, .ref mq3, .ref mq4, .ref mq5, .int x_10, .int mat, .int mtk, .int mpl, .int mva, .long mwd, .int mbd, .int mbp, .int mft, .int mfp, .ref mq16, .ref mq17, .ref mq18, .ref mq19, .ref mq20, .ref mq21, .int mlt, .ref mq23, .ref mq24, .ref mq25, .int msd, .ref mq27, .ref mq28, .ref mq29, .ref mq30, .ref mq31, .ref mq32, .int mlr, .int mst, .long mob, .long msb, .ref mq37, .int mln])), (mq5, .inl (mk5, 1600, .inl (upd f_9 x_10.toNatClampNeg (vp_nar .byte x_13))))] := hD
  obtain ⟨f_14, ef_14⟩ : ∃ g, g = upd f_9 x_10.toNatClampNeg (vp_nar .byte x_13) := ⟨_, rfl⟩
  rw [← ef_14] at hP hD
  refine lv_aload_n hx hb dX7_four_20 rfl (lv_at hl 1 rfl) ?_
  refine lv_dup hx hb dX7_four_21 rfl ?_
  refine va_get (D := (dC, dI)) (ci := 7) (v := .int x_10) (C := RX7) (T := TX7) (N := 39) hx hb hts in_X7_four_X7 hown hK hP 0 rfl rfl 6 (by decide) (hts _ wd_X7_four_1) (fun _ h9 => h9) rfl dX7_four_22 ?_
  refine lv_iconst (v := 1) hx hb dX7_four_25 (by decide) ?_
  refine lv_iadd hx hb dX7_four_26 ?_
  refine lv_topi (fun x_15 ex_15 => ?_)
  have zx_15 : x_15.toInt = x_10.toInt + 1 := by rw [ex_15]; exact i_add rfl (by decide) (by omega) (by omega)
  refine va_put (D := (dC, dI)) (ci := 7) (v := .int x_15) (ty := .int) (C := RX7) (T := TX7) (N := 39) hx hb hts in_X7_four_X7 tyX7 tyX7_ok nmX7 hown hK hP hD hS 0 rfl rfl 6 (by decide) (hts _ wd_X7_four_1) (fun _ h9 => h9) rfl (by decide +kernel) rfl rfl (Nat.le_of_ble_eq_true rfl) dX7_four_27 (fun H locs hP hD hS => ?_)
  have hP : va_P (dC, dI) vwCl [(mz, .inr (7, [.int mth, .ref mq1, .ref mq2, .ref mq3, .ref mq4, .ref mq5, .int x_15, .int mat, .int mtk, .int mpl, .int mva, .long mwd, .int mbd, .int mbp, .int mft, .int mfp, .ref mq16, .ref mq17, .ref mq18, .ref mq19, .ref mq20, .ref mq21, .int mlt, .ref mq23, .ref mq24, .ref mq25, .int msd, .ref mq27, .ref mq28, .ref mq29, .ref mq30, .ref mq31, .ref mq32, .int mlr, .int mst, .long mob, .long msb, .ref mq37, .int mln])), (mq5, .inl (mk5, 1600, .inl f_14))] H := hP
  have hD : va_D A [(mz, .inr (7, [.int mth, .ref mq1, .ref mq2, .ref mq3, .ref mq4, .ref mq5, .int x_15, .int mat, .int mtk, .int mpl, .int mva, .long mwd, .int mbd, .int mbp, .int mft, .int mfp, .ref mq16, .ref mq17, .ref mq18, .ref mq19, .ref mq20, .ref mq21, .int mlt, .ref mq23, .ref mq24, .ref mq25, .int msd, .ref mq27, .ref mq28, .ref mq29, .ref mq30, .ref mq31, .ref mq32, .int mlr, .int mst, .long mob, .long msb, .ref mq37, .int mln])), (mq5, .inl (mk5, 1600, .inl f_14))] := hD
  refine lv_iinc (v := 0) (lv' := [(2, .int 0), (0, .ref mz), (1, .int p0)]) hx hb dX7_four_30 hl (k := 0) rfl (by decide) (by decide) rfl (fun ls hl => ?_)
  refine lv_goto (tgt := 3) hx hb dX7_four_33 (by decide) ?_
  refine lv_iload_n hx hb dX7_four_3 rfl (lv_at hl 0 rfl) ?_
  refine lv_if_lt (tgt := 36) hx hb dX7_four_4 (by decide) (fun h => absurd h (by decide)) (fun _ => ?_)
  refine lv_aload_n hx hb dX7_four_7 rfl (lv_at hl 1 rfl) ?_
  refine va_get (D := (dC, dI)) (ci := 7) (v := .ref mq5) (C := RX7) (T := TX7) (N := 39) hx hb hts in_X7_four_X7 hown hK hP 0 rfl rfl 5 (by decide) (hts _ wd_X7_four_0) (fun _ h9 => h9) rfl dX7_four_8 ?_
  refine lv_aload_n hx hb dX7_four_11 rfl (lv_at hl 1 rfl) ?_
  refine va_get (D := (dC, dI)) (ci := 7) (v := .int x_15) (C := RX7) (T := TX7) (N := 39) hx hb hts in_X7_four_X7 hown hK hP 0 rfl rfl 6 (by decide) (hts _ wd_X7_four_1) (fun _ h9 => h9) rfl dX7_four_12 ?_
  refine lv_iload_n hx hb dX7_four_15 rfl (lv_at hl 2 rfl) ?_
  refine lv_iload_n hx hb dX7_four_16 rfl (lv_at hl 0 rfl) ?_
  refine lv_ishr hx hb dX7_four_17 ?_
  refine lv_topi (fun x_17 ex_17 => ?_)
  refine lv_i2b (v := x_17.toInt8.toInt32) hx hb dX7_four_18 rfl ?_
  refine lv_topi (fun x_18 ex_18 => ?_)
  refine va_bast hx hb hK hP hD hS 1 0 rfl rfl (i_in rfl (by omega) (by omega)) dX7_four_19 (fun H locs hP hD hS => ?_)
  have hP : va_P (dC, dI) vwCl [(mz, .inr (7, [.int mth, .ref mq1, .ref mq2, .ref mq3, .ref mq4, .ref mq5, .int x_15, .int mat, .int mtk, .int mpl, .int mva, .long mwd, .int mbd, .int mbp, .int mft, .int mfp, .ref mq16, .ref mq17, .ref mq18, .ref mq19, .ref mq20, .ref mq21, .int mlt, .ref mq23, .ref mq24, .ref mq25, .int msd, .ref mq27, .ref mq28, .ref mq29, .ref mq30, .ref mq31, .ref mq32, .int mlr, .int mst, .long mob, .long msb, .ref mq37, .int mln])), (mq5, .inl (mk5, 1600, .inl (upd f_14 x_15.toNatClampNeg (vp_nar .byte x_18))))] H := hP
  have hD : va_D A [(mz, .inr (7, [.int mth, .ref mq1, .ref mq2, .ref mq3, .ref mq4, .ref mq5, .int x_15, .int mat, .int mtk, .int mpl, .int mva, .long mwd, .int mbd, .int mbp, .int mft, .int mfp, .ref mq16, .ref mq17, .ref mq18, .ref mq19, .ref mq20, .ref mq21, .int mlt, .ref mq23, .ref mq24, .ref mq25, .int msd, .ref mq27, .ref mq28, .ref mq29, .ref mq30, .ref mq31, .ref mq32, .int mlr, .int mst, .long mob, .long msb, .ref mq37, .int mln])), (mq5, .inl (mk5, 1600, .inl (upd f_14 x_15.toNatClampNeg (vp_nar .byte x_18))))] := hD
  obtain ⟨f_19, ef_19⟩ : ∃ g, g = upd f_14 x_15.toNatClampNeg (vp_nar .byte x_18) := ⟨_, rfl⟩
  rw [← ef_19] at hP hD
  refine lv_aload_n hx hb dX7_four_20 rfl (lv_at hl 1 rfl) ?_
  refine lv_dup hx hb dX7_four_21 rfl ?_
  refine va_get (D := (dC, dI)) (ci := 7) (v := .int x_15) (C := RX7) (T := TX7) (N := 39) hx hb hts in_X7_four_X7 hown hK hP 0 rfl rfl 6 (by decide) (hts _ wd_X7_four_1) (fun _ h9 => h9) rfl dX7_four_22 ?_
  refine lv_iconst (v := 1) hx hb dX7_four_25 (by decide) ?_
  refine lv_iadd hx hb dX7_four_26 ?_
  refine lv_topi (fun x_20 ex_20 => ?_)
  have zx_20 : x_20.toInt = x_15.toInt + 1 := by rw [ex_20]; exact i_add rfl (by decide) (by omega) (by omega)
  refine va_put (D := (dC, dI)) (ci := 7) (v := .int x_20) (ty := .int) (C := RX7) (T := TX7) (N := 39) hx hb hts in_X7_four_X7 tyX7 tyX7_ok nmX7 hown hK hP hD hS 0 rfl rfl 6 (by decide) (hts _ wd_X7_four_1) (fun _ h9 => h9) rfl (by decide +kernel) rfl rfl (Nat.le_of_ble_eq_true rfl) dX7_four_27 (fun H locs hP hD hS => ?_)
  have hP : va_P (dC, dI) vwCl [(mz, .inr (7, [.int mth, .ref mq1, .ref mq2, .ref mq3, .ref mq4, .ref mq5, .int x_20, .int mat, .int mtk, .int mpl, .int mva, .long mwd, .int mbd, .int mbp, .int mft, .int mfp, .ref mq16, .ref mq17, .ref mq18, .ref mq19, .ref mq20, .ref mq21, .int mlt, .ref mq23, .ref mq24, .ref mq25, .int msd, .ref mq27, .ref mq28, .ref mq29, .ref mq30, .ref mq31, .ref mq32, .int mlr, .int mst, .long mob, .long msb, .ref mq37, .int mln])), (mq5, .inl (mk5, 1600, .inl f_19))] H := hP
  have hD : va_D A [(mz, .inr (7, [.int mth, .ref mq1, .ref mq2, .ref mq3, .ref mq4, .ref mq5, .int x_20, .int mat, .int mtk, .int mpl, .int mva, .long mwd, .int mbd, .int mbp, .int mft, .int mfp, .ref mq16, .ref mq17, .ref mq18, .ref mq19, .ref mq20, .ref mq21, .int mlt, .ref mq23, .ref mq24, .ref mq25, .int msd, .ref mq27, .ref mq28, .ref mq29, .ref mq30, .ref mq31, .ref mq32, .int mlr, .int mst, .long mob, .long msb, .ref mq37, .int mln])), (mq5, .inl (mk5, 1600, .inl f_19))] := hD
  refine lv_iinc (v := -8) (lv' := [(2, .int (-8)), (0, .ref mz), (1, .int p0)]) hx hb dX7_four_30 hl (k := 0) rfl (by decide) (by decide) rfl (fun ls hl => ?_)
  refine lv_goto (tgt := 3) hx hb dX7_four_33 (by decide) ?_
  refine lv_iload_n hx hb dX7_four_3 rfl (lv_at hl 0 rfl) ?_
  refine lv_if_lt (tgt := 36) hx hb dX7_four_4 (by decide) (fun _ => ?_) (fun h => absurd (by decide) h)
  have hP9 := hP.sub (ws' := [(mz, .inr (7, [.int mth, .ref mq1, .ref mq2, .ref mq3, .ref mq4, .ref mq5, .int x_20, .int mat, .int mtk, .int mpl, .int mva, .long mwd, .int mbd, .int mbp, .int mft, .int mfp, .ref mq16, .ref mq17, .ref mq18, .ref mq19, .ref mq20, .ref mq21, .int mlt, .ref mq23, .ref mq24, .ref mq25, .int msd, .ref mq27, .ref mq28, .ref mq29, .ref mq30, .ref mq31, .ref mq32, .int mlr, .int mst, .long mob, .long msb, .ref mq37, .int mln])), (mq5, .inl (mk5, 1600, .inl f_19))]) [0, 1] rfl
  have hD9 := hD.sub (ws' := [(mz, .inr (7, [.int mth, .ref mq1, .ref mq2, .ref mq3, .ref mq4, .ref mq5, .int x_20, .int mat, .int mtk, .int mpl, .int mva, .long mwd, .int mbd, .int mbp, .int mft, .int mfp, .ref mq16, .ref mq17, .ref mq18, .ref mq19, .ref mq20, .ref mq21, .int mlt, .ref mq23, .ref mq24, .ref mq25, .int msd, .ref mq27, .ref mq28, .ref mq29, .ref mq30, .ref mq31, .ref mq32, .int mlr, .int mst, .long mob, .long msb, .ref mq37, .int mln])), (mq5, .inl (mk5, 1600, .inl f_19))]) [0, 1] (by decide) rfl
  have hK9 := hK.sub (tys' := []) [] rfl
  refine W.widen (k := 0) (n := 0) (by omega) (by omega) ?_
  exact W.vret hx hb hr (fun t ht hW => ⟨⟨(x_20, f_19), rfl, (by first | rfl | trivial | (dsimp only; omega) | omega | (left; rfl) | (right; rfl) | (dsimp only; first | (left; rfl) | (right; rfl))), by rw [ht]; exact hP9, va_K.moved hW.alike hK9, hD9⟩, hS.F ht⟩) hS.2.2 dX7_four_36

theorem dX7_feed_0 : decode cX7_feed 0 = .ok (.aload_n 0, 1) := by decide +kernel
theorem dX7_feed_1 : decode cX7_feed 1 = .ok (.iconst 0, 1) := by decide +kernel
theorem dX7_feed_2 : decode cX7_feed 2 = .ok (.putfield 80, 3) := by decide +kernel
theorem dX7_feed_5 : decode cX7_feed 5 = .ok (.aload_n 0, 1) := by decide +kernel
theorem dX7_feed_6 : decode cX7_feed 6 = .ok (.getfield 97, 3) := by decide +kernel
theorem dX7_feed_9 : decode cX7_feed 9 = .ok (.bipush 20, 2) := by decide +kernel
theorem dX7_feed_11 : decode cX7_feed 11 = .ok (.iadd, 1) := by decide +kernel
theorem dX7_feed_12 : decode cX7_feed 12 = .ok (.sipush 1600, 3) := by decide +kernel
theorem dX7_feed_15 : decode cX7_feed 15 = .ok (.if_icmp .le 5, 3) := by decide +kernel
theorem dX7_feed_18 : decode cX7_feed 18 = .ok (.iconst (-1), 1) := by decide +kernel
theorem dX7_feed_19 : decode cX7_feed 19 = .ok (.ireturn, 1) := by decide +kernel
theorem dX7_feed_20 : decode cX7_feed 20 = .ok (.aload_n 0, 1) := by decide +kernel
theorem dX7_feed_21 : decode cX7_feed 21 = .ok (.iload_n 1, 1) := by decide +kernel
theorem dX7_feed_22 : decode cX7_feed 22 = .ok (.invokevirtual 100, 3) := by decide +kernel
theorem dX7_feed_25 : decode cX7_feed 25 = .ok (.aload_n 0, 1) := by decide +kernel
theorem dX7_feed_26 : decode cX7_feed 26 = .ok (.iload_n 2, 1) := by decide +kernel
theorem dX7_feed_27 : decode cX7_feed 27 = .ok (.invokevirtual 100, 3) := by decide +kernel
theorem dX7_feed_30 : decode cX7_feed 30 = .ok (.aload_n 0, 1) := by decide +kernel
theorem dX7_feed_31 : decode cX7_feed 31 = .ok (.iload_n 3, 1) := by decide +kernel
theorem dX7_feed_32 : decode cX7_feed 32 = .ok (.invokevirtual 100, 3) := by decide +kernel
theorem dX7_feed_35 : decode cX7_feed 35 = .ok (.aload_n 0, 1) := by decide +kernel
theorem dX7_feed_36 : decode cX7_feed 36 = .ok (.iload 4, 2) := by decide +kernel
theorem dX7_feed_38 : decode cX7_feed 38 = .ok (.invokevirtual 100, 3) := by decide +kernel
theorem dX7_feed_41 : decode cX7_feed 41 = .ok (.aload_n 0, 1) := by decide +kernel
theorem dX7_feed_42 : decode cX7_feed 42 = .ok (.iload 5, 2) := by decide +kernel
theorem dX7_feed_44 : decode cX7_feed 44 = .ok (.invokevirtual 100, 3) := by decide +kernel
theorem dX7_feed_47 : decode cX7_feed 47 = .ok (.aload_n 0, 1) := by decide +kernel
theorem dX7_feed_48 : decode cX7_feed 48 = .ok (.getfield 97, 3) := by decide +kernel
theorem dX7_feed_51 : decode cX7_feed 51 = .ok (.ireturn, 1) := by decide +kernel
def wz_X7_feed : List Cond := .code yX7_feed cX7_feed 6 (some .int) :: ([Cond.fieldLink RX7 80 "HedgeMazeModel" "thrown" "I", Cond.fieldLink RX7 97 "HedgeMazeModel" "taped" "I", Cond.methodLink RX7 100 yX7_four, Cond.instanceMethod yX7_four, Cond.selects RX7 yX7_four yX7_four, Cond.initialized RX7, Cond.code yX7_four cX7_four 3 none, Cond.fieldLink RX7 23 "HedgeMazeModel" "tape" "[B"] ++ wsX70)
theorem wd_X7_feed_0 : Cond.fieldLink RX7 80 "HedgeMazeModel" "thrown" "I" ∈ wz_X7_feed := List.mem_of_getElem? (i := 1) rfl
theorem wd_X7_feed_1 : Cond.fieldLink RX7 97 "HedgeMazeModel" "taped" "I" ∈ wz_X7_feed := List.mem_of_getElem? (i := 2) rfl
theorem in_X7_feed_X7 : ∀ w ∈ wsX70, w ∈ wz_X7_feed := fun _ h => List.mem_cons_of_mem _ (List.mem_append_right _ h)
set_option maxRecDepth 20000 in
theorem g_X7_feed_X7_four : GoodIn wz_X7_feed (wsV RX7 100 RX7 yX7_four wz_X7_four) := goodIn_r _ [3, 4, 5, 6, 7, 8, 2, 9, 10, 11, 12, 13, 14, 15, 16, 17, 18, 19, 20, 21, 22, 23, 24, 25, 26, 27, 28, 29, 30, 31, 32, 33, 34, 35, 36, 37, 38, 39, 40, 41, 42, 43, 44, 45, 46, 47] rfl (by decide +kernel)
set_option maxHeartbeats 4000000 in
set_option maxRecDepth 100000 in
theorem c_X7_feed (l : Launch) (dC : Nat → ClassId) (dI : Nat → Nat → Nat) (sz : Nat) (mz : Nat) (mth : Int32) (mq1 : Nat) (mq2 : Nat) (mq3 : Nat) (mq4 : Nat) (mq5 : Nat) (mtd : Int32) (mat : Int32) (mtk : Int32) (mpl : Int32) (mva : Int32) (mwd : Int64) (mbd : Int32) (mbp : Int32) (mft : Int32) (mfp : Int32) (mq16 : Nat) (mq17 : Nat) (mq18 : Nat) (mq19 : Nat) (mq20 : Nat) (mq21 : Nat) (mlt : Int32) (mq23 : Nat) (mq24 : Nat) (mq25 : Nat) (msd : Int32) (mq27 : Nat) (mq28 : Nat) (mq29 : Nat) (mq30 : Nat) (mq31 : Nat) (mq32 : Nat) (mlr : Int32) (mst : Int32) (mob : Int64) (msb : Int64) (mq37 : Nat) (mln : Int32) (mk5 : ClassId) (mf5 : Nat → Int32) (p0 : Int32) (p1 : Int32) (p2 : Int32) (p3 : Int32) (p4 : Int32) (h_td : 0 ≤ mtd.toInt ∧ mtd.toInt ≤ 1600) : Met l yX7_feed wz_X7_feed ({ frames := 1, cells := 0, slots := 0, locals := 22 }) (va_Pc [.ref mz, .int p0, .int p1, .int p2, .int p3, .int p4] (fun U => U.heap.size = sz ∧ va_P (dC, dI) vwCl [(mz, .inr (7, [.int mth, .ref mq1, .ref mq2, .ref mq3, .ref mq4, .ref mq5, .int mtd, .int mat, .int mtk, .int mpl, .int mva, .long mwd, .int mbd, .int mbp, .int mft, .int mfp, .ref mq16, .ref mq17, .ref mq18, .ref mq19, .ref mq20, .ref mq21, .int mlt, .ref mq23, .ref mq24, .ref mq25, .int msd, .ref mq27, .ref mq28, .ref mq29, .ref mq30, .ref mq31, .ref mq32, .int mlr, .int mst, .long mob, .long msb, .ref mq37, .int mln])), (mq5, .inl (mk5, 1600, .inl mf5))] U.heap ∧ va_K (dC, dI) vwCl [(mk5, .byte)] U ∧ va_D (fun _ => True) [(mz, .inr (7, [.int mth, .ref mq1, .ref mq2, .ref mq3, .ref mq4, .ref mq5, .int mtd, .int mat, .int mtk, .int mpl, .int mva, .long mwd, .int mbd, .int mbp, .int mft, .int mfp, .ref mq16, .ref mq17, .ref mq18, .ref mq19, .ref mq20, .ref mq21, .int mlt, .ref mq23, .ref mq24, .ref mq25, .int msd, .ref mq27, .ref mq28, .ref mq29, .ref mq30, .ref mq31, .ref mq32, .int mlr, .int mst, .long mob, .long msb, .ref mq37, .int mln])), (mq5, .inl (mk5, 1600, .inl mf5))])) (va_Qi (fun (r : Int32) (u : Int32 × (Nat → Int32)) => (0 ≤ u.1.toInt ∧ u.1.toInt ≤ 1600)) (fun (u : Int32 × (Nat → Int32)) (t : State) => va_P (dC, dI) vwCl [(mz, .inr (7, [.int 0, .ref mq1, .ref mq2, .ref mq3, .ref mq4, .ref mq5, .int u.1, .int mat, .int mtk, .int mpl, .int mva, .long mwd, .int mbd, .int mbp, .int mft, .int mfp, .ref mq16, .ref mq17, .ref mq18, .ref mq19, .ref mq20, .ref mq21, .int mlt, .ref mq23, .ref mq24, .ref mq25, .int msd, .ref mq27, .ref mq28, .ref mq29, .ref mq30, .ref mq31, .ref mq32, .int mlr, .int mst, .long mob, .long msb, .ref mq37, .int mln])), (mq5, .inl (mk5, 1600, .inl u.2))] t.heap ∧ va_K (dC, dI) vwCl [] t ∧ va_D (va_A [(mz, .inr (7, [.int mth, .ref mq1, .ref mq2, .ref mq3, .ref mq4, .ref mq5, .int mtd, .int mat, .int mtk, .int mpl, .int mva, .long mwd, .int mbd, .int mbp, .int mft, .int mfp, .ref mq16, .ref mq17, .ref mq18, .ref mq19, .ref mq20, .ref mq21, .int mlt, .ref mq23, .ref mq24, .ref mq25, .int msd, .ref mq27, .ref mq28, .ref mq29, .ref mq30, .ref mq31, .ref mq32, .int mlr, .int mst, .long mob, .long msb, .ref mq37, .int mln])), (mq5, .inl (mk5, 1600, .inl mf5))] sz) [(mz, .inr (7, [.int 0, .ref mq1, .ref mq2, .ref mq3, .ref mq4, .ref mq5, .int u.1, .int mat, .int mtk, .int mpl, .int mva, .long mwd, .int mbd, .int mbp, .int mft, .int mfp, .ref mq16, .ref mq17, .ref mq18, .ref mq19, .ref mq20, .ref mq21, .int mlt, .ref mq23, .ref mq24, .ref mq25, .int msd, .ref mq27, .ref mq28, .ref mq29, .ref mq30, .ref mq31, .ref mq32, .int mlr, .int mst, .long mob, .long msb, .ref mq37, .int mln])), (mq5, .inl (mk5, 1600, .inl u.2))]) (va_A [(mz, .inr (7, [.int mth, .ref mq1, .ref mq2, .ref mq3, .ref mq4, .ref mq5, .int mtd, .int mat, .int mtk, .int mpl, .int mva, .long mwd, .int mbd, .int mbp, .int mft, .int mfp, .ref mq16, .ref mq17, .ref mq18, .ref mq19, .ref mq20, .ref mq21, .int mlt, .ref mq23, .ref mq24, .ref mq25, .int msd, .ref mq27, .ref mq28, .ref mq29, .ref mq30, .ref mq31, .ref mq32, .int mlr, .int mst, .long mob, .long msb, .ref mq37, .int mln])), (mq5, .inl (mk5, 1600, .inl mf5))] sz)) 0 0 (va_A [(mz, .inr (7, [.int mth, .ref mq1, .ref mq2, .ref mq3, .ref mq4, .ref mq5, .int mtd, .int mat, .int mtk, .int mpl, .int mva, .long mwd, .int mbd, .int mbp, .int mft, .int mfp, .ref mq16, .ref mq17, .ref mq18, .ref mq19, .ref mq20, .ref mq21, .int mlt, .ref mq23, .ref mq24, .ref mq25, .int msd, .ref mq27, .ref mq28, .ref mq29, .ref mq30, .ref mq31, .ref mq32, .int mlr, .int mst, .long mob, .long msb, .ref mq37, .int mln])), (mq5, .inl (mk5, 1600, .inl mf5))] sz) := by
  refine Met.ofW (cc := cX7_feed) (maxL := 6) (ret := (some .int)) (by decide) rfl ?_
  intro p e s m args below meth c s₁ B hml hv
  obtain ⟨rfl, hsz, hP, hK, hD0⟩ := hv
  have hx := B.exec
  have hb := B.bytes
  have hr := B.returns
  have hts := atoms_spec (ws := wz_X7_feed) B.pre
  have hown : s.vm.findClass RX7 = some m.cls := findClass_of_methodNamed B.named
  have hlocks := B.notSynchronized
  subst hsz
  have hD := hD0.self (sz := s.heap.size)
  generalize hAe : va_A [(mz, .inr (7, [.int mth, .ref mq1, .ref mq2, .ref mq3, .ref mq4, .ref mq5, .int mtd, .int mat, .int mtk, .int mpl, .int mva, .long mwd, .int mbd, .int mbp, .int mft, .int mfp, .ref mq16, .ref mq17, .ref mq18, .ref mq19, .ref mq20, .ref mq21, .int mlt, .ref mq23, .ref mq24, .ref mq25, .int msd, .ref mq27, .ref mq28, .ref mq29, .ref mq30, .ref mq31, .ref mq32, .int mlr, .int mst, .long mob, .long msb, .ref mq37, .int mln])), (mq5, .inl (mk5, 1600, .inl mf5))] s.heap.size = A at hD ⊢
  have hA : ∀ q : Nat, s.heap.size ≤ q → A q := fun q h => by rw [← hAe]; exact Or.inr h
  have hS : va_S A s.heap s.heap [] := va_S.rf
  have hP : va_P (dC, dI) vwCl [(mz, .inr (7, [.int mth, .ref mq1, .ref mq2, .ref mq3, .ref mq4, .ref mq5, .int mtd, .int mat, .int mtk, .int mpl, .int mva, .long mwd, .int mbd, .int mbp, .int mft, .int mfp, .ref mq16, .ref mq17, .ref mq18, .ref mq19, .ref mq20, .ref mq21, .int mlt, .ref mq23, .ref mq24, .ref mq25, .int msd, .ref mq27, .ref mq28, .ref mq29, .ref mq30, .ref mq31, .ref mq32, .int mlr, .int mst, .long mob, .long msb, .ref mq37, .int mln])), (mq5, .inl (mk5, 1600, .inl mf5))] s.heap := hP
  have hl := lv_entry ([.ref mz, .int p0, .int p1, .int p2, .int p3, .int p4]) (n := 6) (Nat.le_of_ble_eq_true rfl)
  rw [lg_entry_eq]
  generalize (lg_sl ([.ref mz, .int p0, .int p1, .int p2, .int p3, .int p4]) ++ List.replicate (6 - (lg_sl ([.ref mz, .int p0, .int p1, .int p2, .int p3, .int p4])).length) Slot.unset).toArray = ls at hl ⊢
  have hl : lv_has ls 6 [(0, .ref mz), (1, .int p0), (2, .int p1), (3, .int p2), (4, .int p3), (5, .int p4)] := hl
  refine lv_aload_n hx hb dX7_feed_0 rfl (lv_at hl 0 rfl) ?_
  refine lv_iconst (v := 0) hx hb dX7_feed_1 (by decide) ?_
  refine va_put (D := (dC, dI)) (ci := 7) (v := .int 0) (ty := .int) (C := RX7) (T := TX7) (N := 39) hx hb hts in_X7_feed_X7 tyX7 tyX7_ok nmX7 hown hK hP hD hS 0 rfl rfl 0 (by decide) (hts _ wd_X7_feed_0) (fun _ h9 => h9) rfl (by decide +kernel) rfl rfl (Nat.le_of_ble_eq_true rfl) dX7_feed_2 (fun H locs hP hD hS => ?_)
  have hP : va_P (dC, dI) vwCl [(mz, .inr (7, [.int 0, .ref mq1, .ref mq2, .ref mq3, .ref mq4, .ref mq5, .int mtd, .int mat, .int mtk, .int mpl, .int mva, .long mwd, .int mbd, .int mbp, .int mft, .int mfp, .ref mq16, .ref mq17, .ref mq18, .ref mq19, .ref mq20, .ref mq21, .int mlt, .ref mq23, .ref mq24, .ref mq25, .int msd, .ref mq27, .ref mq28, .ref mq29, .ref mq30, .ref mq31, .ref mq32, .int mlr, .int mst, .long mob, .long msb, .ref mq37, .int mln])), (mq5, .inl (mk5, 1600, .inl mf5))] H := hP
  have hD : va_D A [(mz, .inr (7, [.int 0, .ref mq1, .ref mq2, .ref mq3, .ref mq4, .ref mq5, .int mtd, .int mat, .int mtk, .int mpl, .int mva, .long mwd, .int mbd, .int mbp, .int mft, .int mfp, .ref mq16, .ref mq17, .ref mq18, .ref mq19, .ref mq20, .ref mq21, .int mlt, .ref mq23, .ref mq24, .ref mq25, .int msd, .ref mq27, .ref mq28, .ref mq29, .ref mq30, .ref mq31, .ref mq32, .int mlr, .int mst, .long mob, .long msb, .ref mq37, .int mln])), (mq5, .inl (mk5, 1600, .inl mf5))] := hD
  refine lv_aload_n hx hb dX7_feed_5 rfl (lv_at hl 0 rfl) ?_
  refine va_get (D := (dC, dI)) (ci := 7) (v := .int mtd) (C := RX7) (T := TX7) (N := 39) hx hb hts in_X7_feed_X7 hown hK hP 0 rfl rfl 6 (by decide) (hts _ wd_X7_feed_1) (fun _ h9 => h9) rfl dX7_feed_6 ?_
  refine lv_bipush (v := 20) hx hb dX7_feed_9 (by decide) ?_
  refine lv_iadd hx hb dX7_feed_11 ?_
  refine lv_topi (fun x_1 ex_1 => ?_)
  have zx_1 : x_1.toInt = mtd.toInt + 20 := by rw [ex_1]; exact i_add rfl (by decide) (by omega) (by omega)
  refine lv_sipush (v := 1600) hx hb dX7_feed_12 (by decide) ?_
  refine lv_icmp_le (tgt := 20) hx hb dX7_feed_15 (by decide) (fun c_2 => ?_) (fun c_2 => ?_)
  · have c_2 : x_1.toInt ≤ 1600 := i_le (a := x_1) (b := 1600) rfl (by decide) c_2
    refine lv_aload_n hx hb dX7_feed_20 rfl (lv_at hl 0 rfl) ?_
    refine lv_iload_n hx hb dX7_feed_21 rfl (lv_at hl 1 rfl) ?_
    have hPc := hP.sub (ws' := [(mz, .inr (7, [.int 0, .ref mq1, .ref mq2, .ref mq3, .ref mq4, .ref mq5, .int mtd, .int mat, .int mtk, .int mpl, .int mva, .long mwd, .int mbd, .int mbp, .int mft, .int mfp, .ref mq16, .ref mq17, .ref mq18, .ref mq19, .ref mq20, .ref mq21, .int mlt, .ref mq23, .ref mq24, .ref mq25, .int msd, .ref mq27, .ref mq28, .ref mq29, .ref mq30, .ref mq31, .ref mq32, .int mlr, .int mst, .long mob, .long msb, .ref mq37, .int mln])), (mq5, .inl (mk5, 1600, .inl mf5))]) [0, 1] rfl
    have hDc := hD.sub (ws' := [(mz, .inr (7, [.int 0, .ref mq1, .ref mq2, .ref mq3, .ref mq4, .ref mq5, .int mtd, .int mat, .int mtk, .int mpl, .int mva, .long mwd, .int mbd, .int mbp, .int mft, .int mfp, .ref mq16, .ref mq17, .ref mq18, .ref mq19, .ref mq20, .ref mq21, .int mlt, .ref mq23, .ref mq24, .ref mq25, .int msd, .ref mq27, .ref mq28, .ref mq29, .ref mq30, .ref mq31, .ref mq32, .int mlr, .int mst, .long mob, .long msb, .ref mq37, .int mln])), (mq5, .inl (mk5, 1600, .inl mf5))]) [0, 1] (by decide) rfl
    have hKc := hK.sub (tys' := [(mk5, .byte)]) [0] rfl
    have hFc := va_free (wc := [(mz, .inr (7, [.int 0, .ref mq1, .ref mq2, .ref mq3, .ref mq4, .ref mq5, .int mtd, .int mat, .int mtk, .int mpl, .int mva, .long mwd, .int mbd, .int mbp, .int mft, .int mfp, .ref mq16, .ref mq17, .ref mq18, .ref mq19, .ref mq20, .ref mq21, .int mlt, .ref mq23, .ref mq24, .ref mq25, .int msd, .ref mq27, .ref mq28, .ref mq29, .ref mq30, .ref mq31, .ref mq32, .int mlr, .int mst, .long mob, .long msb, .ref mq37, .int mln])), (mq5, .inl (mk5, 1600, .inl mf5))]) hD hS hA [0, 1] rfl
    refine va_callv (va_runV (As := [.int p0]) (rest := []) ⟨hx, hb, hml, hown, hts⟩ (c_X7_four l dC dI H.size mz ((0 : Int32)) mq1 mq2 mq3 mq4 mq5 mtd mat mtk mpl mva mwd mbd mbp mft mfp mq16 mq17 mq18 mq19 mq20 mq21 mlt mq23 mq24 mq25 msd mq27 mq28 mq29 mq30 mq31 mq32 mlr mst mob msb mq37 mln mk5 mf5 p0 (by have k0 : (0 : Int32).toInt = 0 := (by decide); omega)) (cwV 1 hts g_X7_feed_X7_four rfl rfl rfl (by decide +kernel) ⟨Nat.le_of_ble_eq_true rfl, Nat.le_of_ble_eq_true rfl⟩) ⟨fun a U g mk q => by obtain ⟨q0, q1, qP, qK, qD⟩ := q; exact ⟨q0, q1, qP, va_K.moved (u := U) (U := U.calling g mk a) (Vm.Alike.refl U.vm) qK, qD⟩, va_recv hKc hPc (ci := 7) (q0 := 0) rfl rfl, fun U hU hW => ⟨rfl, by rw [hU], by rw [hU]; exact hPc, va_K.moved hW.alike hKc, hDc.weaken (fun _ _ _ _ => trivial)⟩⟩ rfl rfl hl.1 rfl (lv_room (Nat.le_of_ble_eq_true rfl)) dX7_feed_22 ⟨Nat.le_of_ble_eq_true rfl, Nat.le_of_ble_eq_true rfl⟩) hS (fun q _ h => hFc q h) hFc (fun u t H1 locs ht hvm hw_3 hB hz1 hk1 hS => ?_)
    obtain ⟨ytd_4, ns5_5⟩ := u
    obtain ⟨hP1, hK1, hD1⟩ := hB
    have hP1 : va_P (dC, dI) vwCl [(mz, .inr (7, [.int 0, .ref mq1, .ref mq2, .ref mq3, .ref mq4, .ref mq5, .int ytd_4, .int mat, .int mtk, .int mpl, .int mva, .long mwd, .int mbd, .int mbp, .int mft, .int mfp, .ref mq16, .ref mq17, .ref mq18, .ref mq19, .ref mq20, .ref mq21, .int mlt, .ref mq23, .ref mq24, .ref mq25, .int msd, .ref mq27, .ref mq28, .ref mq29, .ref mq30, .ref mq31, .ref mq32, .int mlr, .int mst, .long mob, .long msb, .ref mq37, .int mln])), (mq5, .inl (mk5, 1600, .inl ns5_5))] t.heap := hP1
    rw [ht] at hP1
    try dsimp only at hw_3
    have kl__6 : (0 : Int32).toInt = 0 := (by decide)
    obtain ⟨hP, hD⟩ := va_join (wr := []) (w1 := [(mz, .inr (7, [.int 0, .ref mq1, .ref mq2, .ref mq3, .ref mq4, .ref mq5, .int ytd_4, .int mat, .int mtk, .int mpl, .int mva, .long mwd, .int mbd, .int mbp, .int mft, .int mfp, .ref mq16, .ref mq17, .ref mq18, .ref mq19, .ref mq20, .ref mq21, .int mlt, .ref mq23, .ref mq24, .ref mq25, .int msd, .ref mq27, .ref mq28, .ref mq29, .ref mq30, .ref mq31, .ref mq32, .int mlr, .int mst, .long mob, .long msb, .ref mq37, .int mln])), (mq5, .inl (mk5, 1600, .inl ns5_5))]) hP hD [0, 1] [] rfl rfl (by decide) (by decide) hk1 hFc hP1 hD1
    generalize H1 = H at hP hS ⊢
    have hP : va_P (dC, dI) vwCl [(mz, .inr (7, [.int 0, .ref mq1, .ref mq2, .ref mq3, .ref mq4, .ref mq5, .int ytd_4, .int mat, .int mtk, .int mpl, .int mva, .long mwd, .int mbd, .int mbp, .int mft, .int mfp, .ref mq16, .ref mq17, .ref mq18, .ref mq19, .ref mq20, .ref mq21, .int mlt, .ref mq23, .ref mq24, .ref mq25, .int msd, .ref mq27, .ref mq28, .ref mq29, .ref mq30, .ref mq31, .ref mq32, .int mlr, .int mst, .long mob, .long msb, .ref mq37, .int mln])), (mq5, .inl (mk5, 1600, .inl ns5_5))] H := hP
    have hD : va_D A [(mz, .inr (7, [.int 0, .ref mq1, .ref mq2, .ref mq3, .ref mq4, .ref mq5, .int ytd_4, .int mat, .int mtk, .int mpl, .int mva, .long mwd, .int mbd, .int mbp, .int mft, .int mfp, .ref mq16, .ref mq17, .ref mq18, .ref mq19, .ref mq20, .ref mq21, .int mlt, .ref mq23, .ref mq24, .ref mq25, .int msd, .ref mq27, .ref mq28, .ref mq29, .ref mq30, .ref mq31, .ref mq32, .int mlr, .int mst, .long mob, .long msb, .ref mq37, .int mln])), (mq5, .inl (mk5, 1600, .inl ns5_5))] := hD
    refine lv_aload_n hx hb dX7_feed_25 rfl (lv_at hl 0 rfl) ?_
    refine lv_iload_n hx hb dX7_feed_26 rfl (lv_at hl 2 rfl) ?_
    have hPc := hP.sub (ws' := [(mz, .inr (7, [.int 0, .ref mq1, .ref mq2, .ref mq3, .ref mq4, .ref mq5, .int ytd_4, .int mat, .int mtk, .int mpl, .int mva, .long mwd, .int mbd, .int mbp, .int mft, .int mfp, .ref mq16, .ref mq17, .ref mq18, .ref mq19, .ref mq20, .ref mq21, .int mlt, .ref mq23, .ref mq24, .ref mq25, .int msd, .ref mq27, .ref mq28, .ref mq29, .ref mq30, .ref mq31, .ref mq32, .int mlr, .int mst, .long mob, .long msb, .ref mq37, .int mln])), (mq5, .inl (mk5, 1600, .inl ns5_5))]) [0, 1] rfl
    have hDc := hD.sub (ws' := [(mz, .inr (7, [.int 0, .ref mq1, .ref mq2, .ref mq3, .ref mq4, .ref mq5, .int ytd_4, .int mat, .int mtk, .int mpl, .int mva, .long mwd, .int mbd, .int mbp, .int mft, .int mfp, .ref mq16, .ref mq17, .ref mq18, .ref mq19, .ref mq20, .ref mq21, .int mlt, .ref mq23, .ref mq24, .ref mq25, .int msd, .ref mq27, .ref mq28, .ref mq29, .ref mq30, .ref mq31, .ref mq32, .int mlr, .int mst, .long mob, .long msb, .ref mq37, .int mln])), (mq5, .inl (mk5, 1600, .inl ns5_5))]) [0, 1] (by decide) rfl
    have hKc := hK.sub (tys' := [(mk5, .byte)]) [0] rfl
    have hFc := va_free (wc := [(mz, .inr (7, [.int 0, .ref mq1, .ref mq2, .ref mq3, .ref mq4, .ref mq5, .int ytd_4, .int mat, .int mtk, .int mpl, .int mva, .long mwd, .int mbd, .int mbp, .int mft, .int mfp, .ref mq16, .ref mq17, .ref mq18, .ref mq19, .ref mq20, .ref mq21, .int mlt, .ref mq23, .ref mq24, .ref mq25, .int msd, .ref mq27, .ref mq28, .ref mq29, .ref mq30, .ref mq31, .ref mq32, .int mlr, .int mst, .long mob, .long msb, .ref mq37, .int mln])), (mq5, .inl (mk5, 1600, .inl ns5_5))]) hD hS hA [0, 1] rfl
    refine va_callv (va_runV (As := [.int p1]) (rest := []) ⟨hx, hb, hml, hown, hts⟩ (c_X7_four l dC dI H.size mz ((0 : Int32)) mq1 mq2 mq3 mq4 mq5 ytd_4 mat mtk mpl mva mwd mbd mbp mft mfp mq16 mq17 mq18 mq19 mq20 mq21 mlt mq23 mq24 mq25 msd mq27 mq28 mq29 mq30 mq31 mq32 mlr mst mob msb mq37 mln mk5 ns5_5 p1 (by have k0 : (0 : Int32).toInt = 0 := (by decide); omega)) (cwV 1 hts g_X7_feed_X7_four rfl rfl rfl (by decide +kernel) ⟨Nat.le_of_ble_eq_true rfl, Nat.le_of_ble_eq_true rfl⟩) ⟨fun a U g mk q => by obtain ⟨q0, q1, qP, qK, qD⟩ := q; exact ⟨q0, q1, qP, va_K.moved (u := U) (U := U.calling g mk a) (Vm.Alike.refl U.vm) qK, qD⟩, va_recv hKc hPc (ci := 7) (q0 := 0) rfl rfl, fun U hU hW => ⟨rfl, by rw [hU], by rw [hU]; exact hPc, va_K.moved hW.alike hKc, hDc.weaken (fun _ _ _ _ => trivial)⟩⟩ rfl rfl hl.1 rfl (lv_room (Nat.le_of_ble_eq_true rfl)) dX7_feed_27 ⟨Nat.le_of_ble_eq_true rfl, Nat.le_of_ble_eq_true rfl⟩) hS (fun q _ h => hFc q h) hFc (fun u t H1 locs ht hvm hw_7 hB hz1 hk1 hS => ?_)
    obtain ⟨ytd_8, ns5_9⟩ := u
    obtain ⟨hP1, hK1, hD1⟩ := hB
    have hP1 : va_P (dC, dI) vwCl [(mz, .inr (7, [.int 0, .ref mq1, .ref mq2, .ref mq3, .ref mq4, .ref mq5, .int ytd_8, .int mat, .int mtk, .int mpl, .int mva, .long mwd, .int mbd, .int mbp, .int mft, .int mfp, .ref mq16, .ref mq17, .ref mq18, .ref mq19, .ref mq20, .ref mq21, .int mlt, .ref mq23, .ref mq24, .ref mq25, .int msd, .ref mq27, .ref mq28, .ref mq29, .ref mq30, .ref mq31, .ref mq32, .int mlr, .int mst, .long mob, .long msb, .ref mq37, .int mln])), (mq5, .inl (mk5, 1600, .inl ns5_9))] t.heap := hP1
    rw [ht] at hP1
    try dsimp only at hw_7
    have kl__10 : (0 : Int32).toInt = 0 := (by decide)
    obtain ⟨hP, hD⟩ := va_join (wr := []) (w1 := [(mz, .inr (7, [.int 0, .ref mq1, .ref mq2, .ref mq3, .ref mq4, .ref mq5, .int ytd_8, .int mat, .int mtk, .int mpl, .int mva, .long mwd, .int mbd, .int mbp, .int mft, .int mfp, .ref mq16, .ref mq17, .ref mq18, .ref mq19, .ref mq20, .ref mq21, .int mlt, .ref mq23, .ref mq24, .ref mq25, .int msd, .ref mq27, .ref mq28, .ref mq29, .ref mq30, .ref mq31, .ref mq32, .int mlr, .int mst, .long mob, .long msb, .ref mq37, .int mln])), (mq5, .inl (mk5, 1600, .inl ns5_9))]) hP hD [0, 1] [] rfl rfl (by decide) (by decide) hk1 hFc hP1 hD1
    generalize H1 = H at hP hS ⊢
    have hP : va_P (dC, dI) vwCl [(mz, .inr (7, [.int 0, .ref mq1, .ref mq2, .ref mq3, .ref mq4, .ref mq5, .int ytd_8, .int mat, .int mtk, .int mpl, .int mva, .long mwd, .int mbd, .int mbp, .int mft, .int mfp, .ref mq16, .ref mq17, .ref mq18, .ref mq19, .ref mq20, .ref mq21, .int mlt, .ref mq23, .ref mq24, .ref mq25, .int msd, .ref mq27, .ref mq28, .ref mq29, .ref mq30, .ref mq31, .ref mq32, .int mlr, .int mst, .long mob, .long msb, .ref mq37, .int mln])), (mq5, .inl (mk5, 1600, .inl ns5_9))] H := hP
    have hD : va_D A [(mz, .inr (7, [.int 0, .ref mq1, .ref mq2, .ref mq3, .ref mq4, .ref mq5, .int ytd_8, .int mat, .int mtk, .int mpl, .int mva, .long mwd, .int mbd, .int mbp, .int mft, .int mfp, .ref mq16, .ref mq17, .ref mq18, .ref mq19, .ref mq20, .ref mq21, .int mlt, .ref mq23, .ref mq24, .ref mq25, .int msd, .ref mq27, .ref mq28, .ref mq29, .ref mq30, .ref mq31, .ref mq32, .int mlr, .int mst, .long mob, .long msb, .ref mq37, .int mln])), (mq5, .inl (mk5, 1600, .inl ns5_9))] := hD
    refine lv_aload_n hx hb dX7_feed_30 rfl (lv_at hl 0 rfl) ?_
    refine lv_iload_n hx hb dX7_feed_31 rfl (lv_at hl 3 rfl) ?_
    have hPc := hP.sub (ws' := [(mz, .inr (7, [.int 0, .ref mq1, .ref mq2, .ref mq3, .ref mq4, .ref mq5, .int ytd_8, .int mat, .int mtk, .int mpl, .int mva, .long mwd, .int mbd, .int mbp, .int mft, .int mfp, .ref mq16, .ref mq17, .ref mq18, .ref mq19, .ref mq20, .ref mq21, .int mlt, .ref mq23, .ref mq24, .ref mq25, .int msd, .ref mq27, .ref mq28, .ref mq29, .ref mq30, .ref mq31, .ref mq32, .int mlr, .int mst, .long mob, .long msb, .ref mq37, .int mln])), (mq5, .inl (mk5, 1600, .inl ns5_9))]) [0, 1] rfl
    have hDc := hD.sub (ws' := [(mz, .inr (7, [.int 0, .ref mq1, .ref mq2, .ref mq3, .ref mq4, .ref mq5, .int ytd_8, .int mat, .int mtk, .int mpl, .int mva, .long mwd, .int mbd, .int mbp, .int mft, .int mfp, .ref mq16, .ref mq17, .ref mq18, .ref mq19, .ref mq20, .ref mq21, .int mlt, .ref mq23, .ref mq24, .ref mq25, .int msd, .ref mq27, .ref mq28, .ref mq29, .ref mq30, .ref mq31, .ref mq32, .int mlr, .int mst, .long mob, .long msb, .ref mq37, .int mln])), (mq5, .inl (mk5, 1600, .inl ns5_9))]) [0, 1] (by decide) rfl
    have hKc := hK.sub (tys' := [(mk5, .byte)]) [0] rfl
    have hFc := va_free (wc := [(mz, .inr (7, [.int 0, .ref mq1, .ref mq2, .ref mq3, .ref mq4, .ref mq5, .int ytd_8, .int mat, .int mtk, .int mpl, .int mva, .long mwd, .int mbd, .int mbp, .int mft, .int mfp, .ref mq16, .ref mq17, .ref mq18, .ref mq19, .ref mq20, .ref mq21, .int mlt, .ref mq23, .ref mq24, .ref mq25, .int msd, .ref mq27, .ref mq28, .ref mq29, .ref mq30, .ref mq31, .ref mq32, .int mlr, .int mst, .long mob, .long msb, .ref mq37, .int mln])), (mq5, .inl (mk5, 1600, .inl ns5_9))]) hD hS hA [0, 1] rfl
    refine va_callv (va_runV (As := [.int p2]) (rest := []) ⟨hx, hb, hml, hown, hts⟩ (c_X7_four l dC dI H.size mz ((0 : Int32)) mq1 mq2 mq3 mq4 mq5 ytd_8 mat mtk mpl mva mwd mbd mbp mft mfp mq16 mq17 mq18 mq19 mq20 mq21 mlt mq23 mq24 mq25 msd mq27 mq28 mq29 mq30 mq31 mq32 mlr mst mob msb mq37 mln mk5 ns5_9 p2 (by have k0 : (0 : Int32).toInt = 0 := (by decide); omega)) (cwV 1 hts g_X7_feed_X7_four rfl rfl rfl (by decide +kernel) ⟨Nat.le_of_ble_eq_true rfl, Nat.le_of_ble_eq_true rfl⟩) ⟨fun a U g mk q => by obtain ⟨q0, q1, qP, qK, qD⟩ := q; exact ⟨q0, q1, qP, va_K.moved (u := U) (U := U.calling g mk a) (Vm.Alike.refl U.vm) qK, qD⟩, va_recv hKc hPc (ci := 7) (q0 := 0) rfl rfl, fun U hU hW => ⟨rfl, by rw [hU], by rw [hU]; exact hPc, va_K.moved hW.alike hKc, hDc.weaken (fun _ _ _ _ => trivial)⟩⟩ rfl rfl hl.1 rfl (lv_room (Nat.le_of_ble_eq_true rfl)) dX7_feed_32 ⟨Nat.le_of_ble_eq_true rfl, Nat.le_of_ble_eq_true rfl⟩) hS (fun q _ h => hFc q h) hFc (fun u t H1 locs ht hvm hw_11 hB hz1 hk1 hS => ?_)
    obtain ⟨ytd_12, ns5_13⟩ := u
    obtain ⟨hP1, hK1, hD1⟩ := hB
    have hP1 : va_P (dC, dI) vwCl [(mz, .inr (7, [.int 0, .ref mq1, .ref mq2, .ref mq3, .ref mq4, .ref mq5, .int ytd_12, .int mat, .int mtk, .int mpl, .int mva, .long mwd, .int mbd, .int mbp, .int mft, .int mfp, .ref mq16, .ref mq17, .ref mq18, .ref mq19, .ref mq20, .ref mq21, .int mlt, .ref mq23, .ref mq24, .ref mq25, .int msd, .ref mq27, .ref mq28, .ref mq29, .ref mq30, .ref mq31, .ref mq32, .int mlr, .int mst, .long mob, .long msb, .ref mq37, .int mln])), (mq5, .inl (mk5, 1600, .inl ns5_13))] t.heap := hP1
    rw [ht] at hP1
    try dsimp only at hw_11
    have kl__14 : (0 : Int32).toInt = 0 := (by decide)
    obtain ⟨hP, hD⟩ := va_join (wr := []) (w1 := [(mz, .inr (7, [.int 0, .ref mq1, .ref mq2, .ref mq3, .ref mq4, .ref mq5, .int ytd_12, .int mat, .int mtk, .int mpl, .int mva, .long mwd, .int mbd, .int mbp, .int mft, .int mfp, .ref mq16, .ref mq17, .ref mq18, .ref mq19, .ref mq20, .ref mq21, .int mlt, .ref mq23, .ref mq24, .ref mq25, .int msd, .ref mq27, .ref mq28, .ref mq29, .ref mq30, .ref mq31, .ref mq32, .int mlr, .int mst, .long mob, .long msb, .ref mq37, .int mln])), (mq5, .inl (mk5, 1600, .inl ns5_13))]) hP hD [0, 1] [] rfl rfl (by decide) (by decide) hk1 hFc hP1 hD1
    generalize H1 = H at hP hS ⊢
    have hP : va_P (dC, dI) vwCl [(mz, .inr (7, [.int 0, .ref mq1, .ref mq2, .ref mq3, .ref mq4, .ref mq5, .int ytd_12, .int mat, .int mtk, .int mpl, .int mva, .long mwd, .int mbd, .int mbp, .int mft, .int mfp, .ref mq16, .ref mq17, .ref mq18, .ref mq19, .ref mq20, .ref mq21, .int mlt, .ref mq23, .ref mq24, .ref mq25, .int msd, .ref mq27, .ref mq28, .ref mq29, .ref mq30, .ref mq31, .ref mq32, .int mlr, .int mst, .long mob, .long msb, .ref mq37, .int mln])), (mq5, .inl (mk5, 1600, .inl ns5_13))] H := hP
    have hD : va_D A [(mz, .inr (7, [.int 0, .ref mq1, .ref mq2, .ref mq3, .ref mq4, .ref mq5, .int ytd_12, .int mat, .int mtk, .int mpl, .int mva, .long mwd, .int mbd, .int mbp, .int mft, .int mfp, .ref mq16, .ref mq17, .ref mq18, .ref mq19, .ref mq20, .ref mq21, .int mlt, .ref mq23, .ref mq24, .ref mq25, .int msd, .ref mq27, .ref mq28, .ref mq29, .ref mq30, .ref mq31, .ref mq32, .int mlr, .int mst, .long mob, .long msb, .ref mq37, .int mln])), (mq5, .inl (mk5, 1600, .inl ns5_13))] := hD
    refine lv_aload_n hx hb dX7_feed_35 rfl (lv_at hl 0 rfl) ?_
    refine lv_iload hx hb dX7_feed_36 (lv_at hl 4 rfl) ?_
    have hPc := hP.sub (ws' := [(mz, .inr (7, [.int 0, .ref mq1, .ref mq2, .ref mq3, .ref mq4, .ref mq5, .int ytd_12, .int mat, .int mtk, .int mpl, .int mva, .long mwd, .int mbd, .int mbp, .int mft, .int mfp, .ref mq16, .ref mq17, .ref mq18, .ref mq19, .ref mq20, .ref mq21, .int mlt, .ref mq23, .ref mq24, .ref mq25, .int msd, .ref mq27, .ref mq28, .ref mq29, .ref mq30, .ref mq31, .ref mq32, .int mlr, .int mst, .long mob, .long msb, .ref mq37, .int mln])), (mq5, .inl (mk5, 1600, .inl ns5_13))]) [0, 1] rfl
    have hDc := hD.sub (ws' := [(mz, .inr (7, [.int 0, .ref mq1, .ref mq2, .ref mq3, .ref mq4, .ref mq5, .int ytd_12, .int mat, .int mtk, .int mpl, .int mva, .long mwd, .int mbd, .int mbp, .int mft, .int mfp, .ref mq16, .ref mq17, .ref mq18, .ref mq19, .ref mq20, .ref mq21, .int mlt, .ref mq23, .ref mq24, .ref mq25, .int msd, .ref mq27, .ref mq28, .ref mq29, .ref mq30, .ref mq31, .ref mq32, .int mlr, .int mst, .long mob, .long msb, .ref mq37, .int mln])), (mq5, .inl (mk5, 1600, .inl ns5_13))]) [0, 1] (by decide) rfl
    have hKc := hK.sub (tys' := [(mk5, .byte)]) [0] rfl
    have hFc := va_free (wc := [(mz, .inr (7, [.int 0, .ref mq1, .ref mq2, .ref mq3, .ref mq4, .ref mq5, .int ytd_12, .int mat, .int mtk, .int mpl, .int mva, .long mwd, .int mbd, .int mbp, .int mft, .int mfp, .ref mq16, .ref mq17, .ref mq18, .ref mq19, .ref mq20, .ref mq21, .int mlt, .ref mq23, .ref mq24, .ref mq25, .int msd, .ref mq27, .ref mq28, .ref mq29, .ref mq30, .ref mq31, .ref mq32, .int mlr, .int mst, .long mob, .long msb, .ref mq37, .int mln])), (mq5, .inl (mk5, 1600, .inl ns5_13))]) hD hS hA [0, 1] rfl
    refine va_callv (va_runV (As := [.int p3]) (rest := []) ⟨hx, hb, hml, hown, hts⟩ (c_X7_four l dC dI H.size mz ((0 : Int32)) mq1 mq2 mq3 mq4 mq5 ytd_12 mat mtk mpl mva mwd mbd mbp mft mfp mq16 mq17 mq18 mq19 mq20 mq21 mlt mq23 mq24 mq25 msd mq27 mq28 mq29 mq30 mq31 mq32 mlr mst mob msb mq37 mln mk5 ns5_13 p3 (by have k0 : (0 : Int32).toInt = 0 := (by decide); omega)) (cwV 1 hts g_X7_feed_X7_four rfl rfl rfl (by decide +kernel) ⟨Nat.le_of_ble_eq_true rfl, Nat.le_of_ble_eq_true rfl⟩) ⟨fun a U g mk q => by obtain ⟨q0, q1, qP, qK, qD⟩ := q; exact ⟨q0, q1, qP, va_K.moved (u := U) (U := U.calling g mk a) (Vm.Alike.refl U.vm) qK, qD⟩, va_recv hKc hPc (ci := 7) (q0 := 0) rfl rfl, fun U hU hW => ⟨rfl, by rw [hU], by rw [hU]; exact hPc, va_K.moved hW.alike hKc, hDc.weaken (fun _ _ _ _ => trivial)⟩⟩ rfl rfl hl.1 rfl (lv_room (Nat.le_of_ble_eq_true rfl)) dX7_feed_38 ⟨Nat.le_of_ble_eq_true rfl, Nat.le_of_ble_eq_true rfl⟩) hS (fun q _ h => hFc q h) hFc (fun u t H1 locs ht hvm hw_15 hB hz1 hk1 hS => ?_)
    obtain ⟨ytd_16, ns5_17⟩ := u
    obtain ⟨hP1, hK1, hD1⟩ := hB
    have hP1 : va_P (dC, dI) vwCl [(mz, .inr (7, [.int 0, .ref mq1, .ref mq2, .ref mq3, .ref mq4, .ref mq5, .int ytd_16, .int mat, .int mtk, .int mpl, .int mva, .long mwd, .int mbd, .int mbp, .int mft, .int mfp, .ref mq16, .ref mq17, .ref mq18, .ref mq19, .ref mq20, .ref mq21, .int mlt, .ref mq23, .ref mq24, .ref mq25, .int msd, .ref mq27, .ref mq28, .ref mq29, .ref mq30, .ref mq31, .ref mq32, .int mlr, .int mst, .long mob, .long msb, .ref mq37, .int mln])), (mq5, .inl (mk5, 1600, .inl ns5_17))] t.heap := hP1
    rw [ht] at hP1
    try dsimp only at hw_15
    have kl__18 : (0 : Int32).toInt = 0 := (by decide)
    obtain ⟨hP, hD⟩ := va_join (wr := []) (w1 := [(mz, .inr (7, [.int 0, .ref mq1, .ref mq2, .ref mq3, .ref mq4, .ref mq5, .int ytd_16, .int mat, .int mtk, .int mpl, .int mva, .long mwd, .int mbd, .int mbp, .int mft, .int mfp, .ref mq16, .ref mq17, .ref mq18, .ref mq19, .ref mq20, .ref mq21, .int mlt, .ref mq23, .ref mq24, .ref mq25, .int msd, .ref mq27, .ref mq28, .ref mq29, .ref mq30, .ref mq31, .ref mq32, .int mlr, .int mst, .long mob, .long msb, .ref mq37, .int mln])), (mq5, .inl (mk5, 1600, .inl ns5_17))]) hP hD [0, 1] [] rfl rfl (by decide) (by decide) hk1 hFc hP1 hD1
    generalize H1 = H at hP hS ⊢
    have hP : va_P (dC, dI) vwCl [(mz, .inr (7, [.int 0, .ref mq1, .ref mq2, .ref mq3, .ref mq4, .ref mq5, .int ytd_16, .int mat, .int mtk, .int mpl, .int mva, .long mwd, .int mbd, .int mbp, .int mft, .int mfp, .ref mq16, .ref mq17, .ref mq18, .ref mq19, .ref mq20, .ref mq21, .int mlt, .ref mq23, .ref mq24, .ref mq25, .int msd, .ref mq27, .ref mq28, .ref mq29, .ref mq30, .ref mq31, .ref mq32, .int mlr, .int mst, .long mob, .long msb, .ref mq37, .int mln])), (mq5, .inl (mk5, 1600, .inl ns5_17))] H := hP
    have hD : va_D A [(mz, .inr (7, [.int 0, .ref mq1, .ref mq2, .ref mq3, .ref mq4, .ref mq5, .int ytd_16, .int mat, .int mtk, .int mpl, .int mva, .long mwd, .int mbd, .int mbp, .int mft, .int mfp, .ref mq16, .ref mq17, .ref mq18, .ref mq19, .ref mq20, .ref mq21, .int mlt, .ref mq23, .ref mq24, .ref mq25, .int msd, .ref mq27, .ref mq28, .ref mq29, .ref mq30, .ref mq31, .ref mq32, .int mlr, .int mst, .long mob, .long msb, .ref mq37, .int mln])), (mq5, .inl (mk5, 1600, .inl ns5_17))] := hD
    refine lv_aload_n hx hb dX7_feed_41 rfl (lv_at hl 0 rfl) ?_
    refine lv_iload hx hb dX7_feed_42 (lv_at hl 5 rfl) ?_
    have hPc := hP.sub (ws' := [(mz, .inr (7, [.int 0, .ref mq1, .ref mq2, .ref mq3, .ref mq4, .ref mq5, .int ytd_16, .int mat, .int mtk, .int mpl, .int mva, .long mwd, .int mbd, .int mbp, .int mft, .int mfp, .ref mq16, .ref mq17, .ref mq18, .ref mq19, .ref mq20, .ref mq21, .int mlt, .ref mq23, .ref mq24, .ref mq25, .int msd, .ref mq27, .ref mq28, .ref mq29, .ref mq30, .ref mq31, .ref mq32, .int mlr, .int mst, .long mob, .long msb, .ref mq37, .int mln])), (mq5, .inl (mk5, 1600, .inl ns5_17))]) [0, 1] rfl
    have hDc := hD.sub (ws' := [(mz, .inr (7, [.int 0, .ref mq1, .ref mq2, .ref mq3, .ref mq4, .ref mq5, .int ytd_16, .int mat, .int mtk, .int mpl, .int mva, .long mwd, .int mbd, .int mbp, .int mft, .int mfp, .ref mq16, .ref mq17, .ref mq18, .ref mq19, .ref mq20, .ref mq21, .int mlt, .ref mq23, .ref mq24, .ref mq25, .int msd, .ref mq27, .ref mq28, .ref mq29, .ref mq30, .ref mq31, .ref mq32, .int mlr, .int mst, .long mob, .long msb, .ref mq37, .int mln])), (mq5, .inl (mk5, 1600, .inl ns5_17))]) [0, 1] (by decide) rfl
    have hKc := hK.sub (tys' := [(mk5, .byte)]) [0] rfl
    have hFc := va_free (wc := [(mz, .inr (7, [.int 0, .ref mq1, .ref mq2, .ref mq3, .ref mq4, .ref mq5, .int ytd_16, .int mat, .int mtk, .int mpl, .int mva, .long mwd, .int mbd, .int mbp, .int mft, .int mfp, .ref mq16, .ref mq17, .ref mq18, .ref mq19, .ref mq20, .ref mq21, .int mlt, .ref mq23, .ref mq24, .ref mq25, .int msd, .ref mq27, .ref mq28, .ref mq29, .ref mq30, .ref mq31, .ref mq32, .int mlr, .int mst, .long mob, .long msb, .ref mq37, .int mln])), (mq5, .inl (mk5, 1600, .inl ns5_17))]) hD hS hA [0, 1] rfl
    refine va_callv (va_runV (As := [.int p4]) (rest := []) ⟨hx, hb, hml, hown, hts⟩ (c_X7_four l dC dI H.size mz ((0 : Int32)) mq1 mq2 mq3 mq4 mq5 ytd_16 mat mtk mpl mva mwd mbd mbp mft mfp mq16 mq17 mq18 mq19 mq20 mq21 mlt mq23 mq24 mq25 msd mq27 mq28 mq29 mq30 mq31 mq32 mlr mst mob msb mq37 mln mk5 ns5_17 p4 (by have k0 : (0 : Int32).toInt = 0 := (by decide); omega)) (cwV 1 hts g_X7_feed_X7_four rfl rfl rfl (by decide +kernel) ⟨Nat.le_of_ble_eq_true rfl, Nat.le_of_ble_eq_true rfl⟩) ⟨fun a U g mk q => by obtain ⟨q0, q1, qP, qK, qD⟩ := q; exact ⟨q0, q1, qP, va_K.moved (u := U) (U := U.calling g mk a) (Vm.Alike.refl U.vm) qK, qD⟩, va_recv hKc hPc (ci := 7) (q0 := 0) rfl rfl, fun U hU hW => ⟨rfl, by rw [hU], by rw [hU]; exact hPc, va_K.moved hW.alike hKc, hDc.weaken (fun _ _ _ _ => trivial)⟩⟩ rfl rfl hl.1 rfl (lv_room (Nat.le_of_ble_eq_true rfl)) dX7_feed_44 ⟨Nat.le_of_ble_eq_true rfl, Nat.le_of_ble_eq_true rfl⟩) hS (fun q _ h => hFc q h) hFc (fun u t H1 locs ht hvm hw_19 hB hz1 hk1 hS => ?_)
    obtain ⟨ytd_20, ns5_21⟩ := u
    obtain ⟨hP1, hK1, hD1⟩ := hB
    have hP1 : va_P (dC, dI) vwCl [(mz, .inr (7, [.int 0, .ref mq1, .ref mq2, .ref mq3, .ref mq4, .ref mq5, .int ytd_20, .int mat, .int mtk, .int mpl, .int mva, .long mwd, .int mbd, .int mbp, .int mft, .int mfp, .ref mq16, .ref mq17, .ref mq18, .ref mq19, .ref mq20, .ref mq21, .int mlt, .ref mq23, .ref mq24, .ref mq25, .int msd, .ref mq27, .ref mq28, .ref mq29, .ref mq30, .ref mq31, .ref mq32, .int mlr, .int mst, .long mob, .long msb, .ref mq37, .int mln])), (mq5, .inl (mk5, 1600, .inl ns5_21))] t.heap := hP1
    rw [ht] at hP1
    try dsimp only at hw_19
    have kl__22 : (0 : Int32).toInt = 0 := (by decide)
    obtain ⟨hP, hD⟩ := va_join (wr := []) (w1 := [(mz, .inr (7, [.int 0, .ref mq1, .ref mq2, .ref mq3, .ref mq4, .ref mq5, .int ytd_20, .int mat, .int mtk, .int mpl, .int mva, .long mwd, .int mbd, .int mbp, .int mft, .int mfp, .ref mq16, .ref mq17, .ref mq18, .ref mq19, .ref mq20, .ref mq21, .int mlt, .ref mq23, .ref mq24, .ref mq25, .int msd, .ref mq27, .ref mq28, .ref mq29, .ref mq30, .ref mq31, .ref mq32, .int mlr, .int mst, .long mob, .long msb, .ref mq37, .int mln])), (mq5, .inl (mk5, 1600, .inl ns5_21))]) hP hD [0, 1] [] rfl rfl (by decide) (by decide) hk1 hFc hP1 hD1
    generalize H1 = H at hP hS ⊢
    have hP : va_P (dC, dI) vwCl [(mz, .inr (7, [.int 0, .ref mq1, .ref mq2, .ref mq3, .ref mq4, .ref mq5, .int ytd_20, .int mat, .int mtk, .int mpl, .int mva, .long mwd, .int mbd, .int mbp, .int mft, .int mfp, .ref mq16, .ref mq17, .ref mq18, .ref mq19, .ref mq20, .ref mq21, .int mlt, .ref mq23, .ref mq24, .ref mq25, .int msd, .ref mq27, .ref mq28, .ref mq29, .ref mq30, .ref mq31, .ref mq32, .int mlr, .int mst, .long mob, .long msb, .ref mq37, .int mln])), (mq5, .inl (mk5, 1600, .inl ns5_21))] H := hP
    have hD : va_D A [(mz, .inr (7, [.int 0, .ref mq1, .ref mq2, .ref mq3, .ref mq4, .ref mq5, .int ytd_20, .int mat, .int mtk, .int mpl, .int mva, .long mwd, .int mbd, .int mbp, .int mft, .int mfp, .ref mq16, .ref mq17, .ref mq18, .ref mq19, .ref mq20, .ref mq21, .int mlt, .ref mq23, .ref mq24, .ref mq25, .int msd, .ref mq27, .ref mq28, .ref mq29, .ref mq30, .ref mq31, .ref mq32, .int mlr, .int mst, .long mob, .long msb, .ref mq37, .int mln])), (mq5, .inl (mk5, 1600, .inl ns5_21))] := hD
    refine lv_aload_n hx hb dX7_feed_47 rfl (lv_at hl 0 rfl) ?_
    refine va_get (D := (dC, dI)) (ci := 7) (v := .int ytd_20) (C := RX7) (T := TX7) (N := 39) hx hb hts in_X7_feed_X7 hown hK hP 0 rfl rfl 6 (by decide) (hts _ wd_X7_feed_1) (fun _ h9 => h9) rfl dX7_feed_48 ?_
    have hP9 := hP.sub (ws' := [(mz, .inr (7, [.int 0, .ref mq1, .ref mq2, .ref mq3, .ref mq4, .ref mq5, .int ytd_20, .int mat, .int mtk, .int mpl, .int mva, .long mwd, .int mbd, .int mbp, .int mft, .int mfp, .ref mq16, .ref mq17, .ref mq18, .ref mq19, .ref mq20, .ref mq21, .int mlt, .ref mq23, .ref mq24, .ref mq25, .int msd, .ref mq27, .ref mq28, .ref mq29, .ref mq30, .ref mq31, .ref mq32, .int mlr, .int mst, .long mob, .long msb, .ref mq37, .int mln])), (mq5, .inl (mk5, 1600, .inl ns5_21))]) [0, 1] rfl
    have hD9 := hD.sub (ws' := [(mz, .inr (7, [.int 0, .ref mq1, .ref mq2, .ref mq3, .ref mq4, .ref mq5, .int ytd_20, .int mat, .int mtk, .int mpl, .int mva, .long mwd, .int mbd, .int mbp, .int mft, .int mfp, .ref mq16, .ref mq17, .ref mq18, .ref mq19, .ref mq20, .ref mq21, .int mlt, .ref mq23, .ref mq24, .ref mq25, .int msd, .ref mq27, .ref mq28, .ref mq29, .ref mq30, .ref mq31, .ref mq32, .int mlr, .int mst, .long mob, .long msb, .ref mq37, .int mln])), (mq5, .inl (mk5, 1600, .inl ns5_21))]) [0, 1] (by decide) rfl
    have hK9 := hK.sub (tys' := []) [] rfl
    refine W.widen (k := 0) (n := 0) (by omega) (by omega) ?_
    exact W.iret (v := ytd_20) hx hb hr (fun t ht hW => ⟨⟨ytd_20, (ytd_20, ns5_21), rfl, (by first | rfl | trivial | (dsimp only; omega) | omega | (left; rfl) | (right; rfl) | (dsimp only; first | (left; rfl) | (right; rfl))), by rw [ht]; exact hP9, va_K.moved hW.alike hK9, hD9⟩, hS.F ht⟩) hS.2.2 dX7_feed_51
  · have c_2 : 1600 < x_1.toInt := i_nle (a := x_1) (b := 1600) rfl (by decide) c_2
    refine lv_iconst (v := -1) hx hb dX7_feed_18 (by decide) ?_
    have hP9 := hP.sub (ws' := [(mz, .inr (7, [.int 0, .ref mq1, .ref mq2, .ref mq3, .ref mq4, .ref mq5, .int mtd, .int mat, .int mtk, .int mpl, .int mva, .long mwd, .int mbd, .int mbp, .int mft, .int mfp, .ref mq16, .ref mq17, .ref mq18, .ref mq19, .ref mq20, .ref mq21, .int mlt, .ref mq23, .ref mq24, .ref mq25, .int msd, .ref mq27, .ref mq28, .ref mq29, .ref mq30, .ref mq31, .ref mq32, .int mlr, .int mst, .long mob, .long msb, .ref mq37, .int mln])), (mq5, .inl (mk5, 1600, .inl mf5))]) [0, 1] rfl
    have hD9 := hD.sub (ws' := [(mz, .inr (7, [.int 0, .ref mq1, .ref mq2, .ref mq3, .ref mq4, .ref mq5, .int mtd, .int mat, .int mtk, .int mpl, .int mva, .long mwd, .int mbd, .int mbp, .int mft, .int mfp, .ref mq16, .ref mq17, .ref mq18, .ref mq19, .ref mq20, .ref mq21, .int mlt, .ref mq23, .ref mq24, .ref mq25, .int msd, .ref mq27, .ref mq28, .ref mq29, .ref mq30, .ref mq31, .ref mq32, .int mlr, .int mst, .long mob, .long msb, .ref mq37, .int mln])), (mq5, .inl (mk5, 1600, .inl mf5))]) [0, 1] (by decide) rfl
    have hK9 := hK.sub (tys' := []) [] rfl
    refine W.widen (k := 0) (n := 0) (by omega) (by omega) ?_
    exact W.iret (v := -1) hx hb hr (fun t ht hW => ⟨⟨(-1), (mtd, mf5), rfl, (by have k0 : (-1 : Int32).toInt = -1 := (by decide); first | rfl | trivial | (dsimp only; omega) | omega | (left; rfl) | (right; rfl) | (dsimp only; first | (left; rfl) | (right; rfl))), by rw [ht]; exact hP9, va_K.moved hW.alike hK9, hD9⟩, hS.F ht⟩) hS.2.2 dX7_feed_19

theorem dX7_end_0 : decode cX7_end 0 = .ok (.aload_n 0, 1) := by decide +kernel
theorem dX7_end_1 : decode cX7_end 1 = .ok (.iconst 0, 1) := by decide +kernel
theorem dX7_end_2 : decode cX7_end 2 = .ok (.putfield 80, 3) := by decide +kernel
theorem dX7_end_5 : decode cX7_end 5 = .ok (.iload_n 1, 1) := by decide +kernel
theorem dX7_end_6 : decode cX7_end 6 = .ok (.i2l, 1) := by decide +kernel
theorem dX7_end_7 : decode cX7_end 7 = .ok (.lconst 0, 1) := by decide +kernel
theorem dX7_end_8 : decode cX7_end 8 = .ok (.aload_n 0, 1) := by decide +kernel
theorem dX7_end_9 : decode cX7_end 9 = .ok (.getfield 97, 3) := by decide +kernel
theorem dX7_end_12 : decode cX7_end 12 = .ok (.i2l, 1) := by decide +kernel
theorem dX7_end_13 : decode cX7_end 13 = .ok (.invokestatic 85, 3) := by decide +kernel
theorem dX7_end_16 : decode cX7_end 16 = .ok (.ifCond .ne 5, 3) := by decide +kernel
theorem dX7_end_19 : decode cX7_end 19 = .ok (.iconst (-1), 1) := by decide +kernel
theorem dX7_end_20 : decode cX7_end 20 = .ok (.ireturn, 1) := by decide +kernel
theorem dX7_end_21 : decode cX7_end 21 = .ok (.aload_n 0, 1) := by decide +kernel
theorem dX7_end_22 : decode cX7_end 22 = .ok (.iload_n 1, 1) := by decide +kernel
theorem dX7_end_23 : decode cX7_end 23 = .ok (.putfield 97, 3) := by decide +kernel
theorem dX7_end_26 : decode cX7_end 26 = .ok (.iload_n 1, 1) := by decide +kernel
theorem dX7_end_27 : decode cX7_end 27 = .ok (.ireturn, 1) := by decide +kernel
def wz_X7_end : List Cond := .code yX7_end cX7_end 2 (some .int) :: ([Cond.fieldLink RX7 80 "HedgeMazeModel" "thrown" "I", Cond.fieldLink RX7 97 "HedgeMazeModel" "taped" "I", Cond.methodLink RX7 85 yX7_in, Cond.static yX7_in, Cond.initialized RX7, Cond.code yX7_in cX7_in 6 (some .boolean)] ++ wsX70)
theorem wd_X7_end_0 : Cond.fieldLink RX7 80 "HedgeMazeModel" "thrown" "I" ∈ wz_X7_end := List.mem_of_getElem? (i := 1) rfl
theorem wd_X7_end_1 : Cond.fieldLink RX7 97 "HedgeMazeModel" "taped" "I" ∈ wz_X7_end := List.mem_of_getElem? (i := 2) rfl
theorem in_X7_end_X7 : ∀ w ∈ wsX70, w ∈ wz_X7_end := fun _ h => List.mem_cons_of_mem _ (List.mem_append_right _ h)
set_option maxRecDepth 20000 in
theorem g_X7_end_X7_in : GoodIn wz_X7_end (va_wsS RX7 85 yX7_in wz_X7_in) := goodIn_r _ [3, 4, 5, 6] rfl (by decide +kernel)
set_option maxHeartbeats 4000000 in
set_option maxRecDepth 100000 in
theorem c_X7_end (l : Launch) (dC : Nat → ClassId) (dI : Nat → Nat → Nat) (sz : Nat) (mz : Nat) (mth : Int32) (mq1 : Nat) (mq2 : Nat) (mq3 : Nat) (mq4 : Nat) (mq5 : Nat) (mtd : Int32) (mat : Int32) (mtk : Int32) (mpl : Int32) (mva : Int32) (mwd : Int64) (mbd : Int32) (mbp : Int32) (mft : Int32) (mfp : Int32) (mq16 : Nat) (mq17 : Nat) (mq18 : Nat) (mq19 : Nat) (mq20 : Nat) (mq21 : Nat) (mlt : Int32) (mq23 : Nat) (mq24 : Nat) (mq25 : Nat) (msd : Int32) (mq27 : Nat) (mq28 : Nat) (mq29 : Nat) (mq30 : Nat) (mq31 : Nat) (mq32 : Nat) (mlr : Int32) (mst : Int32) (mob : Int64) (msb : Int64) (mq37 : Nat) (mln : Int32) (p0 : Int32) (h_td : 0 ≤ mtd.toInt ∧ mtd.toInt ≤ 1600) : Met l yX7_end wz_X7_end ({ frames := 1, cells := 0, slots := 0, locals := 25 }) (va_Pc [.ref mz, .int p0] (fun U => U.heap.size = sz ∧ va_P (dC, dI) vwCl [(mz, .inr (7, [.int mth, .ref mq1, .ref mq2, .ref mq3, .ref mq4, .ref mq5, .int mtd, .int mat, .int mtk, .int mpl, .int mva, .long mwd, .int mbd, .int mbp, .int mft, .int mfp, .ref mq16, .ref mq17, .ref mq18, .ref mq19, .ref mq20, .ref mq21, .int mlt, .ref mq23, .ref mq24, .ref mq25, .int msd, .ref mq27, .ref mq28, .ref mq29, .ref mq30, .ref mq31, .ref mq32, .int mlr, .int mst, .long mob, .long msb, .ref mq37, .int mln]))] U.heap ∧ va_K (dC, dI) vwCl [] U ∧ va_D (fun _ => True) [(mz, .inr (7, [.int mth, .ref mq1, .ref mq2, .ref mq3, .ref mq4, .ref mq5, .int mtd, .int mat, .int mtk, .int mpl, .int mva, .long mwd, .int mbd, .int mbp, .int mft, .int mfp, .ref mq16, .ref mq17, .ref mq18, .ref mq19, .ref mq20, .ref mq21, .int mlt, .ref mq23, .ref mq24, .ref mq25, .int msd, .ref mq27, .ref mq28, .ref mq29, .ref mq30, .ref mq31, .ref mq32, .int mlr, .int mst, .long mob, .long msb, .ref mq37, .int mln]))])) (va_Qi (fun (r : Int32) (u : Int32) => (0 ≤ u.toInt ∧ u.toInt ≤ 1600)) (fun (u : Int32) (t : State) => va_P (dC, dI) vwCl [(mz, .inr (7, [.int 0, .ref mq1, .ref mq2, .ref mq3, .ref mq4, .ref mq5, .int u, .int mat, .int mtk, .int mpl, .int mva, .long mwd, .int mbd, .int mbp, .int mft, .int mfp, .ref mq16, .ref mq17, .ref mq18, .ref mq19, .ref mq20, .ref mq21, .int mlt, .ref mq23, .ref mq24, .ref mq25, .int msd, .ref mq27, .ref mq28, .ref mq29, .ref mq30, .ref mq31, .ref mq32, .int mlr, .int mst, .long mob, .long msb, .ref mq37, .int mln]))] t.heap ∧ va_K (dC, dI) vwCl [] t ∧ va_D (va_A [(mz, .inr (7, [.int mth, .ref mq1, .ref mq2, .ref mq3, .ref mq4, .ref mq5, .int mtd, .int mat, .int mtk, .int mpl, .int mva, .long mwd, .int mbd, .int mbp, .int mft, .int mfp, .ref mq16, .ref mq17, .ref mq18, .ref mq19, .ref mq20, .ref mq21, .int mlt, .ref mq23, .ref mq24, .ref mq25, .int msd, .ref mq27, .ref mq28, .ref mq29, .ref mq30, .ref mq31, .ref mq32, .int mlr, .int mst, .long mob, .long msb, .ref mq37, .int mln]))] sz) [(mz, .inr (7, [.int 0, .ref mq1, .ref mq2, .ref mq3, .ref mq4, .ref mq5, .int u, .int mat, .int mtk, .int mpl, .int mva, .long mwd, .int mbd, .int mbp, .int mft, .int mfp, .ref mq16, .ref mq17, .ref mq18, .ref mq19, .ref mq20, .ref mq21, .int mlt, .ref mq23, .ref mq24, .ref mq25, .int msd, .ref mq27, .ref mq28, .ref mq29, .ref mq30, .ref mq31, .ref mq32, .int mlr, .int mst, .long mob, .long msb, .ref mq37, .int mln]))]) (va_A [(mz, .inr (7, [.int mth, .ref mq1, .ref mq2, .ref mq3, .ref mq4, .ref mq5, .int mtd, .int mat, .int mtk, .int mpl, .int mva, .long mwd, .int mbd, .int mbp, .int mft, .int mfp, .ref mq16, .ref mq17, .ref mq18, .ref mq19, .ref mq20, .ref mq21, .int mlt, .ref mq23, .ref mq24, .ref mq25, .int msd, .ref mq27, .ref mq28, .ref mq29, .ref mq30, .ref mq31, .ref mq32, .int mlr, .int mst, .long mob, .long msb, .ref mq37, .int mln]))] sz)) 0 0 (va_A [(mz, .inr (7, [.int mth, .ref mq1, .ref mq2, .ref mq3, .ref mq4, .ref mq5, .int mtd, .int mat, .int mtk, .int mpl, .int mva, .long mwd, .int mbd, .int mbp, .int mft, .int mfp, .ref mq16, .ref mq17, .ref mq18, .ref mq19, .ref mq20, .ref mq21, .int mlt, .ref mq23, .ref mq24, .ref mq25, .int msd, .ref mq27, .ref mq28, .ref mq29, .ref mq30, .ref mq31, .ref mq32, .int mlr, .int mst, .long mob, .long msb, .ref mq37, .int mln]))] sz) := by
  refine Met.ofW (cc := cX7_end) (maxL := 2) (ret := (some .int)) (by decide) rfl ?_
  intro p e s m args below meth c s₁ B hml hv
  obtain ⟨rfl, hsz, hP, hK, hD0⟩ := hv
  have hx := B.exec
  have hb := B.bytes
  have hr := B.returns
  have hts := atoms_spec (ws := wz_X7_end) B.pre
  have hown : s.vm.findClass RX7 = some m.cls := findClass_of_methodNamed B.named
  have hlocks := B.notSynchronized
  subst hsz
  have hD := hD0.self (sz := s.heap.size)
  generalize hAe : va_A [(mz, .inr (7, [.int mth, .ref mq1, .ref mq2, .ref mq3, .ref mq4, .ref mq5, .int mtd, .int mat, .int mtk, .int mpl, .int mva, .long mwd, .int mbd, .int mbp, .int mft, .int mfp, .ref mq16, .ref mq17, .ref mq18, .ref mq19, .ref mq20, .ref mq21, .int mlt, .ref mq23, .ref mq24, .ref mq25, .int msd, .ref mq27, .ref mq28, .ref mq29, .ref mq30, .ref mq31, .ref mq32, .int mlr, .int mst, .long mob, .long msb, .ref mq37, .int mln]))] s.heap.size = A at hD ⊢
  have hA : ∀ q : Nat, s.heap.size ≤ q → A q := fun q h => by rw [← hAe]; exact Or.inr h
  have hS : va_S A s.heap s.heap [] := va_S.rf
  have hP : va_P (dC, dI) vwCl [(mz, .inr (7, [.int mth, .ref mq1, .ref mq2, .ref mq3, .ref mq4, .ref mq5, .int mtd, .int mat, .int mtk, .int mpl, .int mva, .long mwd, .int mbd, .int mbp, .int mft, .int mfp, .ref mq16, .ref mq17, .ref mq18, .ref mq19, .ref mq20, .ref mq21, .int mlt, .ref mq23, .ref mq24, .ref mq25, .int msd, .ref mq27, .ref mq28, .ref mq29, .ref mq30, .ref mq31, .ref mq32, .int mlr, .int mst, .long mob, .long msb, .ref mq37, .int mln]))] s.heap := hP
  have hl := lv_entry ([.ref mz, .int p0]) (n := 2) (Nat.le_of_ble_eq_true rfl)
  rw [lg_entry_eq]
  generalize (lg_sl ([.ref mz, .int p0]) ++ List.replicate (2 - (lg_sl ([.ref mz, .int p0])).length) Slot.unset).toArray = ls at hl ⊢
  have hl : lv_has ls 2 [(0, .ref mz), (1, .int p0)] := hl
  refine lv_aload_n hx hb dX7_end_0 rfl (lv_at hl 0 rfl) ?_
  refine lv_iconst (v := 0) hx hb dX7_end_1 (by decide) ?_
  refine va_put (D := (dC, dI)) (ci := 7) (v := .int 0) (ty := .int) (C := RX7) (T := TX7) (N := 39) hx hb hts in_X7_end_X7 tyX7 tyX7_ok nmX7 hown hK hP hD hS 0 rfl rfl 0 (by decide) (hts _ wd_X7_end_0) (fun _ h9 => h9) rfl (by decide +kernel) rfl rfl (Nat.le_of_ble_eq_true rfl) dX7_end_2 (fun H locs hP hD hS => ?_)
  have hP : va_P (dC, dI) vwCl [(mz, .inr (7, [.int 0, .ref mq1, .ref mq2, .ref mq3, .ref mq4, .ref mq5, .int mtd, .int mat, .int mtk, .int mpl, .int mva, .long mwd, .int mbd, .int mbp, .int mft, .int mfp, .ref mq16, .ref mq17, .ref mq18, .ref mq19, .ref mq20, .ref mq21, .int mlt, .ref mq23, .ref mq24, .ref mq25, .int msd, .ref mq27, .ref mq28, .ref mq29, .ref mq30, .ref mq31, .ref mq32, .int mlr, .int mst, .long mob, .long msb, .ref mq37, .int mln]))] H := hP
  have hD : va_D A [(mz, .inr (7, [.int 0, .ref mq1, .ref mq2, .ref mq3, .ref mq4, .ref mq5, .int mtd, .int mat, .int mtk, .int mpl, .int mva, .long mwd, .int mbd, .int mbp, .int mft, .int mfp, .ref mq16, .ref mq17, .ref mq18, .ref mq19, .ref mq20, .ref mq21, .int mlt, .ref mq23, .ref mq24, .ref mq25, .int msd, .ref mq27, .ref mq28, .ref mq29, .ref mq30, .ref mq31, .ref mq32, .int mlr, .int mst, .long mob, .long msb, .ref mq37, .int mln]))] := hD
  refine lv_iload_n hx hb dX7_end_5 rfl (lv_at hl 1 rfl) ?_
  refine lv_i2l (v := p0.toInt64) hx hb dX7_end_6 rfl ?_
  refine lv_lconst (v := 0) hx hb dX7_end_7 (by decide) ?_
  refine lv_aload_n hx hb dX7_end_8 rfl (lv_at hl 0 rfl) ?_
  refine va_get (D := (dC, dI)) (ci := 7) (v := .int mtd) (C := RX7) (T := TX7) (N := 39) hx hb hts in_X7_end_X7 hown hK hP 0 rfl rfl 6 (by decide) (hts _ wd_X7_end_1) (fun _ h9 => h9) rfl dX7_end_9 ?_
  refine lv_i2l (v := mtd.toInt64) hx hb dX7_end_12 rfl ?_
  have hPc := hP.sub (ws' := []) [] rfl
  have hDc := hD.sub (ws' := []) [] (by decide) rfl
  have hKc := hK.sub (tys' := []) [] rfl
  have hFc := va_free (wc := []) hD hS hA [] rfl
  refine va_calli (va_runS (As := [.long p0.toInt64, .long 0, .long mtd.toInt64]) (rest := []) ⟨hx, hb, hml, hown, hts⟩ (c_X7_in l dC dI H.size p0.toInt64 ((0 : Int64)) mtd.toInt64 p0.toInt ((0 : Int)) mtd.toInt ((i_wide rfl)) ((by decide)) ((i_wide rfl))) (va_cwS 3 hts g_X7_end_X7_in rfl rfl rfl (by decide +kernel) ⟨Nat.le_of_ble_eq_true rfl, Nat.le_of_ble_eq_true rfl⟩) ⟨fun a U g mk q => by obtain ⟨q0, q1, qP, qK, qD⟩ := q; exact ⟨q0, q1, qP, va_K.moved (u := U) (U := U.calling g mk a) (Vm.Alike.refl U.vm) qK, qD⟩, fun U hU hW => ⟨rfl, by rw [hU], by rw [hU]; exact hPc, va_K.moved hW.alike hKc, hDc.weaken (fun _ _ _ _ => trivial)⟩⟩ rfl rfl hl.1 rfl (lv_room (Nat.le_of_ble_eq_true rfl)) dX7_end_13 ⟨Nat.le_of_ble_eq_true rfl, Nat.le_of_ble_eq_true rfl⟩) hS (fun q _ h => hFc q h) hFc (fun r_1 u t H1 locs ht hvm hw_2 hB hz1 hk1 hS => ?_)
  have hP1 : va_P (dC, dI) vwCl [] H1 := i_nilP
  have hD1 : va_D (va_A [] H.size) [] := i_nilD
  try dsimp only at hw_2
  obtain ⟨hP, hD⟩ := va_join (wr := [(mz, .inr (7, [.int 0, .ref mq1, .ref mq2, .ref mq3, .ref mq4, .ref mq5, .int mtd, .int mat, .int mtk, .int mpl, .int mva, .long mwd, .int mbd, .int mbp, .int mft, .int mfp, .ref mq16, .ref mq17, .ref mq18, .ref mq19, .ref mq20, .ref mq21, .int mlt, .ref mq23, .ref mq24, .ref mq25, .int msd, .ref mq27, .ref mq28, .ref mq29, .ref mq30, .ref mq31, .ref mq32, .int mlr, .int mst, .long mob, .long msb, .ref mq37, .int mln]))]) (w1 := []) hP hD [] [0] rfl rfl (by decide) (by decide) hk1 hFc hP1 hD1
  generalize H1 = H at hP hS ⊢
  have hP : va_P (dC, dI) vwCl [(mz, .inr (7, [.int 0, .ref mq1, .ref mq2, .ref mq3, .ref mq4, .ref mq5, .int mtd, .int mat, .int mtk, .int mpl, .int mva, .long mwd, .int mbd, .int mbp, .int mft, .int mfp, .ref mq16, .ref mq17, .ref mq18, .ref mq19, .ref mq20, .ref mq21, .int mlt, .ref mq23, .ref mq24, .ref mq25, .int msd, .ref mq27, .ref mq28, .ref mq29, .ref mq30, .ref mq31, .ref mq32, .int mlr, .int mst, .long mob, .long msb, .ref mq37, .int mln]))] H := hP
  have hD : va_D A [(mz, .inr (7, [.int 0, .ref mq1, .ref mq2, .ref mq3, .ref mq4, .ref mq5, .int mtd, .int mat, .int mtk, .int mpl, .int mva, .long mwd, .int mbd, .int mbp, .int mft, .int mfp, .ref mq16, .ref mq17, .ref mq18, .ref mq19, .ref mq20, .ref mq21, .int mlt, .ref mq23, .ref mq24, .ref mq25, .int msd, .ref mq27, .ref mq28, .ref mq29, .ref mq30, .ref mq31, .ref mq32, .int mlr, .int mst, .long mob, .long msb, .ref mq37, .int mln]))] := hD
  rcases i_bool hw_2 with ⟨r_19, hC⟩ | ⟨r_19, hC⟩
  · obtain rfl : r_1 = 1 := r_19
    have hC_3 := hC
    refine lv_if_ne (tgt := 21) hx hb dX7_end_16 (by decide) (fun _ => ?_) (fun h => absurd h (by decide))
    refine lv_aload_n hx hb dX7_end_21 rfl (lv_at hl 0 rfl) ?_
    refine lv_iload_n hx hb dX7_end_22 rfl (lv_at hl 1 rfl) ?_
    refine va_put (D := (dC, dI)) (ci := 7) (v := .int p0) (ty := .int) (C := RX7) (T := TX7) (N := 39) hx hb hts in_X7_end_X7 tyX7 tyX7_ok nmX7 hown hK hP hD hS 0 rfl rfl 6 (by decide) (hts _ wd_X7_end_1) (fun _ h9 => h9) rfl (by decide +kernel) rfl rfl (Nat.le_of_ble_eq_true rfl) dX7_end_23 (fun H locs hP hD hS => ?_)
    have hP : va_P (dC, dI) vwCl [(mz, .inr (7, [.int 0, .ref mq1, .ref mq2, .ref mq3, .ref mq4, .ref mq5, .int p0, .int mat, .int mtk, .int mpl, .int mva, .long mwd, .int mbd, .int mbp, .int mft, .int mfp, .ref mq16, .ref mq17, .ref mq18, .ref mq19, .ref mq20, .ref mq21, .int mlt, .ref mq23, .ref mq24, .ref mq25, .int msd, .ref mq27, .ref mq28, .ref mq29, .ref mq30, .ref mq31, .ref mq32, .int mlr, .int mst, .long mob, .long msb, .ref mq37, .int mln]))] H := hP
    have hD : va_D A [(mz, .inr (7, [.int 0, .ref mq1, .ref mq2, .ref mq3, .ref mq4, .ref mq5, .int p0, .int mat, .int mtk, .int mpl, .int mva, .long mwd, .int mbd, .int mbp, .int mft, .int mfp, .ref mq16, .ref mq17, .ref mq18, .ref mq19, .ref mq20, .ref mq21, .int mlt, .ref mq23, .ref mq24, .ref mq25, .int msd, .ref mq27, .ref mq28, .ref mq29, .ref mq30, .ref mq31, .ref mq32, .int mlr, .int mst, .long mob, .long msb, .ref mq37, .int mln]))] := hD
    refine lv_iload_n hx hb dX7_end_26 rfl (lv_at hl 1 rfl) ?_
    have hP9 := hP.sub (ws' := [(mz, .inr (7, [.int 0, .ref mq1, .ref mq2, .ref mq3, .ref mq4, .ref mq5, .int p0, .int mat, .int mtk, .int mpl, .int mva, .long mwd, .int mbd, .int mbp, .int mft, .int mfp, .ref mq16, .ref mq17, .ref mq18, .ref mq19, .ref mq20, .ref mq21, .int mlt, .ref mq23, .ref mq24, .ref mq25, .int msd, .ref mq27, .ref mq28, .ref mq29, .ref mq30, .ref mq31, .ref mq32, .int mlr, .int mst, .long mob, .long msb, .ref mq37, .int mln]))]) [0] rfl
    have hD9 := hD.sub (ws' := [(mz, .inr (7, [.int 0, .ref mq1, .ref mq2, .ref mq3, .ref mq4, .ref mq5, .int p0, .int mat, .int mtk, .int mpl, .int mva, .long mwd, .int mbd, .int mbp, .int mft, .int mfp, .ref mq16, .ref mq17, .ref mq18, .ref mq19, .ref mq20, .ref mq21, .int mlt, .ref mq23, .ref mq24, .ref mq25, .int msd, .ref mq27, .ref mq28, .ref mq29, .ref mq30, .ref mq31, .ref mq32, .int mlr, .int mst, .long mob, .long msb, .ref mq37, .int mln]))]) [0] (by decide) rfl
    have hK9 := hK.sub (tys' := []) [] rfl
    refine W.widen (k := 0) (n := 0) (by omega) (by omega) ?_
    exact W.iret (v := p0) hx hb hr (fun t ht hW => ⟨⟨p0, (p0), rfl, (by first | rfl | trivial | (dsimp only; omega) | omega | (left; rfl) | (right; rfl) | (dsimp only; first | (left; rfl) | (right; rfl))), by rw [ht]; exact hP9, va_K.moved hW.alike hK9, hD9⟩, hS.F ht⟩) hS.2.2 dX7_end_27
  · obtain rfl : r_1 = 0 := r_19
    have hC_5 := hC
    refine lv_if_ne (tgt := 21) hx hb dX7_end_16 (by decide) (fun h => absurd (by decide) h) (fun _ => ?_)
    refine lv_iconst (v := -1) hx hb dX7_end_19 (by decide) ?_
    have hP9 := hP.sub (ws' := [(mz, .inr (7, [.int 0, .ref mq1, .ref mq2, .ref mq3, .ref mq4, .ref mq5, .int mtd, .int mat, .int mtk, .int mpl, .int mva, .long mwd, .int mbd, .int mbp, .int mft, .int mfp, .ref mq16, .ref mq17, .ref mq18, .ref mq19, .ref mq20, .ref mq21, .int mlt, .ref mq23, .ref mq24, .ref mq25, .int msd, .ref mq27, .ref mq28, .ref mq29, .ref mq30, .ref mq31, .ref mq32, .int mlr, .int mst, .long mob, .long msb, .ref mq37, .int mln]))]) [0] rfl
    have hD9 := hD.sub (ws' := [(mz, .inr (7, [.int 0, .ref mq1, .ref mq2, .ref mq3, .ref mq4, .ref mq5, .int mtd, .int mat, .int mtk, .int mpl, .int mva, .long mwd, .int mbd, .int mbp, .int mft, .int mfp, .ref mq16, .ref mq17, .ref mq18, .ref mq19, .ref mq20, .ref mq21, .int mlt, .ref mq23, .ref mq24, .ref mq25, .int msd, .ref mq27, .ref mq28, .ref mq29, .ref mq30, .ref mq31, .ref mq32, .int mlr, .int mst, .long mob, .long msb, .ref mq37, .int mln]))]) [0] (by decide) rfl
    have hK9 := hK.sub (tys' := []) [] rfl
    refine W.widen (k := 0) (n := 0) (by omega) (by omega) ?_
    exact W.iret (v := -1) hx hb hr (fun t ht hW => ⟨⟨(-1), (mtd), rfl, (by have k0 : (-1 : Int32).toInt = -1 := (by decide); first | rfl | trivial | (dsimp only; omega) | omega | (left; rfl) | (right; rfl) | (dsimp only; first | (left; rfl) | (right; rfl))), by rw [ht]; exact hP9, va_K.moved hW.alike hK9, hD9⟩, hS.F ht⟩) hS.2.2 dX7_end_20

theorem dX7_fault_0 : decode cX7_fault 0 = .ok (.aload_n 0, 1) := by decide +kernel
theorem dX7_fault_1 : decode cX7_fault 1 = .ok (.iconst 0, 1) := by decide +kernel
theorem dX7_fault_2 : decode cX7_fault 2 = .ok (.putfield 80, 3) := by decide +kernel
theorem dX7_fault_5 : decode cX7_fault 5 = .ok (.iload_n 1, 1) := by decide +kernel
theorem dX7_fault_6 : decode cX7_fault 6 = .ok (.ifCond .ne 10, 3) := by decide +kernel
theorem dX7_fault_9 : decode cX7_fault 9 = .ok (.aload_n 0, 1) := by decide +kernel
theorem dX7_fault_10 : decode cX7_fault 10 = .ok (.getfield 159, 3) := by decide +kernel
theorem dX7_fault_13 : decode cX7_fault 13 = .ok (.goto 16, 3) := by decide +kernel
theorem dX7_fault_16 : decode cX7_fault 16 = .ok (.iload_n 1, 1) := by decide +kernel
theorem dX7_fault_17 : decode cX7_fault 17 = .ok (.iconst 1, 1) := by decide +kernel
theorem dX7_fault_18 : decode cX7_fault 18 = .ok (.if_icmp .ne 10, 3) := by decide +kernel
theorem dX7_fault_21 : decode cX7_fault 21 = .ok (.aload_n 0, 1) := by decide +kernel
theorem dX7_fault_22 : decode cX7_fault 22 = .ok (.getfield 27, 3) := by decide +kernel
theorem dX7_fault_25 : decode cX7_fault 25 = .ok (.goto 4, 3) := by decide +kernel
theorem dX7_fault_28 : decode cX7_fault 28 = .ok (.iconst (-1), 1) := by decide +kernel
theorem dX7_fault_29 : decode cX7_fault 29 = .ok (.ireturn, 1) := by decide +kernel
def wz_X7_fault : List Cond := .code yX7_fault cX7_fault 2 (some .int) :: ([Cond.fieldLink RX7 80 "HedgeMazeModel" "thrown" "I", Cond.fieldLink RX7 27 "HedgeMazeModel" "faultPlace" "I", Cond.fieldLink RX7 159 "HedgeMazeModel" "fault" "I"] ++ wsX70)
theorem wd_X7_fault_0 : Cond.fieldLink RX7 80 "HedgeMazeModel" "thrown" "I" ∈ wz_X7_fault := List.mem_of_getElem? (i := 1) rfl
theorem wd_X7_fault_1 : Cond.fieldLink RX7 27 "HedgeMazeModel" "faultPlace" "I" ∈ wz_X7_fault := List.mem_of_getElem? (i := 2) rfl
theorem wd_X7_fault_2 : Cond.fieldLink RX7 159 "HedgeMazeModel" "fault" "I" ∈ wz_X7_fault := List.mem_of_getElem? (i := 3) rfl
theorem in_X7_fault_X7 : ∀ w ∈ wsX70, w ∈ wz_X7_fault := fun _ h => List.mem_cons_of_mem _ (List.mem_append_right _ h)
set_option maxHeartbeats 4000000 in
set_option maxRecDepth 100000 in
theorem c_X7_fault (l : Launch) (dC : Nat → ClassId) (dI : Nat → Nat → Nat) (sz : Nat) (mz : Nat) (mth : Int32) (mq1 : Nat) (mq2 : Nat) (mq3 : Nat) (mq4 : Nat) (mq5 : Nat) (mtd : Int32) (mat : Int32) (mtk : Int32) (mpl : Int32) (mva : Int32) (mwd : Int64) (mbd : Int32) (mbp : Int32) (mft : Int32) (mfp : Int32) (mq16 : Nat) (mq17 : Nat) (mq18 : Nat) (mq19 : Nat) (mq20 : Nat) (mq21 : Nat) (mlt : Int32) (mq23 : Nat) (mq24 : Nat) (mq25 : Nat) (msd : Int32) (mq27 : Nat) (mq28 : Nat) (mq29 : Nat) (mq30 : Nat) (mq31 : Nat) (mq32 : Nat) (mlr : Int32) (mst : Int32) (mob : Int64) (msb : Int64) (mq37 : Nat) (mln : Int32) (p0 : Int32)  : Met l yX7_fault wz_X7_fault ({ frames := 0, cells := 0, slots := 0, locals := 0 }) (va_Pc [.ref mz, .int p0] (fun U => U.heap.size = sz ∧ va_P (dC, dI) vwCl [(mz, .inr (7, [.int mth, .ref mq1, .ref mq2, .ref mq3, .ref mq4, .ref mq5, .int mtd, .int mat, .int mtk, .int mpl, .int mva, .long mwd, .int mbd, .int mbp, .int mft, .int mfp, .ref mq16, .ref mq17, .ref mq18, .ref mq19, .ref mq20, .ref mq21, .int mlt, .ref mq23, .ref mq24, .ref mq25, .int msd, .ref mq27, .ref mq28, .ref mq29, .ref mq30, .ref mq31, .ref mq32, .int mlr, .int mst, .long mob, .long msb, .ref mq37, .int mln]))] U.heap ∧ va_K (dC, dI) vwCl [] U ∧ va_D (fun _ => True) [(mz, .inr (7, [.int mth, .ref mq1, .ref mq2, .ref mq3, .ref mq4, .ref mq5, .int mtd, .int mat, .int mtk, .int mpl, .int mva, .long mwd, .int mbd, .int mbp, .int mft, .int mfp, .ref mq16, .ref mq17, .ref mq18, .ref mq19, .ref mq20, .ref mq21, .int mlt, .ref mq23, .ref mq24, .ref mq25, .int msd, .ref mq27, .ref mq28, .ref mq29, .ref mq30, .ref mq31, .ref mq32, .int mlr, .int mst, .long mob, .long msb, .ref mq37, .int mln]))])) (va_Qi (fun (r : Int32) (u : Unit) => True) (fun (u : Unit) (t : State) => va_P (dC, dI) vwCl [(mz, .inr (7, [.int 0, .ref mq1, .ref mq2, .ref mq3, .ref mq4, .ref mq5, .int mtd, .int mat, .int mtk, .int mpl, .int mva, .long mwd, .int mbd, .int mbp, .int mft, .int mfp, .ref mq16, .ref mq17, .ref mq18, .ref mq19, .ref mq20, .ref mq21, .int mlt, .ref mq23, .ref mq24, .ref mq25, .int msd, .ref mq27, .ref mq28, .ref mq29, .ref mq30, .ref mq31, .ref mq32, .int mlr, .int mst, .long mob, .long msb, .ref mq37, .int mln]))] t.heap ∧ va_K (dC, dI) vwCl [] t ∧ va_D (va_A [(mz, .inr (7, [.int mth, .ref mq1, .ref mq2, .ref mq3, .ref mq4, .ref mq5, .int mtd, .int mat, .int mtk, .int mpl, .int mva, .long mwd, .int mbd, .int mbp, .int mft, .int mfp, .ref mq16, .ref mq17, .ref mq18, .ref mq19, .ref mq20, .ref mq21, .int mlt, .ref mq23, .ref mq24, .ref mq25, .int msd, .ref mq27, .ref mq28, .ref mq29, .ref mq30, .ref mq31, .ref mq32, .int mlr, .int mst, .long mob, .long msb, .ref mq37, .int mln]))] sz) [(mz, .inr (7, [.int 0, .ref mq1, .ref mq2, .ref mq3, .ref mq4, .ref mq5, .int mtd, .int mat, .int mtk, .int mpl, .int mva, .long mwd, .int mbd, .int mbp, .int mft, .int mfp, .ref mq16, .ref mq17, .ref mq18, .ref mq19, .ref mq20, .ref mq21, .int mlt, .ref mq23, .ref mq24, .ref mq25, .int msd, .ref mq27, .ref mq28, .ref mq29, .ref mq30, .ref mq31, .ref mq32, .int mlr, .int mst, .long mob, .long msb, .ref mq37, .int mln]))]) (va_A [(mz, .inr (7, [.int mth, .ref mq1, .ref mq2, .ref mq3, .ref mq4, .ref mq5, .int mtd, .int mat, .int mtk, .int mpl, .int mva, .long mwd, .int mbd, .int mbp, .int mft, .int mfp, .ref mq16, .ref mq17, .ref mq18, .ref mq19, .ref mq20, .ref mq21, .int mlt, .ref mq23, .ref mq24, .ref mq25, .int msd, .ref mq27, .ref mq28, .ref mq29, .ref mq30, .ref mq31, .ref mq32, .int mlr, .int mst, .long mob, .long msb, .ref mq37, .int mln]))] sz)) 0 0 (va_A [(mz, .inr (7, [.int mth, .ref mq1, .ref mq2, .ref mq3, .ref mq4, .ref mq5, .int mtd, .int mat, .int mtk, .int mpl, .int mva, .long mwd, .int mbd, .int mbp, .int mft, .int mfp, .ref mq16, .ref mq17, .ref mq18, .ref mq19, .ref mq20, .ref mq21, .int mlt, .ref mq23, .ref mq24, .ref mq25, .int msd, .ref mq27, .ref mq28, .ref mq29, .ref mq30, .ref mq31, .ref mq32, .int mlr, .int mst, .long mob, .long msb, .ref mq37, .int mln]))] sz) := by
  refine Met.ofW (cc := cX7_fault) (maxL := 2) (ret := (some .int)) (by decide) rfl ?_
  intro p e s m args below meth c s₁ B hml hv
  obtain ⟨rfl, hsz, hP, hK, hD0⟩ := hv
  have hx := B.exec
  have hb := B.bytes
  have hr := B.returns
  have hts := atoms_spec (ws := wz_X7_fault) B.pre
  have hown : s.vm.findClass RX7 = some m.cls := findClass_of_methodNamed B.named
  have hlocks := B.notSynchronized
  subst hsz
  have hD := hD0.self (sz := s.heap.size)
  generalize hAe : va_A [(mz, .inr (7, [.int mth, .ref mq1, .ref mq2, .ref mq3, .ref mq4, .ref mq5, .int mtd, .int mat, .int mtk, .int mpl, .int mva, .long mwd, .int mbd, .int mbp, .int mft, .int mfp, .ref mq16, .ref mq17, .ref mq18, .ref mq19, .ref mq20, .ref mq21, .int mlt, .ref mq23, .ref mq24, .ref mq25, .int msd, .ref mq27, .ref mq28, .ref mq29, .ref mq30, .ref mq31, .ref mq32, .int mlr, .int mst, .long mob, .long msb, .ref mq37, .int mln]))] s.heap.size = A at hD ⊢
  have hA : ∀ q : Nat, s.heap.size ≤ q → A q := fun q h => by rw [← hAe]; exact Or.inr h
  have hS : va_S A s.heap s.heap [] := va_S.rf
  have hP : va_P (dC, dI) vwCl [(mz, .inr (7, [.int mth, .ref mq1, .ref mq2, .ref mq3, .ref mq4, .ref mq5, .int mtd, .int mat, .int mtk, .int mpl, .int mva, .long mwd, .int mbd, .int mbp, .int mft, .int mfp, .ref mq16, .ref mq17, .ref mq18, .ref mq19, .ref mq20, .ref mq21, .int mlt, .ref mq23, .ref mq24, .ref mq25, .int msd, .ref mq27, .ref mq28, .ref mq29, .ref mq30, .ref mq31, .ref mq32, .int mlr, .int mst, .long mob, .long msb, .ref mq37, .int mln]))] s.heap := hP
  have hl := lv_entry ([.ref mz, .int p0]) (n := 2) (Nat.le_of_ble_eq_true rfl)
  rw [lg_entry_eq]
  generalize (lg_sl ([.ref mz, .int p0]) ++ List.replicate (2 - (lg_sl ([.ref mz, .int p0])).length) Slot.unset).toArray = ls at hl ⊢
  have hl : lv_has ls 2 [(0, .ref mz), (1, .int p0)] := hl
  refine lv_aload_n hx hb dX7_fault_0 rfl (lv_at hl 0 rfl) ?_
  refine lv_iconst (v := 0) hx hb dX7_fault_1 (by decide) ?_
  refine va_put (D := (dC, dI)) (ci := 7) (v := .int 0) (ty := .int) (C := RX7) (T := TX7) (N := 39) hx hb hts in_X7_fault_X7 tyX7 tyX7_ok nmX7 hown hK hP hD hS 0 rfl rfl 0 (by decide) (hts _ wd_X7_fault_0) (fun _ h9 => h9) rfl (by decide +kernel) rfl rfl (Nat.le_of_ble_eq_true rfl) dX7_fault_2 (fun H locs hP hD hS => ?_)
  have hP : va_P (dC, dI) vwCl [(mz, .inr (7, [.int 0, .ref mq1, .ref mq2, .ref mq3, .ref mq4, .ref mq5, .int mtd, .int mat, .int mtk, .int mpl, .int mva, .long mwd, .int mbd, .int mbp, .int mft, .int mfp, .ref mq16, .ref mq17, .ref mq18, .ref mq19, .ref mq20, .ref mq21, .int mlt, .ref mq23, .ref mq24, .ref mq25, .int msd, .ref mq27, .ref mq28, .ref mq29, .ref mq30, .ref mq31, .ref mq32, .int mlr, .int mst, .long mob, .long msb, .ref mq37, .int mln]))] H := hP
  have hD : va_D A [(mz, .inr (7, [.int 0, .ref mq1, .ref mq2, .ref mq3, .ref mq4, .ref mq5, .int mtd, .int mat, .int mtk, .int mpl, .int mva, .long mwd, .int mbd, .int mbp, .int mft, .int mfp, .ref mq16, .ref mq17, .ref mq18, .ref mq19, .ref mq20, .ref mq21, .int mlt, .ref mq23, .ref mq24, .ref mq25, .int msd, .ref mq27, .ref mq28, .ref mq29, .ref mq30, .ref mq31, .ref mq32, .int mlr, .int mst, .long mob, .long msb, .ref mq37, .int mln]))] := hD
  refine lv_iload_n hx hb dX7_fault_5 rfl (lv_at hl 1 rfl) ?_
  refine lv_if_ne (tgt := 16) hx hb dX7_fault_6 (by decide) (fun c_1 => ?_) (fun c_1 => ?_)
  · have c_1 : p0.toInt ≠ 0 := i_ne (a := p0) (b := 0) rfl (by decide) c_1
    refine lv_iload_n hx hb dX7_fault_16 rfl (lv_at hl 1 rfl) ?_
    refine lv_iconst (v := 1) hx hb dX7_fault_17 (by decide) ?_
    refine lv_icmp_ne (tgt := 28) hx hb dX7_fault_18 (by decide) (fun c_2 => ?_) (fun c_2 => ?_)
    · have c_2 : p0.toInt ≠ 1 := i_ne (a := p0) (b := 1) rfl (by decide) c_2
      refine lv_iconst (v := -1) hx hb dX7_fault_28 (by decide) ?_
      have hP9 := hP.sub (ws' := [(mz, .inr (7, [.int 0, .ref mq1, .ref mq2, .ref mq3, .ref mq4, .ref mq5, .int mtd, .int mat, .int mtk, .int mpl, .int mva, .long mwd, .int mbd, .int mbp, .int mft, .int mfp, .ref mq16, .ref mq17, .ref mq18, .ref mq19, .ref mq20, .ref mq21, .int mlt, .ref mq23, .ref mq24, .ref mq25, .int msd, .ref mq27, .ref mq28, .ref mq29, .ref mq30, .ref mq31, .ref mq32, .int mlr, .int mst, .long mob, .long msb, .ref mq37, .int mln]))]) [0] rfl
      have hD9 := hD.sub (ws' := [(mz, .inr (7, [.int 0, .ref mq1, .ref mq2, .ref mq3, .ref mq4, .ref mq5, .int mtd, .int mat, .int mtk, .int mpl, .int mva, .long mwd, .int mbd, .int mbp, .int mft, .int mfp, .ref mq16, .ref mq17, .ref mq18, .ref mq19, .ref mq20, .ref mq21, .int mlt, .ref mq23, .ref mq24, .ref mq25, .int msd, .ref mq27, .ref mq28, .ref mq29, .ref mq30, .ref mq31, .ref mq32, .int mlr, .int mst, .long mob, .long msb, .ref mq37, .int mln]))]) [0] (by decide) rfl
      have hK9 := hK.sub (tys' := []) [] rfl
      refine W.widen (k := 0) (n := 0) (by omega) (by omega) ?_
      exact W.iret (v := -1) hx hb hr (fun t ht hW => ⟨⟨(-1), (), rfl, trivial, by rw [ht]; exact hP9, va_K.moved hW.alike hK9, hD9⟩, hS.F ht⟩) hS.2.2 dX7_fault_29
    · have c_2 : p0.toInt = 1 := i_eq (a := p0) (b := 1) rfl (by decide) c_2
      refine lv_aload_n hx hb dX7_fault_21 rfl (lv_at hl 0 rfl) ?_
      refine va_get (D := (dC, dI)) (ci := 7) (v := .int mfp) (C := RX7) (T := TX7) (N := 39) hx hb hts in_X7_fault_X7 hown hK hP 0 rfl rfl 15 (by decide) (hts _ wd_X7_fault_1) (fun _ h9 => h9) rfl dX7_fault_22 ?_
      refine lv_goto (tgt := 29) hx hb dX7_fault_25 (by decide) ?_
      have hP9 := hP.sub (ws' := [(mz, .inr (7, [.int 0, .ref mq1, .ref mq2, .ref mq3, .ref mq4, .ref mq5, .int mtd, .int mat, .int mtk, .int mpl, .int mva, .long mwd, .int mbd, .int mbp, .int mft, .int mfp, .ref mq16, .ref mq17, .ref mq18, .ref mq19, .ref mq20, .ref mq21, .int mlt, .ref mq23, .ref mq24, .ref mq25, .int msd, .ref mq27, .ref mq28, .ref mq29, .ref mq30, .ref mq31, .ref mq32, .int mlr, .int mst, .long mob, .long msb, .ref mq37, .int mln]))]) [0] rfl
      have hD9 := hD.sub (ws' := [(mz, .inr (7, [.int 0, .ref mq1, .ref mq2, .ref mq3, .ref mq4, .ref mq5, .int mtd, .int mat, .int mtk, .int mpl, .int mva, .long mwd, .int mbd, .int mbp, .int mft, .int mfp, .ref mq16, .ref mq17, .ref mq18, .ref mq19, .ref mq20, .ref mq21, .int mlt, .ref mq23, .ref mq24, .ref mq25, .int msd, .ref mq27, .ref mq28, .ref mq29, .ref mq30, .ref mq31, .ref mq32, .int mlr, .int mst, .long mob, .long msb, .ref mq37, .int mln]))]) [0] (by decide) rfl
      have hK9 := hK.sub (tys' := []) [] rfl
      refine W.widen (k := 0) (n := 0) (by omega) (by omega) ?_
      exact W.iret (v := mfp) hx hb hr (fun t ht hW => ⟨⟨mfp, (), rfl, trivial, by rw [ht]; exact hP9, va_K.moved hW.alike hK9, hD9⟩, hS.F ht⟩) hS.2.2 dX7_fault_29
  · have c_1 : p0.toInt = 0 := i_eq (a := p0) (b := 0) rfl (by decide) c_1
    refine lv_aload_n hx hb dX7_fault_9 rfl (lv_at hl 0 rfl) ?_
    refine va_get (D := (dC, dI)) (ci := 7) (v := .int mft) (C := RX7) (T := TX7) (N := 39) hx hb hts in_X7_fault_X7 hown hK hP 0 rfl rfl 14 (by decide) (hts _ wd_X7_fault_2) (fun _ h9 => h9) rfl dX7_fault_10 ?_
    refine lv_goto (tgt := 29) hx hb dX7_fault_13 (by decide) ?_
    have hP9 := hP.sub (ws' := [(mz, .inr (7, [.int 0, .ref mq1, .ref mq2, .ref mq3, .ref mq4, .ref mq5, .int mtd, .int mat, .int mtk, .int mpl, .int mva, .long mwd, .int mbd, .int mbp, .int mft, .int mfp, .ref mq16, .ref mq17, .ref mq18, .ref mq19, .ref mq20, .ref mq21, .int mlt, .ref mq23, .ref mq24, .ref mq25, .int msd, .ref mq27, .ref mq28, .ref mq29, .ref mq30, .ref mq31, .ref mq32, .int mlr, .int mst, .long mob, .long msb, .ref mq37, .int mln]))]) [0] rfl
    have hD9 := hD.sub (ws' := [(mz, .inr (7, [.int 0, .ref mq1, .ref mq2, .ref mq3, .ref mq4, .ref mq5, .int mtd, .int mat, .int mtk, .int mpl, .int mva, .long mwd, .int mbd, .int mbp, .int mft, .int mfp, .ref mq16, .ref mq17, .ref mq18, .ref mq19, .ref mq20, .ref mq21, .int mlt, .ref mq23, .ref mq24, .ref mq25, .int msd, .ref mq27, .ref mq28, .ref mq29, .ref mq30, .ref mq31, .ref mq32, .int mlr, .int mst, .long mob, .long msb, .ref mq37, .int mln]))]) [0] (by decide) rfl
    have hK9 := hK.sub (tys' := []) [] rfl
    refine W.widen (k := 0) (n := 0) (by omega) (by omega) ?_
    exact W.iret (v := mft) hx hb hr (fun t ht hW => ⟨⟨mft, (), rfl, trivial, by rw [ht]; exact hP9, va_K.moved hW.alike hK9, hD9⟩, hS.F ht⟩) hS.2.2 dX7_fault_29

