theorem dX3_init_0 : decode cX3_init 0 = .ok (.aload_n 0, 1) := by decide +kernel
theorem dX3_init_1 : decode cX3_init 1 = .ok (.invokespecial 3, 3) := by decide +kernel
theorem dX3_init_4 : decode cX3_init 4 = .ok (.aload_n 0, 1) := by decide +kernel
theorem dX3_init_5 : decode cX3_init 5 = .ok (.iconst 0, 1) := by decide +kernel
theorem dX3_init_6 : decode cX3_init 6 = .ok (.putfield 9, 3) := by decide +kernel
theorem dX3_init_9 : decode cX3_init 9 = .ok (.aload_n 0, 1) := by decide +kernel
theorem dX3_init_10 : decode cX3_init 10 = .ok (.iconst 0, 1) := by decide +kernel
theorem dX3_init_11 : decode cX3_init 11 = .ok (.putfield 15, 3) := by decide +kernel
theorem dX3_init_14 : decode cX3_init 14 = .ok (.aload_n 0, 1) := by decide +kernel
theorem dX3_init_15 : decode cX3_init 15 = .ok (.iconst 0, 1) := by decide +kernel
theorem dX3_init_16 : decode cX3_init 16 = .ok (.putfield 18, 3) := by decide +kernel
theorem dX3_init_19 : decode cX3_init 19 = .ok (.aload_n 0, 1) := by decide +kernel
theorem dX3_init_20 : decode cX3_init 20 = .ok (.iconst 0, 1) := by decide +kernel
theorem dX3_init_21 : decode cX3_init 21 = .ok (.putfield 21, 3) := by decide +kernel
theorem dX3_init_24 : decode cX3_init 24 = .ok (.aload_n 0, 1) := by decide +kernel
theorem dX3_init_25 : decode cX3_init 25 = .ok (.lconst 0, 1) := by decide +kernel
theorem dX3_init_26 : decode cX3_init 26 = .ok (.putfield 24, 3) := by decide +kernel
theorem dX3_init_29 : decode cX3_init 29 = .ok (.aload_n 0, 1) := by decide +kernel
theorem dX3_init_30 : decode cX3_init 30 = .ok (.bipush 40, 2) := by decide +kernel
theorem dX3_init_32 : decode cX3_init 32 = .ok (.newarray .int, 2) := by decide +kernel
theorem dX3_init_34 : decode cX3_init 34 = .ok (.putfield 28, 3) := by decide +kernel
theorem dX3_init_37 : decode cX3_init 37 = .ok (.aload_n 0, 1) := by decide +kernel
theorem dX3_init_38 : decode cX3_init 38 = .ok (.bipush 40, 2) := by decide +kernel
theorem dX3_init_40 : decode cX3_init 40 = .ok (.newarray .int, 2) := by decide +kernel
theorem dX3_init_42 : decode cX3_init 42 = .ok (.putfield 32, 3) := by decide +kernel
theorem dX3_init_45 : decode cX3_init 45 = .ok (.aload_n 0, 1) := by decide +kernel
theorem dX3_init_46 : decode cX3_init 46 = .ok (.bipush 40, 2) := by decide +kernel
theorem dX3_init_48 : decode cX3_init 48 = .ok (.newarray .long, 2) := by decide +kernel
theorem dX3_init_50 : decode cX3_init 50 = .ok (.putfield 35, 3) := by decide +kernel
theorem dX3_init_53 : decode cX3_init 53 = .ok (.aload_n 0, 1) := by decide +kernel
theorem dX3_init_54 : decode cX3_init 54 = .ok (.bipush 100, 2) := by decide +kernel
theorem dX3_init_56 : decode cX3_init 56 = .ok (.newarray .int, 2) := by decide +kernel
theorem dX3_init_58 : decode cX3_init 58 = .ok (.putfield 39, 3) := by decide +kernel
theorem dX3_init_61 : decode cX3_init 61 = .ok (.return_, 1) := by decide +kernel
def wz_X3_init : List Cond := .code yX3_init cX3_init 1 none :: ([Cond.methodLink RX3 3 objectInit, Cond.instanceMethod objectInit, Cond.code objectInit ⟨#[0xb1]⟩ 1 none, Cond.fieldLink RX3 9 "HedgeMaze$Plan" "wide" "I", Cond.fieldLink RX3 15 "HedgeMaze$Plan" "deep" "I", Cond.fieldLink RX3 18 "HedgeMaze$Plan" "cellCount" "I", Cond.fieldLink RX3 21 "HedgeMaze$Plan" "sideCount" "I", Cond.fieldLink RX3 24 "HedgeMaze$Plan" "allSides" "J", Cond.arrayClass .int, Cond.fieldLink RX3 28 "HedgeMaze$Plan" "first" "[I", Cond.fieldLink RX3 32 "HedgeMaze$Plan" "other" "[I", Cond.arrayClass .long, Cond.fieldLink RX3 35 "HedgeMaze$Plan" "bits" "[J", Cond.fieldLink RX3 39 "HedgeMaze$Plan" "around" "[I"] ++ wsX30)
theorem wd_X3_init_0 : Cond.methodLink RX3 3 objectInit ∈ wz_X3_init := List.mem_of_getElem? (i := 1) rfl
theorem wd_X3_init_1 : Cond.instanceMethod objectInit ∈ wz_X3_init := List.mem_of_getElem? (i := 2) rfl
theorem wd_X3_init_2 : Cond.code objectInit ⟨#[0xb1]⟩ 1 none ∈ wz_X3_init := List.mem_of_getElem? (i := 3) rfl
theorem wd_X3_init_3 : Cond.fieldLink RX3 9 "HedgeMaze$Plan" "wide" "I" ∈ wz_X3_init := List.mem_of_getElem? (i := 4) rfl
theorem wd_X3_init_4 : Cond.fieldLink RX3 15 "HedgeMaze$Plan" "deep" "I" ∈ wz_X3_init := List.mem_of_getElem? (i := 5) rfl
theorem wd_X3_init_5 : Cond.fieldLink RX3 18 "HedgeMaze$Plan" "cellCount" "I" ∈ wz_X3_init := List.mem_of_getElem? (i := 6) rfl
theorem wd_X3_init_6 : Cond.fieldLink RX3 21 "HedgeMaze$Plan" "sideCount" "I" ∈ wz_X3_init := List.mem_of_getElem? (i := 7) rfl
theorem wd_X3_init_7 : Cond.fieldLink RX3 24 "HedgeMaze$Plan" "allSides" "J" ∈ wz_X3_init := List.mem_of_getElem? (i := 8) rfl
theorem wd_X3_init_8 : Cond.arrayClass .int ∈ wz_X3_init := List.mem_of_getElem? (i := 9) rfl
theorem wd_X3_init_9 : Cond.fieldLink RX3 28 "HedgeMaze$Plan" "first" "[I" ∈ wz_X3_init := List.mem_of_getElem? (i := 10) rfl
theorem wd_X3_init_10 : Cond.fieldLink RX3 32 "HedgeMaze$Plan" "other" "[I" ∈ wz_X3_init := List.mem_of_getElem? (i := 11) rfl
theorem wd_X3_init_11 : Cond.arrayClass .long ∈ wz_X3_init := List.mem_of_getElem? (i := 12) rfl
theorem wd_X3_init_12 : Cond.fieldLink RX3 35 "HedgeMaze$Plan" "bits" "[J" ∈ wz_X3_init := List.mem_of_getElem? (i := 13) rfl
theorem wd_X3_init_13 : Cond.fieldLink RX3 39 "HedgeMaze$Plan" "around" "[I" ∈ wz_X3_init := List.mem_of_getElem? (i := 14) rfl
theorem in_X3_init_X3 : ∀ w ∈ wsX30, w ∈ wz_X3_init := fun _ h => List.mem_cons_of_mem _ (List.mem_append_right _ h)
set_option maxHeartbeats 4000000 in
set_option maxRecDepth 100000 in
theorem c_X3_init (l : Launch) (dC : Nat → ClassId) (dI : Nat → Nat → Nat) (sz : Nat) (pl : Nat)  : Met l yX3_init wz_X3_init ({ frames := 1, cells := 4, slots := 220, locals := 30 }) (va_Pc [.ref pl] (fun U => U.heap.size = sz ∧ va_P (dC, dI) vwCl [(pl, .inr (3, [.int 0, .int 0, .int 0, .int 0, .long 0, .null, .null, .null, .null]))] U.heap ∧ va_K (dC, dI) vwCl [] U ∧ va_D (fun _ => True) [(pl, .inr (3, [.int 0, .int 0, .int 0, .int 0, .long 0, .null, .null, .null, .null]))])) (va_Qv (fun (u : Nat × Nat × Nat × Nat × ClassId × ClassId × ClassId × ClassId) => True) (fun (u : Nat × Nat × Nat × Nat × ClassId × ClassId × ClassId × ClassId) (t : State) => va_P (dC, dI) vwCl [(pl, .inr (3, [.int 0, .int 0, .int 0, .int 0, .long 0, .ref u.1, .ref u.2.1, .ref u.2.2.1, .ref u.2.2.2.1])), (u.1, .inl (u.2.2.2.2.1, 40, .inl (fun _ => 0))), (u.2.1, .inl (u.2.2.2.2.2.1, 40, .inl (fun _ => 0))), (u.2.2.1, .inl (u.2.2.2.2.2.2.1, 40, .inr (.inl (fun _ => 0)))), (u.2.2.2.1, .inl (u.2.2.2.2.2.2.2, 100, .inl (fun _ => 0)))] t.heap ∧ va_K (dC, dI) vwCl [(u.2.2.2.2.1, .int), (u.2.2.2.2.2.1, .int), (u.2.2.2.2.2.2.1, .long), (u.2.2.2.2.2.2.2, .int)] t ∧ va_D (va_A [(pl, .inr (3, [.int 0, .int 0, .int 0, .int 0, .long 0, .null, .null, .null, .null]))] sz) [(pl, .inr (3, [.int 0, .int 0, .int 0, .int 0, .long 0, .ref u.1, .ref u.2.1, .ref u.2.2.1, .ref u.2.2.2.1])), (u.1, .inl (u.2.2.2.2.1, 40, .inl (fun _ => 0))), (u.2.1, .inl (u.2.2.2.2.2.1, 40, .inl (fun _ => 0))), (u.2.2.1, .inl (u.2.2.2.2.2.2.1, 40, .inr (.inl (fun _ => 0)))), (u.2.2.2.1, .inl (u.2.2.2.2.2.2.2, 100, .inl (fun _ => 0)))]) (va_A [(pl, .inr (3, [.int 0, .int 0, .int 0, .int 0, .long 0, .null, .null, .null, .null]))] sz)) 4 220 (va_A [(pl, .inr (3, [.int 0, .int 0, .int 0, .int 0, .long 0, .null, .null, .null, .null]))] sz) := by
  refine Met.ofW (cc := cX3_init) (maxL := 1) (ret := none) (by decide) rfl ?_
  intro p e s m args below meth c s₁ B hml hv
  obtain ⟨rfl, hsz, hP, hK, hD0⟩ := hv
  have hx := B.exec
  have hb := B.bytes
  have hr := B.returns
  have hts := atoms_spec (ws := wz_X3_init) B.pre
  have hown : s.vm.findClass RX3 = some m.cls := findClass_of_methodNamed B.named
  have hlocks := B.notSynchronized
  have hin : meth.name = "<init>" := (name_of_methodNamed B.named B.method).1
  subst hsz
  have hD := hD0.self (sz := s.heap.size)
  generalize hAe : va_A [(pl, .inr (3, [.int 0, .int 0, .int 0, .int 0, .long 0, .null, .null, .null, .null]))] s.heap.size = A at hD ⊢
  have hA : ∀ q : Nat, s.heap.size ≤ q → A q := fun q h => by rw [← hAe]; exact Or.inr h
  have hS : va_S A s.heap s.heap [] := va_S.rf
  have hP : va_P (dC, dI) vwCl [(pl, .inr (3, [.int 0, .int 0, .int 0, .int 0, .long 0, .null, .null, .null, .null]))] s.heap := hP
  have hl := lv_entry ([.ref pl]) (n := 1) (Nat.le_of_ble_eq_true rfl)
  rw [lg_entry_eq]
  generalize (lg_sl ([.ref pl]) ++ List.replicate (1 - (lg_sl ([.ref pl])).length) Slot.unset).toArray = ls at hl ⊢
  have hl : lv_has ls 1 [(0, .ref pl)] := hl
  refine lv_aload_n hx hb dX3_init_0 rfl (lv_at hl 0 rfl) ?_
  refine W.objInit hx hb hown (hts _ wd_X3_init_0) (hts _ wd_X3_init_1) (hts _ wd_X3_init_2) rfl (by rw [hml]; exact hl.1) rfl dX3_init_1 (Nat.le_of_ble_eq_true rfl) (Nat.le_of_ble_eq_true rfl) ?_
  refine W.eq (g2 := F0 m 4 ls []) rfl ?_
  refine lv_aload_n hx hb dX3_init_4 rfl (lv_at hl 0 rfl) ?_
  refine lv_iconst (v := 0) hx hb dX3_init_5 (by decide) ?_
  refine va_put (D := (dC, dI)) (ci := 3) (v := .int 0) (ty := .int) (C := RX3) (T := TX3) (N := 9) hx hb hts in_X3_init_X3 tyX3 tyX3_ok nmX3 hown hK hP hD hS 0 rfl rfl 0 (by decide) (hts _ wd_X3_init_3) (fun _ h9 => h9) rfl (by decide +kernel) rfl rfl (Nat.le_of_ble_eq_true rfl) dX3_init_6 (fun H locs hP hD hS => ?_)
  have hP : va_P (dC, dI) vwCl [(pl, .inr (3, [.int 0, .int 0, .int 0, .int 0, .long 0, .null, .null, .null, .null]))] H := hP
  have hD : va_D A [(pl, .inr (3, [.int 0, .int 0, .int 0, .int 0, .long 0, .null, .null, .null, .null]))] := hD
  refine lv_aload_n hx hb dX3_init_9 rfl (lv_at hl 0 rfl) ?_
  refine lv_iconst (v := 0) hx hb dX3_init_10 (by decide) ?_
  refine va_put (D := (dC, dI)) (ci := 3) (v := .int 0) (ty := .int) (C := RX3) (T := TX3) (N := 9) hx hb hts in_X3_init_X3 tyX3 tyX3_ok nmX3 hown hK hP hD hS 0 rfl rfl 1 (by decide) (hts _ wd_X3_init_4) (fun _ h9 => h9) rfl (by decide +kernel) rfl rfl (Nat.le_of_ble_eq_true rfl) dX3_init_11 (fun H locs hP hD hS => ?_)
  have hP : va_P (dC, dI) vwCl [(pl, .inr (3, [.int 0, .int 0, .int 0, .int 0, .long 0, .null, .null, .null, .null]))] H := hP
  have hD : va_D A [(pl, .inr (3, [.int 0, .int 0, .int 0, .int 0, .long 0, .null, .null, .null, .null]))] := hD
  refine lv_aload_n hx hb dX3_init_14 rfl (lv_at hl 0 rfl) ?_
  refine lv_iconst (v := 0) hx hb dX3_init_15 (by decide) ?_
  refine va_put (D := (dC, dI)) (ci := 3) (v := .int 0) (ty := .int) (C := RX3) (T := TX3) (N := 9) hx hb hts in_X3_init_X3 tyX3 tyX3_ok nmX3 hown hK hP hD hS 0 rfl rfl 2 (by decide) (hts _ wd_X3_init_5) (fun _ h9 => h9) rfl (by decide +kernel) rfl rfl (Nat.le_of_ble_eq_true rfl) dX3_init_16 (fun H locs hP hD hS => ?_)
  have hP : va_P (dC, dI) vwCl [(pl, .inr (3, [.int 0, .int 0, .int 0, .int 0, .long 0, .null, .null, .null, .null]))] H := hP
  have hD : va_D A [(pl, .inr (3, [.int 0, .int 0, .int 0, .int 0, .long 0, .null, .null, .null, .null]))] := hD
  refine lv_aload_n hx hb dX3_init_19 rfl (lv_at hl 0 rfl) ?_
  refine lv_iconst (v := 0) hx hb dX3_init_20 (by decide) ?_
  refine va_put (D := (dC, dI)) (ci := 3) (v := .int 0) (ty := .int) (C := RX3) (T := TX3) (N := 9) hx hb hts in_X3_init_X3 tyX3 tyX3_ok nmX3 hown hK hP hD hS 0 rfl rfl 3 (by decide) (hts _ wd_X3_init_6) (fun _ h9 => h9) rfl (by decide +kernel) rfl rfl (Nat.le_of_ble_eq_true rfl) dX3_init_21 (fun H locs hP hD hS => ?_)
  have hP : va_P (dC, dI) vwCl [(pl, .inr (3, [.int 0, .int 0, .int 0, .int 0, .long 0, .null, .null, .null, .null]))] H := hP
  have hD : va_D A [(pl, .inr (3, [.int 0, .int 0, .int 0, .int 0, .long 0, .null, .null, .null, .null]))] := hD
  refine lv_aload_n hx hb dX3_init_24 rfl (lv_at hl 0 rfl) ?_
  refine lv_lconst (v := 0) hx hb dX3_init_25 (by decide) ?_
  refine va_put (D := (dC, dI)) (ci := 3) (v := .long 0) (ty := .long) (C := RX3) (T := TX3) (N := 9) hx hb hts in_X3_init_X3 tyX3 tyX3_ok nmX3 hown hK hP hD hS 0 rfl rfl 4 (by decide) (hts _ wd_X3_init_7) (fun _ h9 => h9) rfl (by decide +kernel) rfl rfl (Nat.le_of_ble_eq_true rfl) dX3_init_26 (fun H locs hP hD hS => ?_)
  have hP : va_P (dC, dI) vwCl [(pl, .inr (3, [.int 0, .int 0, .int 0, .int 0, .long 0, .null, .null, .null, .null]))] H := hP
  have hD : va_D A [(pl, .inr (3, [.int 0, .int 0, .int 0, .int 0, .long 0, .null, .null, .null, .null]))] := hD
  refine lv_aload_n hx hb dX3_init_29 rfl (lv_at hl 0 rfl) ?_
  refine lv_bipush (v := 40) hx hb dX3_init_30 (by decide) ?_
  refine va_newa (atype := .int) (ty := .int) (N' := 40) (a0 := (40, .inl (fun _ => 0))) hx hb (hts _ wd_X3_init_8) rfl hK hP hD hS hA (fun _ => rfl) (by decide) (by decide) (by decide) (Nat.le_of_ble_eq_true rfl) (Nat.le_of_ble_eq_true rfl) dX3_init_32 (fun q_1 cA_2 H hK hP hD hS => ?_)
  have hP : va_P (dC, dI) vwCl [(pl, .inr (3, [.int 0, .int 0, .int 0, .int 0, .long 0, .null, .null, .null, .null])), (q_1, .inl (cA_2, 40, .inl (fun _ => 0)))] H := hP
  have hD : va_D A [(pl, .inr (3, [.int 0, .int 0, .int 0, .int 0, .long 0, .null, .null, .null, .null])), (q_1, .inl (cA_2, 40, .inl (fun _ => 0)))] := hD
  have hK : va_K (dC, dI) vwCl [(cA_2, .int)] s := hK
  refine W.widen (k := 1) (n := 40) (by omega) (by omega) ?_
  refine va_putF (D := (dC, dI)) (ci := 3) (v := .ref q_1) (ty := .array .int) (C := RX3) (T := TX3) (N := 9) hx hb hts in_X3_init_X3 tyX3 tyX3_ok nmX3 hown hK hP hD hS 0 rfl rfl 5 (by decide) (hts _ wd_X3_init_9) (fun _ h9 => h9) rfl hin rfl (by decide +kernel) rfl rfl (Nat.le_of_ble_eq_true rfl) dX3_init_34 (fun H locs hP hD hS => ?_)
  have hP : va_P (dC, dI) vwCl [(pl, .inr (3, [.int 0, .int 0, .int 0, .int 0, .long 0, .ref q_1, .null, .null, .null])), (q_1, .inl (cA_2, 40, .inl (fun _ => 0)))] H := hP
  have hD : va_D A [(pl, .inr (3, [.int 0, .int 0, .int 0, .int 0, .long 0, .ref q_1, .null, .null, .null])), (q_1, .inl (cA_2, 40, .inl (fun _ => 0)))] := hD
  refine lv_aload_n hx hb dX3_init_37 rfl (lv_at hl 0 rfl) ?_
  refine lv_bipush (v := 40) hx hb dX3_init_38 (by decide) ?_
  refine va_newa (atype := .int) (ty := .int) (N' := 40) (a0 := (40, .inl (fun _ => 0))) hx hb (hts _ wd_X3_init_8) rfl hK hP hD hS hA (fun _ => rfl) (by decide) (by decide) (by decide) (Nat.le_of_ble_eq_true rfl) (Nat.le_of_ble_eq_true rfl) dX3_init_40 (fun q_3 cA_4 H hK hP hD hS => ?_)
  have hP : va_P (dC, dI) vwCl [(pl, .inr (3, [.int 0, .int 0, .int 0, .int 0, .long 0, .ref q_1, .null, .null, .null])), (q_1, .inl (cA_2, 40, .inl (fun _ => 0))), (q_3, .inl (cA_4, 40, .inl (fun _ => 0)))] H := hP
  have hD : va_D A [(pl, .inr (3, [.int 0, .int 0, .int 0, .int 0, .long 0, .ref q_1, .null, .null, .null])), (q_1, .inl (cA_2, 40, .inl (fun _ => 0))), (q_3, .inl (cA_4, 40, .inl (fun _ => 0)))] := hD
  have hK : va_K (dC, dI) vwCl [(cA_2, .int), (cA_4, .int)] s := hK
  refine W.widen (k := 2) (n := 80) (by omega) (by omega) ?_
  refine va_putF (D := (dC, dI)) (ci := 3) (v := .ref q_3) (ty := .array .int) (C := RX3) (T := TX3) (N := 9) hx hb hts in_X3_init_X3 tyX3 tyX3_ok nmX3 hown hK hP hD hS 0 rfl rfl 6 (by decide) (hts _ wd_X3_init_10) (fun _ h9 => h9) rfl hin rfl (by decide +kernel) rfl rfl (Nat.le_of_ble_eq_true rfl) dX3_init_42 (fun H locs hP hD hS => ?_)
  have hP : va_P (dC, dI) vwCl [(pl, .inr (3, [.int 0, .int 0, .int 0, .int 0, .long 0, .ref q_1, .ref q_3, .null, .null])), (q_1, .inl (cA_2, 40, .inl (fun _ => 0))), (q_3, .inl (cA_4, 40, .inl (fun _ => 0)))] H := hP
  have hD : va_D A [(pl, .inr (3, [.int 0, .int 0, .int 0, .int 0, .long 0, .ref q_1, .ref q_3, .null, .null])), (q_1, .inl (cA_2, 40, .inl (fun _ => 0))), (q_3, .inl (cA_4, 40, .inl (fun _ => 0)))] := hD
  refine lv_aload_n hx hb dX3_init_45 rfl (lv_at hl 0 rfl) ?_
  refine lv_bipush (v := 40) hx hb dX3_init_46 (by decide) ?_
  refine va_newa (atype := .long) (ty := .long) (N' := 40) (a0 := (40, .inr (.inl (fun _ => 0)))) hx hb (hts _ wd_X3_init_11) rfl hK hP hD hS hA (fun _ => rfl) (by decide) (by decide) (by decide) (Nat.le_of_ble_eq_true rfl) (Nat.le_of_ble_eq_true rfl) dX3_init_48 (fun q_5 cA_6 H hK hP hD hS => ?_)
  have hP : va_P (dC, dI) vwCl [(pl, .inr (3, [.int 0, .int 0, .int 0, .int 0, .long 0, .ref q_1, .ref q_3, .null, .null])), (q_1, .inl (cA_2, 40, .inl (fun _ => 0))), (q_3, .inl (cA_4, 40, .inl (fun _ => 0))), (q_5, .inl (cA_6, 40, .inr (.inl (fun _ => 0))))] H := hP
  have hD : va_D A [(pl, .inr (3, [.int 0, .int 0, .int 0, .int 0, .long 0, .ref q_1, .ref q_3, .null, .null])), (q_1, .inl (cA_2, 40, .inl (fun _ => 0))), (q_3, .inl (cA_4, 40, .inl (fun _ => 0))), (q_5, .inl (cA_6, 40, .inr (.inl (fun _ => 0))))] := hD
  have hK : va_K (dC, dI) vwCl [(cA_2, .int), (cA_4, .int), (cA_6, .long)] s := hK
  refine W.widen (k := 3) (n := 120) (by omega) (by omega) ?_
  refine va_putF (D := (dC, dI)) (ci := 3) (v := .ref q_5) (ty := .array .long) (C := RX3) (T := TX3) (N := 9) hx hb hts in_X3_init_X3 tyX3 tyX3_ok nmX3 hown hK hP hD hS 0 rfl rfl 7 (by decide) (hts _ wd_X3_init_12) (fun _ h9 => h9) rfl hin rfl (by decide +kernel) rfl rfl (Nat.le_of_ble_eq_true rfl) dX3_init_50 (fun H locs hP hD hS => ?_)
  have hP : va_P (dC, dI) vwCl [(pl, .inr (3, [.int 0, .int 0, .int 0, .int 0, .long 0, .ref q_1, .ref q_3, .ref q_5, .null])), (q_1, .inl (cA_2, 40, .inl (fun _ => 0))), (q_3, .inl (cA_4, 40, .inl (fun _ => 0))), (q_5, .inl (cA_6, 40, .inr (.inl (fun _ => 0))))] H := hP
  have hD : va_D A [(pl, .inr (3, [.int 0, .int 0, .int 0, .int 0, .long 0, .ref q_1, .ref q_3, .ref q_5, .null])), (q_1, .inl (cA_2, 40, .inl (fun _ => 0))), (q_3, .inl (cA_4, 40, .inl (fun _ => 0))), (q_5, .inl (cA_6, 40, .inr (.inl (fun _ => 0))))] := hD
  refine lv_aload_n hx hb dX3_init_53 rfl (lv_at hl 0 rfl) ?_
  refine lv_bipush (v := 100) hx hb dX3_init_54 (by decide) ?_
  refine va_newa (atype := .int) (ty := .int) (N' := 100) (a0 := (100, .inl (fun _ => 0))) hx hb (hts _ wd_X3_init_8) rfl hK hP hD hS hA (fun _ => rfl) (by decide) (by decide) (by decide) (Nat.le_of_ble_eq_true rfl) (Nat.le_of_ble_eq_true rfl) dX3_init_56 (fun q_7 cA_8 H hK hP hD hS => ?_)
  have hP : va_P (dC, dI) vwCl [(pl, .inr (3, [.int 0, .int 0, .int 0, .int 0, .long 0, .ref q_1, .ref q_3, .ref q_5, .null])), (q_1, .inl (cA_2, 40, .inl (fun _ => 0))), (q_3, .inl (cA_4, 40, .inl (fun _ => 0))), (q_5, .inl (cA_6, 40, .inr (.inl (fun _ => 0)))), (q_7, .inl (cA_8, 100, .inl (fun _ => 0)))] H := hP
  have hD : va_D A [(pl, .inr (3, [.int 0, .int 0, .int 0, .int 0, .long 0, .ref q_1, .ref q_3, .ref q_5, .null])), (q_1, .inl (cA_2, 40, .inl (fun _ => 0))), (q_3, .inl (cA_4, 40, .inl (fun _ => 0))), (q_5, .inl (cA_6, 40, .inr (.inl (fun _ => 0)))), (q_7, .inl (cA_8, 100, .inl (fun _ => 0)))] := hD
  have hK : va_K (dC, dI) vwCl [(cA_2, .int), (cA_4, .int), (cA_6, .long), (cA_8, .int)] s := hK
  refine W.widen (k := 4) (n := 220) (by omega) (by omega) ?_
  refine va_putF (D := (dC, dI)) (ci := 3) (v := .ref q_7) (ty := .array .int) (C := RX3) (T := TX3) (N := 9) hx hb hts in_X3_init_X3 tyX3 tyX3_ok nmX3 hown hK hP hD hS 0 rfl rfl 8 (by decide) (hts _ wd_X3_init_13) (fun _ h9 => h9) rfl hin rfl (by decide +kernel) rfl rfl (Nat.le_of_ble_eq_true rfl) dX3_init_58 (fun H locs hP hD hS => ?_)
  have hP : va_P (dC, dI) vwCl [(pl, .inr (3, [.int 0, .int 0, .int 0, .int 0, .long 0, .ref q_1, .ref q_3, .ref q_5, .ref q_7])), (q_1, .inl (cA_2, 40, .inl (fun _ => 0))), (q_3, .inl (cA_4, 40, .inl (fun _ => 0))), (q_5, .inl (cA_6, 40, .inr (.inl (fun _ => 0)))), (q_7, .inl (cA_8, 100, .inl (fun _ => 0)))] H := hP
  have hD : va_D A [(pl, .inr (3, [.int 0, .int 0, .int 0, .int 0, .long 0, .ref q_1, .ref q_3, .ref q_5, .ref q_7])), (q_1, .inl (cA_2, 40, .inl (fun _ => 0))), (q_3, .inl (cA_4, 40, .inl (fun _ => 0))), (q_5, .inl (cA_6, 40, .inr (.inl (fun _ => 0)))), (q_7, .inl (cA_8, 100, .inl (fun _ => 0)))] := hD
  have hP9 := hP.sub (ws' := [(pl, .inr (3, [.int 0, .int 0, .int 0, .int 0, .long 0, .ref q_1, .ref q_3, .ref q_5, .ref q_7])), (q_1, .inl (cA_2, 40, .inl (fun _ => 0))), (q_3, .inl (cA_4, 40, .inl (fun _ => 0))), (q_5, .inl (cA_6, 40, .inr (.inl (fun _ => 0)))), (q_7, .inl (cA_8, 100, .inl (fun _ => 0)))]) [0, 1, 2, 3, 4] rfl
  have hD9 := hD.sub (ws' := [(pl, .inr (3, [.int 0, .int 0, .int 0, .int 0, .long 0, .ref q_1, .ref q_3, .ref q_5, .ref q_7])), (q_1, .inl (cA_2, 40, .inl (fun _ => 0))), (q_3, .inl (cA_4, 40, .inl (fun _ => 0))), (q_5, .inl (cA_6, 40, .inr (.inl (fun _ => 0)))), (q_7, .inl (cA_8, 100, .inl (fun _ => 0)))]) [0, 1, 2, 3, 4] (by decide) rfl
  have hK9 := hK.sub (tys' := [(cA_2, .int), (cA_4, .int), (cA_6, .long), (cA_8, .int)]) [0, 1, 2, 3] rfl
  refine W.widen (k := 4) (n := 220) (by omega) (by omega) ?_
  exact W.vret hx hb hr (fun t ht hW => ⟨⟨(q_1, q_3, q_5, q_7, cA_2, cA_4, cA_6, cA_8), rfl, trivial, by rw [ht]; exact hP9, va_K.moved hW.alike hK9, hD9⟩, hS.F ht⟩) hS.2.2 dX3_init_61

theorem dX0_init_0 : decode cX0_init 0 = .ok (.aload_n 0, 1) := by decide +kernel
theorem dX0_init_1 : decode cX0_init 1 = .ok (.invokespecial 3, 3) := by decide +kernel
theorem dX0_init_4 : decode cX0_init 4 = .ok (.aload_n 0, 1) := by decide +kernel
theorem dX0_init_5 : decode cX0_init 5 = .ok (.new 9, 3) := by decide +kernel
theorem dX0_init_8 : decode cX0_init 8 = .ok (.dup, 1) := by decide +kernel
theorem dX0_init_9 : decode cX0_init 9 = .ok (.invokespecial 11, 3) := by decide +kernel
theorem dX0_init_12 : decode cX0_init 12 = .ok (.putfield 12, 3) := by decide +kernel
theorem dX0_init_15 : decode cX0_init 15 = .ok (.aload_n 0, 1) := by decide +kernel
theorem dX0_init_16 : decode cX0_init 16 = .ok (.iconst 0, 1) := by decide +kernel
theorem dX0_init_17 : decode cX0_init 17 = .ok (.putfield 18, 3) := by decide +kernel
theorem dX0_init_20 : decode cX0_init 20 = .ok (.aload_n 0, 1) := by decide +kernel
theorem dX0_init_21 : decode cX0_init 21 = .ok (.lconst 0, 1) := by decide +kernel
theorem dX0_init_22 : decode cX0_init 22 = .ok (.putfield 22, 3) := by decide +kernel
theorem dX0_init_25 : decode cX0_init 25 = .ok (.aload_n 0, 1) := by decide +kernel
theorem dX0_init_26 : decode cX0_init 26 = .ok (.lconst 0, 1) := by decide +kernel
theorem dX0_init_27 : decode cX0_init 27 = .ok (.putfield 26, 3) := by decide +kernel
theorem dX0_init_30 : decode cX0_init 30 = .ok (.aload_n 0, 1) := by decide +kernel
theorem dX0_init_31 : decode cX0_init 31 = .ok (.iconst 0, 1) := by decide +kernel
theorem dX0_init_32 : decode cX0_init 32 = .ok (.putfield 29, 3) := by decide +kernel
theorem dX0_init_35 : decode cX0_init 35 = .ok (.aload_n 0, 1) := by decide +kernel
theorem dX0_init_36 : decode cX0_init 36 = .ok (.iconst (-1), 1) := by decide +kernel
theorem dX0_init_37 : decode cX0_init 37 = .ok (.putfield 33, 3) := by decide +kernel
theorem dX0_init_40 : decode cX0_init 40 = .ok (.aload_n 0, 1) := by decide +kernel
theorem dX0_init_41 : decode cX0_init 41 = .ok (.iconst 0, 1) := by decide +kernel
theorem dX0_init_42 : decode cX0_init 42 = .ok (.putfield 36, 3) := by decide +kernel
theorem dX0_init_45 : decode cX0_init 45 = .ok (.aload_n 0, 1) := by decide +kernel
theorem dX0_init_46 : decode cX0_init 46 = .ok (.iconst 4, 1) := by decide +kernel
theorem dX0_init_47 : decode cX0_init 47 = .ok (.newarray .int, 2) := by decide +kernel
theorem dX0_init_49 : decode cX0_init 49 = .ok (.putfield 39, 3) := by decide +kernel
theorem dX0_init_52 : decode cX0_init 52 = .ok (.aload_n 0, 1) := by decide +kernel
theorem dX0_init_53 : decode cX0_init 53 = .ok (.iconst 0, 1) := by decide +kernel
theorem dX0_init_54 : decode cX0_init 54 = .ok (.putfield 43, 3) := by decide +kernel
theorem dX0_init_57 : decode cX0_init 57 = .ok (.aload_n 0, 1) := by decide +kernel
theorem dX0_init_58 : decode cX0_init 58 = .ok (.iconst 5, 1) := by decide +kernel
theorem dX0_init_59 : decode cX0_init 59 = .ok (.newarray .int, 2) := by decide +kernel
theorem dX0_init_61 : decode cX0_init 61 = .ok (.putfield 46, 3) := by decide +kernel
theorem dX0_init_64 : decode cX0_init 64 = .ok (.aload_n 0, 1) := by decide +kernel
theorem dX0_init_65 : decode cX0_init 65 = .ok (.iconst 0, 1) := by decide +kernel
theorem dX0_init_66 : decode cX0_init 66 = .ok (.putfield 49, 3) := by decide +kernel
theorem dX0_init_69 : decode cX0_init 69 = .ok (.aload_n 0, 1) := by decide +kernel
theorem dX0_init_70 : decode cX0_init 70 = .ok (.bipush 99, 2) := by decide +kernel
theorem dX0_init_72 : decode cX0_init 72 = .ok (.newarray .int, 2) := by decide +kernel
theorem dX0_init_74 : decode cX0_init 74 = .ok (.putfield 52, 3) := by decide +kernel
theorem dX0_init_77 : decode cX0_init 77 = .ok (.return_, 1) := by decide +kernel
def wz_X0_init : List Cond := .code yX0_init cX0_init 1 none :: ([Cond.methodLink RX0 3 objectInit, Cond.instanceMethod objectInit, Cond.code objectInit ⟨#[0xb1]⟩ 1 none, Cond.classLink RX0 9 RX3, Cond.instantiable RX3 9, Cond.initialized RX3, Cond.instanceMethod yX3_init, Cond.fieldLink RX0 12 "HedgeMaze$Garden" "plan" "LHedgeMaze$Plan;", Cond.fieldLink RX0 18 "HedgeMaze$Garden" "lines" "I", Cond.fieldLink RX0 22 "HedgeMaze$Garden" "hedges" "J", Cond.fieldLink RX0 26 "HedgeMaze$Garden" "walls" "J", Cond.fieldLink RX0 29 "HedgeMaze$Garden" "isNear" "Z", Cond.fieldLink RX0 33 "HedgeMaze$Garden" "letterCell" "I", Cond.fieldLink RX0 36 "HedgeMaze$Garden" "gateCount" "I", Cond.arrayClass .int, Cond.fieldLink RX0 39 "HedgeMaze$Garden" "gates" "[I", Cond.fieldLink RX0 43 "HedgeMaze$Garden" "guestCount" "I", Cond.fieldLink RX0 46 "HedgeMaze$Garden" "guests" "[I", Cond.fieldLink RX0 49 "HedgeMaze$Garden" "goneCount" "I", Cond.fieldLink RX0 52 "HedgeMaze$Garden" "goneNights" "[I", Cond.code yX3_init cX3_init 1 none, Cond.methodLink RX3 3 objectInit, Cond.fieldLink RX3 9 "HedgeMaze$Plan" "wide" "I", Cond.fieldLink RX3 15 "HedgeMaze$Plan" "deep" "I", Cond.fieldLink RX3 18 "HedgeMaze$Plan" "cellCount" "I", Cond.fieldLink RX3 21 "HedgeMaze$Plan" "sideCount" "I", Cond.fieldLink RX3 24 "HedgeMaze$Plan" "allSides" "J", Cond.fieldLink RX3 28 "HedgeMaze$Plan" "first" "[I", Cond.fieldLink RX3 32 "HedgeMaze$Plan" "other" "[I", Cond.arrayClass .long, Cond.fieldLink RX3 35 "HedgeMaze$Plan" "bits" "[J", Cond.fieldLink RX3 39 "HedgeMaze$Plan" "around" "[I"] ++ wsX30 ++ wsX00)
theorem wd_X0_init_0 : Cond.methodLink RX0 3 objectInit ∈ wz_X0_init := List.mem_of_getElem? (i := 1) rfl
theorem wd_X0_init_1 : Cond.instanceMethod objectInit ∈ wz_X0_init := List.mem_of_getElem? (i := 2) rfl
theorem wd_X0_init_2 : Cond.code objectInit ⟨#[0xb1]⟩ 1 none ∈ wz_X0_init := List.mem_of_getElem? (i := 3) rfl
theorem wd_X0_init_3 : Cond.classLink RX0 9 RX3 ∈ wz_X0_init := List.mem_of_getElem? (i := 4) rfl
theorem wd_X0_init_4 : Cond.instantiable RX3 9 ∈ wz_X0_init := List.mem_of_getElem? (i := 5) rfl
theorem wd_X0_init_5 : Cond.initialized RX3 ∈ wz_X0_init := List.mem_of_getElem? (i := 6) rfl
theorem wd_X0_init_6 : Cond.instanceMethod yX3_init ∈ wz_X0_init := List.mem_of_getElem? (i := 7) rfl
theorem wd_X0_init_7 : Cond.fieldLink RX0 12 "HedgeMaze$Garden" "plan" "LHedgeMaze$Plan;" ∈ wz_X0_init := List.mem_of_getElem? (i := 8) rfl
theorem wd_X0_init_8 : Cond.fieldLink RX0 18 "HedgeMaze$Garden" "lines" "I" ∈ wz_X0_init := List.mem_of_getElem? (i := 9) rfl
theorem wd_X0_init_9 : Cond.fieldLink RX0 22 "HedgeMaze$Garden" "hedges" "J" ∈ wz_X0_init := List.mem_of_getElem? (i := 10) rfl
theorem wd_X0_init_10 : Cond.fieldLink RX0 26 "HedgeMaze$Garden" "walls" "J" ∈ wz_X0_init := List.mem_of_getElem? (i := 11) rfl
theorem wd_X0_init_11 : Cond.fieldLink RX0 29 "HedgeMaze$Garden" "isNear" "Z" ∈ wz_X0_init := List.mem_of_getElem? (i := 12) rfl
theorem wd_X0_init_12 : Cond.fieldLink RX0 33 "HedgeMaze$Garden" "letterCell" "I" ∈ wz_X0_init := List.mem_of_getElem? (i := 13) rfl
theorem wd_X0_init_13 : Cond.fieldLink RX0 36 "HedgeMaze$Garden" "gateCount" "I" ∈ wz_X0_init := List.mem_of_getElem? (i := 14) rfl
theorem wd_X0_init_14 : Cond.arrayClass .int ∈ wz_X0_init := List.mem_of_getElem? (i := 15) rfl
theorem wd_X0_init_15 : Cond.fieldLink RX0 39 "HedgeMaze$Garden" "gates" "[I" ∈ wz_X0_init := List.mem_of_getElem? (i := 16) rfl
theorem wd_X0_init_16 : Cond.fieldLink RX0 43 "HedgeMaze$Garden" "guestCount" "I" ∈ wz_X0_init := List.mem_of_getElem? (i := 17) rfl
theorem wd_X0_init_17 : Cond.fieldLink RX0 46 "HedgeMaze$Garden" "guests" "[I" ∈ wz_X0_init := List.mem_of_getElem? (i := 18) rfl
theorem wd_X0_init_18 : Cond.fieldLink RX0 49 "HedgeMaze$Garden" "goneCount" "I" ∈ wz_X0_init := List.mem_of_getElem? (i := 19) rfl
theorem wd_X0_init_19 : Cond.fieldLink RX0 52 "HedgeMaze$Garden" "goneNights" "[I" ∈ wz_X0_init := List.mem_of_getElem? (i := 20) rfl
theorem in_X0_init_X3 : ∀ w ∈ wsX30, w ∈ wz_X0_init := fun _ h => List.mem_cons_of_mem _ (List.mem_append_left _ (List.mem_append_right _ h))
theorem in_X0_init_X0 : ∀ w ∈ wsX00, w ∈ wz_X0_init := fun _ h => List.mem_cons_of_mem _ (List.mem_append_right _ h)
set_option maxRecDepth 20000 in
theorem g_X0_init_X3_init_n11 : GoodIn wz_X0_init wz_X3_init := goodIn_r _ [21, 22, 2, 3, 23, 24, 25, 26, 27, 15, 28, 29, 30, 31, 32, 33, 34, 35, 36, 37, 38, 39, 40, 41] rfl (by decide +kernel)
set_option maxHeartbeats 4000000 in
set_option maxRecDepth 100000 in
theorem c_X0_init (l : Launch) (dC : Nat → ClassId) (dI : Nat → Nat → Nat) (sz : Nat) (gd : Nat)  : Met l yX0_init wz_X0_init ({ frames := 2, cells := 8, slots := 337, locals := 50 }) (va_Pc [.ref gd] (fun U => U.heap.size = sz ∧ va_P (dC, dI) vwCl [(gd, .inr (0, [.null, .int 0, .long 0, .long 0, .int 0, .int 0, .int 0, .null, .int 0, .null, .int 0, .null]))] U.heap ∧ va_K (dC, dI) vwCl [] U ∧ va_D (fun _ => True) [(gd, .inr (0, [.null, .int 0, .long 0, .long 0, .int 0, .int 0, .int 0, .null, .int 0, .null, .int 0, .null]))] ∧ Kx U)) (va_Qv (fun (u : Nat × Nat × Nat × Nat × Nat × Nat × Nat × Nat × ClassId × ClassId × ClassId × ClassId × ClassId × ClassId × ClassId) => True) (fun (u : Nat × Nat × Nat × Nat × Nat × Nat × Nat × Nat × ClassId × ClassId × ClassId × ClassId × ClassId × ClassId × ClassId) (t : State) => va_P (dC, dI) vwCl [(gd, .inr (0, [.ref u.1, .int 0, .long 0, .long 0, .int 0, .int (-1), .int 0, .ref u.2.1, .int 0, .ref u.2.2.1, .int 0, .ref u.2.2.2.1])), (u.2.1, .inl (u.2.2.2.2.2.2.2.2.1, 4, .inl (fun _ => 0))), (u.2.2.1, .inl (u.2.2.2.2.2.2.2.2.2.1, 5, .inl (fun _ => 0))), (u.2.2.2.1, .inl (u.2.2.2.2.2.2.2.2.2.2.1, 99, .inl (fun _ => 0))), (u.1, .inr (3, [.int 0, .int 0, .int 0, .int 0, .long 0, .ref u.2.2.2.2.1, .ref u.2.2.2.2.2.1, .ref u.2.2.2.2.2.2.1, .ref u.2.2.2.2.2.2.2.1])), (u.2.2.2.2.1, .inl (u.2.2.2.2.2.2.2.2.2.2.2.1, 40, .inl (fun _ => 0))), (u.2.2.2.2.2.1, .inl (u.2.2.2.2.2.2.2.2.2.2.2.2.1, 40, .inl (fun _ => 0))), (u.2.2.2.2.2.2.1, .inl (u.2.2.2.2.2.2.2.2.2.2.2.2.2.1, 40, .inr (.inl (fun _ => 0)))), (u.2.2.2.2.2.2.2.1, .inl (u.2.2.2.2.2.2.2.2.2.2.2.2.2.2, 100, .inl (fun _ => 0)))] t.heap ∧ va_K (dC, dI) vwCl [(u.2.2.2.2.2.2.2.2.1, .int), (u.2.2.2.2.2.2.2.2.2.1, .int), (u.2.2.2.2.2.2.2.2.2.2.1, .int), (u.2.2.2.2.2.2.2.2.2.2.2.1, .int), (u.2.2.2.2.2.2.2.2.2.2.2.2.1, .int), (u.2.2.2.2.2.2.2.2.2.2.2.2.2.1, .long), (u.2.2.2.2.2.2.2.2.2.2.2.2.2.2, .int)] t ∧ va_D (va_A [(gd, .inr (0, [.null, .int 0, .long 0, .long 0, .int 0, .int 0, .int 0, .null, .int 0, .null, .int 0, .null]))] sz) [(gd, .inr (0, [.ref u.1, .int 0, .long 0, .long 0, .int 0, .int (-1), .int 0, .ref u.2.1, .int 0, .ref u.2.2.1, .int 0, .ref u.2.2.2.1])), (u.2.1, .inl (u.2.2.2.2.2.2.2.2.1, 4, .inl (fun _ => 0))), (u.2.2.1, .inl (u.2.2.2.2.2.2.2.2.2.1, 5, .inl (fun _ => 0))), (u.2.2.2.1, .inl (u.2.2.2.2.2.2.2.2.2.2.1, 99, .inl (fun _ => 0))), (u.1, .inr (3, [.int 0, .int 0, .int 0, .int 0, .long 0, .ref u.2.2.2.2.1, .ref u.2.2.2.2.2.1, .ref u.2.2.2.2.2.2.1, .ref u.2.2.2.2.2.2.2.1])), (u.2.2.2.2.1, .inl (u.2.2.2.2.2.2.2.2.2.2.2.1, 40, .inl (fun _ => 0))), (u.2.2.2.2.2.1, .inl (u.2.2.2.2.2.2.2.2.2.2.2.2.1, 40, .inl (fun _ => 0))), (u.2.2.2.2.2.2.1, .inl (u.2.2.2.2.2.2.2.2.2.2.2.2.2.1, 40, .inr (.inl (fun _ => 0)))), (u.2.2.2.2.2.2.2.1, .inl (u.2.2.2.2.2.2.2.2.2.2.2.2.2.2, 100, .inl (fun _ => 0)))]) (va_A [(gd, .inr (0, [.null, .int 0, .long 0, .long 0, .int 0, .int 0, .int 0, .null, .int 0, .null, .int 0, .null]))] sz)) 8 337 (va_A [(gd, .inr (0, [.null, .int 0, .long 0, .long 0, .int 0, .int 0, .int 0, .null, .int 0, .null, .int 0, .null]))] sz) := by
  refine Met.ofW (cc := cX0_init) (maxL := 1) (ret := none) (by decide) rfl ?_
  intro p e s m args below meth c s₁ B hml hv
  obtain ⟨rfl, hsz, hP, hK, hD0, hE0⟩ := hv
  have hx := B.exec
  have hb := B.bytes
  have hr := B.returns
  have hts := atoms_spec (ws := wz_X0_init) B.pre
  have hown : s.vm.findClass RX0 = some m.cls := findClass_of_methodNamed B.named
  have hlocks := B.notSynchronized
  have hin : meth.name = "<init>" := (name_of_methodNamed B.named B.method).1
  subst hsz
  have hD := hD0.self (sz := s.heap.size)
  generalize hAe : va_A [(gd, .inr (0, [.null, .int 0, .long 0, .long 0, .int 0, .int 0, .int 0, .null, .int 0, .null, .int 0, .null]))] s.heap.size = A at hD ⊢
  have hA : ∀ q : Nat, s.heap.size ≤ q → A q := fun q h => by rw [← hAe]; exact Or.inr h
  have hS : va_S A s.heap s.heap [] := va_S.rf
  have hP : va_P (dC, dI) vwCl [(gd, .inr (0, [.null, .int 0, .long 0, .long 0, .int 0, .int 0, .int 0, .null, .int 0, .null, .int 0, .null]))] s.heap := hP
  have hl := lv_entry ([.ref gd]) (n := 1) (Nat.le_of_ble_eq_true rfl)
  rw [lg_entry_eq]
  generalize (lg_sl ([.ref gd]) ++ List.replicate (1 - (lg_sl ([.ref gd])).length) Slot.unset).toArray = ls at hl ⊢
  have hl : lv_has ls 1 [(0, .ref gd)] := hl
  refine lv_aload_n hx hb dX0_init_0 rfl (lv_at hl 0 rfl) ?_
  refine W.objInit hx hb hown (hts _ wd_X0_init_0) (hts _ wd_X0_init_1) (hts _ wd_X0_init_2) rfl (by rw [hml]; exact hl.1) rfl dX0_init_1 (Nat.le_of_ble_eq_true rfl) (Nat.le_of_ble_eq_true rfl) ?_
  refine W.eq (g2 := F0 m 4 ls []) rfl ?_
  refine lv_aload_n hx hb dX0_init_4 rfl (lv_at hl 0 rfl) ?_
  refine va_new (ci := 3) (fs := [.int 0, .int 0, .int 0, .int 0, .long 0, .null, .null, .null, .null]) (C := RX3) (T := TX3) (N := 9) hx hb hts in_X0_init_X3 tyX3 tyX3_ok hown (hts _ wd_X0_init_3) (hts _ wd_X0_init_4) (hts _ wd_X0_init_5) hK hP hD hS hA rfl (fun j hj => by rcases (show j = 0 ∨ j = 1 ∨ j = 2 ∨ j = 3 ∨ j = 4 ∨ j = 5 ∨ j = 6 ∨ j = 7 ∨ j = 8 by omega) with rfl | rfl | rfl | rfl | rfl | rfl | rfl | rfl | rfl <;> rfl) (Nat.le_of_ble_eq_true rfl) (Nat.le_of_ble_eq_true rfl) dX0_init_5 (fun q_1 H hP hD hS => ?_)
  have hP : va_P (dC, dI) vwCl [(gd, .inr (0, [.null, .int 0, .long 0, .long 0, .int 0, .int 0, .int 0, .null, .int 0, .null, .int 0, .null])), (q_1, .inr (3, [.int 0, .int 0, .int 0, .int 0, .long 0, .null, .null, .null, .null]))] H := hP
  have hD : va_D A [(gd, .inr (0, [.null, .int 0, .long 0, .long 0, .int 0, .int 0, .int 0, .null, .int 0, .null, .int 0, .null])), (q_1, .inr (3, [.int 0, .int 0, .int 0, .int 0, .long 0, .null, .null, .null, .null]))] := hD
  refine W.widen (k := 1) (n := 9) (by omega) (by omega) ?_
  refine lv_dup hx hb dX0_init_8 rfl ?_
  have hPc := hP.sub (ws' := [(q_1, .inr (3, [.int 0, .int 0, .int 0, .int 0, .long 0, .null, .null, .null, .null]))]) [1] rfl
  have hDc := hD.sub (ws' := [(q_1, .inr (3, [.int 0, .int 0, .int 0, .int 0, .long 0, .null, .null, .null, .null]))]) [1] (by decide) rfl
  have hKc := hK.sub (tys' := []) [] rfl
  have hFc := va_free (wc := [(q_1, .inr (3, [.int 0, .int 0, .int 0, .int 0, .long 0, .null, .null, .null, .null]))]) hD hS hA [1] rfl
  refine va_callv (va_runIN (As := []) (rest := [.ref q_1, .ref gd]) ⟨hx, hb, hml, hown, hts⟩ (c_X3_init l dC dI H.size q_1 ) ⟨va_cnB 0 hts g_X0_init_X3_init_n11 rfl rfl rfl hE0.2.2.1 (hts _ wd_X0_init_5) (by decide +kernel) ⟨Nat.le_of_ble_eq_true rfl, Nat.le_of_ble_eq_true rfl⟩, rfl, (hts _ wd_X0_init_6)⟩ ⟨fun a U g mk q => by obtain ⟨q0, q1, qP, qK, qD⟩ := q; exact ⟨q0, q1, qP, va_K.moved (u := U) (U := U.calling g mk a) (Vm.Alike.refl U.vm) qK, qD⟩, fun U hU hW => ⟨rfl, by rw [hU], by rw [hU]; exact hPc, va_K.moved hW.alike hKc, hDc.weaken (fun _ _ _ _ => trivial)⟩⟩ rfl rfl hl.1 rfl (lv_room (Nat.le_of_ble_eq_true rfl)) dX0_init_9 ⟨Nat.le_of_ble_eq_true rfl, Nat.le_of_ble_eq_true rfl⟩) hS (fun q _ h => hFc q h) hFc (fun u t H1 locs ht hvm hw_2 hB hz1 hk1 hS => ?_)
  obtain ⟨plf_3, plo_4, plb_5, pla_6, plkf_7, plko_8, plkb_9, plka_10⟩ := u
  obtain ⟨hP1, hK1, hD1⟩ := hB
  have hP1 : va_P (dC, dI) vwCl [(q_1, .inr (3, [.int 0, .int 0, .int 0, .int 0, .long 0, .ref plf_3, .ref plo_4, .ref plb_5, .ref pla_6])), (plf_3, .inl (plkf_7, 40, .inl (fun _ => 0))), (plo_4, .inl (plko_8, 40, .inl (fun _ => 0))), (plb_5, .inl (plkb_9, 40, .inr (.inl (fun _ => 0)))), (pla_6, .inl (plka_10, 100, .inl (fun _ => 0)))] t.heap := hP1
  rw [ht] at hP1
  have hK1 : va_K (dC, dI) vwCl [(plkf_7, .int), (plko_8, .int), (plkb_9, .long), (plka_10, .int)] s := va_K.moved hvm.symm hK1
  try dsimp only at hw_2
  obtain ⟨hP, hD⟩ := va_join (wr := [(gd, .inr (0, [.null, .int 0, .long 0, .long 0, .int 0, .int 0, .int 0, .null, .int 0, .null, .int 0, .null]))]) (w1 := [(q_1, .inr (3, [.int 0, .int 0, .int 0, .int 0, .long 0, .ref plf_3, .ref plo_4, .ref plb_5, .ref pla_6])), (plf_3, .inl (plkf_7, 40, .inl (fun _ => 0))), (plo_4, .inl (plko_8, 40, .inl (fun _ => 0))), (plb_5, .inl (plkb_9, 40, .inr (.inl (fun _ => 0)))), (pla_6, .inl (plka_10, 100, .inl (fun _ => 0)))]) hP hD [1] [0] rfl rfl (by decide) (by decide) hk1 hFc hP1 hD1
  generalize H1 = H at hP hS ⊢
  have hK := hK.app hK1
  have hP : va_P (dC, dI) vwCl [(gd, .inr (0, [.null, .int 0, .long 0, .long 0, .int 0, .int 0, .int 0, .null, .int 0, .null, .int 0, .null])), (q_1, .inr (3, [.int 0, .int 0, .int 0, .int 0, .long 0, .ref plf_3, .ref plo_4, .ref plb_5, .ref pla_6])), (plf_3, .inl (plkf_7, 40, .inl (fun _ => 0))), (plo_4, .inl (plko_8, 40, .inl (fun _ => 0))), (plb_5, .inl (plkb_9, 40, .inr (.inl (fun _ => 0)))), (pla_6, .inl (plka_10, 100, .inl (fun _ => 0)))] H := hP
  have hD : va_D A [(gd, .inr (0, [.null, .int 0, .long 0, .long 0, .int 0, .int 0, .int 0, .null, .int 0, .null, .int 0, .null])), (q_1, .inr (3, [.int 0, .int 0, .int 0, .int 0, .long 0, .ref plf_3, .ref plo_4, .ref plb_5, .ref pla_6])), (plf_3, .inl (plkf_7, 40, .inl (fun _ => 0))), (plo_4, .inl (plko_8, 40, .inl (fun _ => 0))), (plb_5, .inl (plkb_9, 40, .inr (.inl (fun _ => 0)))), (pla_6, .inl (plka_10, 100, .inl (fun _ => 0)))] := hD
  have hK : va_K (dC, dI) vwCl [(plkf_7, .int), (plko_8, .int), (plkb_9, .long), (plka_10, .int)] s := hK
  refine W.widen (k := 5) (n := 229) (by omega) (by omega) ?_
  refine va_putF (D := (dC, dI)) (ci := 0) (v := .ref q_1) (ty := .object "HedgeMaze$Plan") (C := RX0) (T := TX0) (N := 12) hx hb hts in_X0_init_X0 tyX0 tyX0_ok nmX0 hown hK hP hD hS 0 rfl rfl 0 (by decide) (hts _ wd_X0_init_7) (fun _ h9 => h9) rfl hin rfl (by decide +kernel) rfl rfl (Nat.le_of_ble_eq_true rfl) dX0_init_12 (fun H locs hP hD hS => ?_)
  have hP : va_P (dC, dI) vwCl [(gd, .inr (0, [.ref q_1, .int 0, .long 0, .long 0, .int 0, .int 0, .int 0, .null, .int 0, .null, .int 0, .null])), (q_1, .inr (3, [.int 0, .int 0, .int 0, .int 0, .long 0, .ref plf_3, .ref plo_4, .ref plb_5, .ref pla_6])), (plf_3, .inl (plkf_7, 40, .inl (fun _ => 0))), (plo_4, .inl (plko_8, 40, .inl (fun _ => 0))), (plb_5, .inl (plkb_9, 40, .inr (.inl (fun _ => 0)))), (pla_6, .inl (plka_10, 100, .inl (fun _ => 0)))] H := hP
  have hD : va_D A [(gd, .inr (0, [.ref q_1, .int 0, .long 0, .long 0, .int 0, .int 0, .int 0, .null, .int 0, .null, .int 0, .null])), (q_1, .inr (3, [.int 0, .int 0, .int 0, .int 0, .long 0, .ref plf_3, .ref plo_4, .ref plb_5, .ref pla_6])), (plf_3, .inl (plkf_7, 40, .inl (fun _ => 0))), (plo_4, .inl (plko_8, 40, .inl (fun _ => 0))), (plb_5, .inl (plkb_9, 40, .inr (.inl (fun _ => 0)))), (pla_6, .inl (plka_10, 100, .inl (fun _ => 0)))] := hD
  refine lv_aload_n hx hb dX0_init_15 rfl (lv_at hl 0 rfl) ?_
  refine lv_iconst (v := 0) hx hb dX0_init_16 (by decide) ?_
  refine va_put (D := (dC, dI)) (ci := 0) (v := .int 0) (ty := .int) (C := RX0) (T := TX0) (N := 12) hx hb hts in_X0_init_X0 tyX0 tyX0_ok nmX0 hown hK hP hD hS 0 rfl rfl 1 (by decide) (hts _ wd_X0_init_8) (fun _ h9 => h9) rfl (by decide +kernel) rfl rfl (Nat.le_of_ble_eq_true rfl) dX0_init_17 (fun H locs hP hD hS => ?_)
  have hP : va_P (dC, dI) vwCl [(gd, .inr (0, [.ref q_1, .int 0, .long 0, .long 0, .int 0, .int 0, .int 0, .null, .int 0, .null, .int 0, .null])), (q_1, .inr (3, [.int 0, .int 0, .int 0, .int 0, .long 0, .ref plf_3, .ref plo_4, .ref plb_5, .ref pla_6])), (plf_3, .inl (plkf_7, 40, .inl (fun _ => 0))), (plo_4, .inl (plko_8, 40, .inl (fun _ => 0))), (plb_5, .inl (plkb_9, 40, .inr (.inl (fun _ => 0)))), (pla_6, .inl (plka_10, 100, .inl (fun _ => 0)))] H := hP
  have hD : va_D A [(gd, .inr (0, [.ref q_1, .int 0, .long 0, .long 0, .int 0, .int 0, .int 0, .null, .int 0, .null, .int 0, .null])), (q_1, .inr (3, [.int 0, .int 0, .int 0, .int 0, .long 0, .ref plf_3, .ref plo_4, .ref plb_5, .ref pla_6])), (plf_3, .inl (plkf_7, 40, .inl (fun _ => 0))), (plo_4, .inl (plko_8, 40, .inl (fun _ => 0))), (plb_5, .inl (plkb_9, 40, .inr (.inl (fun _ => 0)))), (pla_6, .inl (plka_10, 100, .inl (fun _ => 0)))] := hD
  refine lv_aload_n hx hb dX0_init_20 rfl (lv_at hl 0 rfl) ?_
  refine lv_lconst (v := 0) hx hb dX0_init_21 (by decide) ?_
  refine va_put (D := (dC, dI)) (ci := 0) (v := .long 0) (ty := .long) (C := RX0) (T := TX0) (N := 12) hx hb hts in_X0_init_X0 tyX0 tyX0_ok nmX0 hown hK hP hD hS 0 rfl rfl 2 (by decide) (hts _ wd_X0_init_9) (fun _ h9 => h9) rfl (by decide +kernel) rfl rfl (Nat.le_of_ble_eq_true rfl) dX0_init_22 (fun H locs hP hD hS => ?_)
  have hP : va_P (dC, dI) vwCl [(gd, .inr (0, [.ref q_1, .int 0, .long 0, .long 0, .int 0, .int 0, .int 0, .null, .int 0, .null, .int 0, .null])), (q_1, .inr (3, [.int 0, .int 0, .int 0, .int 0, .long 0, .ref plf_3, .ref plo_4, .ref plb_5, .ref pla_6])), (plf_3, .inl (plkf_7, 40, .inl (fun _ => 0))), (plo_4, .inl (plko_8, 40, .inl (fun _ => 0))), (plb_5, .inl (plkb_9, 40, .inr (.inl (fun _ => 0)))), (pla_6, .inl (plka_10, 100, .inl (fun _ => 0)))] H := hP
  have hD : va_D A [(gd, .inr (0, [.ref q_1, .int 0, .long 0, .long 0, .int 0, .int 0, .int 0, .null, .int 0, .null, .int 0, .null])), (q_1, .inr (3, [.int 0, .int 0, .int 0, .int 0, .long 0, .ref plf_3, .ref plo_4, .ref plb_5, .ref pla_6])), (plf_3, .inl (plkf_7, 40, .inl (fun _ => 0))), (plo_4, .inl (plko_8, 40, .inl (fun _ => 0))), (plb_5, .inl (plkb_9, 40, .inr (.inl (fun _ => 0)))), (pla_6, .inl (plka_10, 100, .inl (fun _ => 0)))] := hD
  refine lv_aload_n hx hb dX0_init_25 rfl (lv_at hl 0 rfl) ?_
  refine lv_lconst (v := 0) hx hb dX0_init_26 (by decide) ?_
  refine va_put (D := (dC, dI)) (ci := 0) (v := .long 0) (ty := .long) (C := RX0) (T := TX0) (N := 12) hx hb hts in_X0_init_X0 tyX0 tyX0_ok nmX0 hown hK hP hD hS 0 rfl rfl 3 (by decide) (hts _ wd_X0_init_10) (fun _ h9 => h9) rfl (by decide +kernel) rfl rfl (Nat.le_of_ble_eq_true rfl) dX0_init_27 (fun H locs hP hD hS => ?_)
  have hP : va_P (dC, dI) vwCl [(gd, .inr (0, [.ref q_1, .int 0, .long 0, .long 0, .int 0, .int 0, .int 0, .null, .int 0, .null, .int 0, .null])), (q_1, .inr (3, [.int 0, .int 0, .int 0, .int 0, .long 0, .ref plf_3, .ref plo_4, .ref plb_5, .ref pla_6])), (plf_3, .inl (plkf_7, 40, .inl (fun _ => 0))), (plo_4, .inl (plko_8, 40, .inl (fun _ => 0))), (plb_5, .inl (plkb_9, 40, .inr (.inl (fun _ => 0)))), (pla_6, .inl (plka_10, 100, .inl (fun _ => 0)))] H := hP
  have hD : va_D A [(gd, .inr (0, [.ref q_1, .int 0, .long 0, .long 0, .int 0, .int 0, .int 0, .null, .int 0, .null, .int 0, .null])), (q_1, .inr (3, [.int 0, .int 0, .int 0, .int 0, .long 0, .ref plf_3, .ref plo_4, .ref plb_5, .ref pla_6])), (plf_3, .inl (plkf_7, 40, .inl (fun _ => 0))), (plo_4, .inl (plko_8, 40, .inl (fun _ => 0))), (plb_5, .inl (plkb_9, 40, .inr (.inl (fun _ => 0)))), (pla_6, .inl (plka_10, 100, .inl (fun _ => 0)))] := hD
  refine lv_aload_n hx hb dX0_init_30 rfl (lv_at hl 0 rfl) ?_
  refine lv_iconst (v := 0) hx hb dX0_init_31 (by decide) ?_
  refine va_put (D := (dC, dI)) (ci := 0) (v := .int 0) (ty := .boolean) (C := RX0) (T := TX0) (N := 12) hx hb hts in_X0_init_X0 tyX0 tyX0_ok nmX0 hown hK hP hD hS 0 rfl rfl 4 (by decide) (hts _ wd_X0_init_11) (fun _ h9 => h9) rfl (by decide +kernel) (by decide) (by decide) (Nat.le_of_ble_eq_true rfl) dX0_init_32 (fun H locs hP hD hS => ?_)
  have hP : va_P (dC, dI) vwCl [(gd, .inr (0, [.ref q_1, .int 0, .long 0, .long 0, .int 0, .int 0, .int 0, .null, .int 0, .null, .int 0, .null])), (q_1, .inr (3, [.int 0, .int 0, .int 0, .int 0, .long 0, .ref plf_3, .ref plo_4, .ref plb_5, .ref pla_6])), (plf_3, .inl (plkf_7, 40, .inl (fun _ => 0))), (plo_4, .inl (plko_8, 40, .inl (fun _ => 0))), (plb_5, .inl (plkb_9, 40, .inr (.inl (fun _ => 0)))), (pla_6, .inl (plka_10, 100, .inl (fun _ => 0)))] H := hP
  have hD : va_D A [(gd, .inr (0, [.ref q_1, .int 0, .long 0, .long 0, .int 0, .int 0, .int 0, .null, .int 0, .null, .int 0, .null])), (q_1, .inr (3, [.int 0, .int 0, .int 0, .int 0, .long 0, .ref plf_3, .ref plo_4, .ref plb_5, .ref pla_6])), (plf_3, .inl (plkf_7, 40, .inl (fun _ => 0))), (plo_4, .inl (plko_8, 40, .inl (fun _ => 0))), (plb_5, .inl (plkb_9, 40, .inr (.inl (fun _ => 0)))), (pla_6, .inl (plka_10, 100, .inl (fun _ => 0)))] := hD
  refine lv_aload_n hx hb dX0_init_35 rfl (lv_at hl 0 rfl) ?_
  refine lv_iconst (v := -1) hx hb dX0_init_36 (by decide) ?_
  refine va_put (D := (dC, dI)) (ci := 0) (v := .int (-1)) (ty := .int) (C := RX0) (T := TX0) (N := 12) hx hb hts in_X0_init_X0 tyX0 tyX0_ok nmX0 hown hK hP hD hS 0 rfl rfl 5 (by decide) (hts _ wd_X0_init_12) (fun _ h9 => h9) rfl (by decide +kernel) rfl rfl (Nat.le_of_ble_eq_true rfl) dX0_init_37 (fun H locs hP hD hS => ?_)
  have hP : va_P (dC, dI) vwCl [(gd, .inr (0, [.ref q_1, .int 0, .long 0, .long 0, .int 0, .int (-1), .int 0, .null, .int 0, .null, .int 0, .null])), (q_1, .inr (3, [.int 0, .int 0, .int 0, .int 0, .long 0, .ref plf_3, .ref plo_4, .ref plb_5, .ref pla_6])), (plf_3, .inl (plkf_7, 40, .inl (fun _ => 0))), (plo_4, .inl (plko_8, 40, .inl (fun _ => 0))), (plb_5, .inl (plkb_9, 40, .inr (.inl (fun _ => 0)))), (pla_6, .inl (plka_10, 100, .inl (fun _ => 0)))] H := hP
  have hD : va_D A [(gd, .inr (0, [.ref q_1, .int 0, .long 0, .long 0, .int 0, .int (-1), .int 0, .null, .int 0, .null, .int 0, .null])), (q_1, .inr (3, [.int 0, .int 0, .int 0, .int 0, .long 0, .ref plf_3, .ref plo_4, .ref plb_5, .ref pla_6])), (plf_3, .inl (plkf_7, 40, .inl (fun _ => 0))), (plo_4, .inl (plko_8, 40, .inl (fun _ => 0))), (plb_5, .inl (plkb_9, 40, .inr (.inl (fun _ => 0)))), (pla_6, .inl (plka_10, 100, .inl (fun _ => 0)))] := hD
  refine lv_aload_n hx hb dX0_init_40 rfl (lv_at hl 0 rfl) ?_
  refine lv_iconst (v := 0) hx hb dX0_init_41 (by decide) ?_
  refine va_put (D := (dC, dI)) (ci := 0) (v := .int 0) (ty := .int) (C := RX0) (T := TX0) (N := 12) hx hb hts in_X0_init_X0 tyX0 tyX0_ok nmX0 hown hK hP hD hS 0 rfl rfl 6 (by decide) (hts _ wd_X0_init_13) (fun _ h9 => h9) rfl (by decide +kernel) rfl rfl (Nat.le_of_ble_eq_true rfl) dX0_init_42 (fun H locs hP hD hS => ?_)
  have hP : va_P (dC, dI) vwCl [(gd, .inr (0, [.ref q_1, .int 0, .long 0, .long 0, .int 0, .int (-1), .int 0, .null, .int 0, .null, .int 0, .null])), (q_1, .inr (3, [.int 0, .int 0, .int 0, .int 0, .long 0, .ref plf_3, .ref plo_4, .ref plb_5, .ref pla_6])), (plf_3, .inl (plkf_7, 40, .inl (fun _ => 0))), (plo_4, .inl (plko_8, 40, .inl (fun _ => 0))), (plb_5, .inl (plkb_9, 40, .inr (.inl (fun _ => 0)))), (pla_6, .inl (plka_10, 100, .inl (fun _ => 0)))] H := hP
  have hD : va_D A [(gd, .inr (0, [.ref q_1, .int 0, .long 0, .long 0, .int 0, .int (-1), .int 0, .null, .int 0, .null, .int 0, .null])), (q_1, .inr (3, [.int 0, .int 0, .int 0, .int 0, .long 0, .ref plf_3, .ref plo_4, .ref plb_5, .ref pla_6])), (plf_3, .inl (plkf_7, 40, .inl (fun _ => 0))), (plo_4, .inl (plko_8, 40, .inl (fun _ => 0))), (plb_5, .inl (plkb_9, 40, .inr (.inl (fun _ => 0)))), (pla_6, .inl (plka_10, 100, .inl (fun _ => 0)))] := hD
  refine lv_aload_n hx hb dX0_init_45 rfl (lv_at hl 0 rfl) ?_
  refine lv_iconst (v := 4) hx hb dX0_init_46 (by decide) ?_
  refine va_newa (atype := .int) (ty := .int) (N' := 4) (a0 := (4, .inl (fun _ => 0))) hx hb (hts _ wd_X0_init_14) rfl hK hP hD hS hA (fun _ => rfl) (by decide) (by decide) (by decide) (Nat.le_of_ble_eq_true rfl) (Nat.le_of_ble_eq_true rfl) dX0_init_47 (fun q_11 cA_12 H hK hP hD hS => ?_)
  have hP : va_P (dC, dI) vwCl [(gd, .inr (0, [.ref q_1, .int 0, .long 0, .long 0, .int 0, .int (-1), .int 0, .null, .int 0, .null, .int 0, .null])), (q_1, .inr (3, [.int 0, .int 0, .int 0, .int 0, .long 0, .ref plf_3, .ref plo_4, .ref plb_5, .ref pla_6])), (plf_3, .inl (plkf_7, 40, .inl (fun _ => 0))), (plo_4, .inl (plko_8, 40, .inl (fun _ => 0))), (plb_5, .inl (plkb_9, 40, .inr (.inl (fun _ => 0)))), (pla_6, .inl (plka_10, 100, .inl (fun _ => 0))), (q_11, .inl (cA_12, 4, .inl (fun _ => 0)))] H := hP
  have hD : va_D A [(gd, .inr (0, [.ref q_1, .int 0, .long 0, .long 0, .int 0, .int (-1), .int 0, .null, .int 0, .null, .int 0, .null])), (q_1, .inr (3, [.int 0, .int 0, .int 0, .int 0, .long 0, .ref plf_3, .ref plo_4, .ref plb_5, .ref pla_6])), (plf_3, .inl (plkf_7, 40, .inl (fun _ => 0))), (plo_4, .inl (plko_8, 40, .inl (fun _ => 0))), (plb_5, .inl (plkb_9, 40, .inr (.inl (fun _ => 0)))), (pla_6, .inl (plka_10, 100, .inl (fun _ => 0))), (q_11, .inl (cA_12, 4, .inl (fun _ => 0)))] := hD
  have hK : va_K (dC, dI) vwCl [(plkf_7, .int), (plko_8, .int), (plkb_9, .long), (plka_10, .int), (cA_12, .int)] s := hK
  refine W.widen (k := 6) (n := 233) (by omega) (by omega) ?_
  refine va_putF (D := (dC, dI)) (ci := 0) (v := .ref q_11) (ty := .array .int) (C := RX0) (T := TX0) (N := 12) hx hb hts in_X0_init_X0 tyX0 tyX0_ok nmX0 hown hK hP hD hS 0 rfl rfl 7 (by decide) (hts _ wd_X0_init_15) (fun _ h9 => h9) rfl hin rfl (by decide +kernel) rfl rfl (Nat.le_of_ble_eq_true rfl) dX0_init_49 (fun H locs hP hD hS => ?_)
  have hP : va_P (dC, dI) vwCl [(gd, .inr (0, [.ref q_1, .int 0, .long 0, .long 0, .int 0, .int (-1), .int 0, .ref q_11, .int 0, .null, .int 0, .null])), (q_1, .inr (3, [.int 0, .int 0, .int 0, .int 0, .long 0, .ref plf_3, .ref plo_4, .ref plb_5, .ref pla_6])), (plf_3, .inl (plkf_7, 40, .inl (fun _ => 0))), (plo_4, .inl (plko_8, 40, .inl (fun _ => 0))), (plb_5, .inl (plkb_9, 40, .inr (.inl (fun _ => 0)))), (pla_6, .inl (plka_10, 100, .inl (fun _ => 0))), (q_11, .inl (cA_12, 4, .inl (fun _ => 0)))] H := hP
  have hD : va_D A [(gd, .inr (0, [.ref q_1, .int 0, .long 0, .long 0, .int 0, .int (-1), .int 0, .ref q_11, .int 0, .null, .int 0, .null])), (q_1, .inr (3, [.int 0, .int 0, .int 0, .int 0, .long 0, .ref plf_3, .ref plo_4, .ref plb_5, .ref pla_6])), (plf_3, .inl (plkf_7, 40, .inl (fun _ => 0))), (plo_4, .inl (plko_8, 40, .inl (fun _ => 0))), (plb_5, .inl (plkb_9, 40, .inr (.inl (fun _ => 0)))), (pla_6, .inl (plka_10, 100, .inl (fun _ => 0))), (q_11, .inl (cA_12, 4, .inl (fun _ => 0)))] := hD
  refine lv_aload_n hx hb dX0_init_52 rfl (lv_at hl 0 rfl) ?_
  refine lv_iconst (v := 0) hx hb dX0_init_53 (by decide) ?_
  refine va_put (D := (dC, dI)) (ci := 0) (v := .int 0) (ty := .int) (C := RX0) (T := TX0) (N := 12) hx hb hts in_X0_init_X0 tyX0 tyX0_ok nmX0 hown hK hP hD hS 0 rfl rfl 8 (by decide) (hts _ wd_X0_init_16) (fun _ h9 => h9) rfl (by decide +kernel) rfl rfl (Nat.le_of_ble_eq_true rfl) dX0_init_54 (fun H locs hP hD hS => ?_)
  have hP : va_P (dC, dI) vwCl [(gd, .inr (0, [.ref q_1, .int 0, .long 0, .long 0, .int 0, .int (-1), .int 0, .ref q_11, .int 0, .null, .int 0, .null])), (q_1, .inr (3, [.int 0, .int 0, .int 0, .int 0, .long 0, .ref plf_3, .ref plo_4, .ref plb_5, .ref pla_6])), (plf_3, .inl (plkf_7, 40, .inl (fun _ => 0))), (plo_4, .inl (plko_8, 40, .inl (fun _ => 0))), (plb_5, .inl (plkb_9, 40, .inr (.inl (fun _ => 0)))), (pla_6, .inl (plka_10, 100, .inl (fun _ => 0))), (q_11, .inl (cA_12, 4, .inl (fun _ => 0)))] H := hP
  have hD : va_D A [(gd, .inr (0, [.ref q_1, .int 0, .long 0, .long 0, .int 0, .int (-1), .int 0, .ref q_11, .int 0, .null, .int 0, .null])), (q_1, .inr (3, [.int 0, .int 0, .int 0, .int 0, .long 0, .ref plf_3, .ref plo_4, .ref plb_5, .ref pla_6])), (plf_3, .inl (plkf_7, 40, .inl (fun _ => 0))), (plo_4, .inl (plko_8, 40, .inl (fun _ => 0))), (plb_5, .inl (plkb_9, 40, .inr (.inl (fun _ => 0)))), (pla_6, .inl (plka_10, 100, .inl (fun _ => 0))), (q_11, .inl (cA_12, 4, .inl (fun _ => 0)))] := hD
  refine lv_aload_n hx hb dX0_init_57 rfl (lv_at hl 0 rfl) ?_
  refine lv_iconst (v := 5) hx hb dX0_init_58 (by decide) ?_
  refine va_newa (atype := .int) (ty := .int) (N' := 5) (a0 := (5, .inl (fun _ => 0))) hx hb (hts _ wd_X0_init_14) rfl hK hP hD hS hA (fun _ => rfl) (by decide) (by decide) (by decide) (Nat.le_of_ble_eq_true rfl) (Nat.le_of_ble_eq_true rfl) dX0_init_59 (fun q_13 cA_14 H hK hP hD hS => ?_)
  have hP : va_P (dC, dI) vwCl [(gd, .inr (0, [.ref q_1, .int 0, .long 0, .long 0, .int 0, .int (-1), .int 0, .ref q_11, .int 0, .null, .int 0, .null])), (q_1, .inr (3, [.int 0, .int 0, .int 0, .int 0, .long 0, .ref plf_3, .ref plo_4, .ref plb_5, .ref pla_6])), (plf_3, .inl (plkf_7, 40, .inl (fun _ => 0))), (plo_4, .inl (plko_8, 40, .inl (fun _ => 0))), (plb_5, .inl (plkb_9, 40, .inr (.inl (fun _ => 0)))), (pla_6, .inl (plka_10, 100, .inl (fun _ => 0))), (q_11, .inl (cA_12, 4, .inl (fun _ => 0))), (q_13, .inl (cA_14, 5, .inl (fun _ => 0)))] H := hP
  have hD : va_D A [(gd, .inr (0, [.ref q_1, .int 0, .long 0, .long 0, .int 0, .int (-1), .int 0, .ref q_11, .int 0, .null, .int 0, .null])), (q_1, .inr (3, [.int 0, .int 0, .int 0, .int 0, .long 0, .ref plf_3, .ref plo_4, .ref plb_5, .ref pla_6])), (plf_3, .inl (plkf_7, 40, .inl (fun _ => 0))), (plo_4, .inl (plko_8, 40, .inl (fun _ => 0))), (plb_5, .inl (plkb_9, 40, .inr (.inl (fun _ => 0)))), (pla_6, .inl (plka_10, 100, .inl (fun _ => 0))), (q_11, .inl (cA_12, 4, .inl (fun _ => 0))), (q_13, .inl (cA_14, 5, .inl (fun _ => 0)))] := hD
  have hK : va_K (dC, dI) vwCl [(plkf_7, .int), (plko_8, .int), (plkb_9, .long), (plka_10, .int), (cA_12, .int), (cA_14, .int)] s := hK
  refine W.widen (k := 7) (n := 238) (by omega) (by omega) ?_
  refine va_putF (D := (dC, dI)) (ci := 0) (v := .ref q_13) (ty := .array .int) (C := RX0) (T := TX0) (N := 12) hx hb hts in_X0_init_X0 tyX0 tyX0_ok nmX0 hown hK hP hD hS 0 rfl rfl 9 (by decide) (hts _ wd_X0_init_17) (fun _ h9 => h9) rfl hin rfl (by decide +kernel) rfl rfl (Nat.le_of_ble_eq_true rfl) dX0_init_61 (fun H locs hP hD hS => ?_)
  have hP : va_P (dC, dI) vwCl [(gd, .inr (0, [.ref q_1, .int 0, .long 0, .long 0, .int 0, .int (-1), .int 0, .ref q_11, .int 0, .ref q_13, .int 0, .null])), (q_1, .inr (3, [.int 0, .int 0, .int 0, .int 0, .long 0, .ref plf_3, .ref plo_4, .ref plb_5, .ref pla_6])), (plf_3, .inl (plkf_7, 40, .inl (fun _ => 0))), (plo_4, .inl (plko_8, 40, .inl (fun _ => 0))), (plb_5, .inl (plkb_9, 40, .inr (.inl (fun _ => 0)))), (pla_6, .inl (plka_10, 100, .inl (fun _ => 0))), (q_11, .inl (cA_12, 4, .inl (fun _ => 0))), (q_13, .inl (cA_14, 5, .inl (fun _ => 0)))] H := hP
  have hD : va_D A [(gd, .inr (0, [.ref q_1, .int 0, .long 0, .long 0, .int 0, .int (-1), .int 0, .ref q_11, .int 0, .ref q_13, .int 0, .null])), (q_1, .inr (3, [.int 0, .int 0, .int 0, .int 0, .long 0, .ref plf_3, .ref plo_4, .ref plb_5, .ref pla_6])), (plf_3, .inl (plkf_7, 40, .inl (fun _ => 0))), (plo_4, .inl (plko_8, 40, .inl (fun _ => 0))), (plb_5, .inl (plkb_9, 40, .inr (.inl (fun _ => 0)))), (pla_6, .inl (plka_10, 100, .inl (fun _ => 0))), (q_11, .inl (cA_12, 4, .inl (fun _ => 0))), (q_13, .inl (cA_14, 5, .inl (fun _ => 0)))] := hD
  refine lv_aload_n hx hb dX0_init_64 rfl (lv_at hl 0 rfl) ?_
  refine lv_iconst (v := 0) hx hb dX0_init_65 (by decide) ?_
  refine va_put (D := (dC, dI)) (ci := 0) (v := .int 0) (ty := .int) (C := RX0) (T := TX0) (N := 12) hx hb hts in_X0_init_X0 tyX0 tyX0_ok nmX0 hown hK hP hD hS 0 rfl rfl 10 (by decide) (hts _ wd_X0_init_18) (fun _ h9 => h9) rfl (by decide +kernel) rfl rfl (Nat.le_of_ble_eq_true rfl) dX0_init_66 (fun H locs hP hD hS => ?_)
  have hP : va_P (dC, dI) vwCl [(gd, .inr (0, [.ref q_1, .int 0, .long 0, .long 0, .int 0, .int (-1), .int 0, .ref q_11, .int 0, .ref q_13, .int 0, .null])), (q_1, .inr (3, [.int 0, .int 0, .int 0, .int 0, .long 0, .ref plf_3, .ref plo_4, .ref plb_5, .ref pla_6])), (plf_3, .inl (plkf_7, 40, .inl (fun _ => 0))), (plo_4, .inl (plko_8, 40, .inl (fun _ => 0))), (plb_5, .inl (plkb_9, 40, .inr (.inl (fun _ => 0)))), (pla_6, .inl (plka_10, 100, .inl (fun _ => 0))), (q_11, .inl (cA_12, 4, .inl (fun _ => 0))), (q_13, .inl (cA_14, 5, .inl (fun _ => 0)))] H := hP
  have hD : va_D A [(gd, .inr (0, [.ref q_1, .int 0, .long 0, .long 0, .int 0, .int (-1), .int 0, .ref q_11, .int 0, .ref q_13, .int 0, .null])), (q_1, .inr (3, [.int 0, .int 0, .int 0, .int 0, .long 0, .ref plf_3, .ref plo_4, .ref plb_5, .ref pla_6])), (plf_3, .inl (plkf_7, 40, .inl (fun _ => 0))), (plo_4, .inl (plko_8, 40, .inl (fun _ => 0))), (plb_5, .inl (plkb_9, 40, .inr (.inl (fun _ => 0)))), (pla_6, .inl (plka_10, 100, .inl (fun _ => 0))), (q_11, .inl (cA_12, 4, .inl (fun _ => 0))), (q_13, .inl (cA_14, 5, .inl (fun _ => 0)))] := hD
  refine lv_aload_n hx hb dX0_init_69 rfl (lv_at hl 0 rfl) ?_
  refine lv_bipush (v := 99) hx hb dX0_init_70 (by decide) ?_
  refine va_newa (atype := .int) (ty := .int) (N' := 99) (a0 := (99, .inl (fun _ => 0))) hx hb (hts _ wd_X0_init_14) rfl hK hP hD hS hA (fun _ => rfl) (by decide) (by decide) (by decide) (Nat.le_of_ble_eq_true rfl) (Nat.le_of_ble_eq_true rfl) dX0_init_72 (fun q_15 cA_16 H hK hP hD hS => ?_)
  have hP : va_P (dC, dI) vwCl [(gd, .inr (0, [.ref q_1, .int 0, .long 0, .long 0, .int 0, .int (-1), .int 0, .ref q_11, .int 0, .ref q_13, .int 0, .null])), (q_1, .inr (3, [.int 0, .int 0, .int 0, .int 0, .long 0, .ref plf_3, .ref plo_4, .ref plb_5, .ref pla_6])), (plf_3, .inl (plkf_7, 40, .inl (fun _ => 0))), (plo_4, .inl (plko_8, 40, .inl (fun _ => 0))), (plb_5, .inl (plkb_9, 40, .inr (.inl (fun _ => 0)))), (pla_6, .inl (plka_10, 100, .inl (fun _ => 0))), (q_11, .inl (cA_12, 4, .inl (fun _ => 0))), (q_13, .inl (cA_14, 5, .inl (fun _ => 0))), (q_15, .inl (cA_16, 99, .inl (fun _ => 0)))] H := hP
  have hD : va_D A [(gd, .inr (0, [.ref q_1, .int 0, .long 0, .long 0, .int 0, .int (-1), .int 0, .ref q_11, .int 0, .ref q_13, .int 0, .null])), (q_1, .inr (3, [.int 0, .int 0, .int 0, .int 0, .long 0, .ref plf_3, .ref plo_4, .ref plb_5, .ref pla_6])), (plf_3, .inl (plkf_7, 40, .inl (fun _ => 0))), (plo_4, .inl (plko_8, 40, .inl (fun _ => 0))), (plb_5, .inl (plkb_9, 40, .inr (.inl (fun _ => 0)))), (pla_6, .inl (plka_10, 100, .inl (fun _ => 0))), (q_11, .inl (cA_12, 4, .inl (fun _ => 0))), (q_13, .inl (cA_14, 5, .inl (fun _ => 0))), (q_15, .inl (cA_16, 99, .inl (fun _ => 0)))] := hD
  have hK : va_K (dC, dI) vwCl [(plkf_7, .int), (plko_8, .int), (plkb_9, .long), (plka_10, .int), (cA_12, .int), (cA_14, .int), (cA_16, .int)] s := hK
  refine W.widen (k := 8) (n := 337) (by omega) (by omega) ?_
  refine va_putF (D := (dC, dI)) (ci := 0) (v := .ref q_15) (ty := .array .int) (C := RX0) (T := TX0) (N := 12) hx hb hts in_X0_init_X0 tyX0 tyX0_ok nmX0 hown hK hP hD hS 0 rfl rfl 11 (by decide) (hts _ wd_X0_init_19) (fun _ h9 => h9) rfl hin rfl (by decide +kernel) rfl rfl (Nat.le_of_ble_eq_true rfl) dX0_init_74 (fun H locs hP hD hS => ?_)
  have hP : va_P (dC, dI) vwCl [(gd, .inr (0, [.ref q_1, .int 0, .long 0, .long 0, .int 0, .int (-1), .int 0, .ref q_11, .int 0, .ref q_13, .int 0, .ref q_15])), (q_1, .inr (3, [.int 0, .int 0, .int 0, .int 0, .long 0, .ref plf_3, .ref plo_4, .ref plb_5, .ref pla_6])), (plf_3, .inl (plkf_7, 40, .inl (fun _ => 0))), (plo_4, .inl (plko_8, 40, .inl (fun _ => 0))), (plb_5, .inl (plkb_9, 40, .inr (.inl (fun _ => 0)))), (pla_6, .inl (plka_10, 100, .inl (fun _ => 0))), (q_11, .inl (cA_12, 4, .inl (fun _ => 0))), (q_13, .inl (cA_14, 5, .inl (fun _ => 0))), (q_15, .inl (cA_16, 99, .inl (fun _ => 0)))] H := hP
  have hD : va_D A [(gd, .inr (0, [.ref q_1, .int 0, .long 0, .long 0, .int 0, .int (-1), .int 0, .ref q_11, .int 0, .ref q_13, .int 0, .ref q_15])), (q_1, .inr (3, [.int 0, .int 0, .int 0, .int 0, .long 0, .ref plf_3, .ref plo_4, .ref plb_5, .ref pla_6])), (plf_3, .inl (plkf_7, 40, .inl (fun _ => 0))), (plo_4, .inl (plko_8, 40, .inl (fun _ => 0))), (plb_5, .inl (plkb_9, 40, .inr (.inl (fun _ => 0)))), (pla_6, .inl (plka_10, 100, .inl (fun _ => 0))), (q_11, .inl (cA_12, 4, .inl (fun _ => 0))), (q_13, .inl (cA_14, 5, .inl (fun _ => 0))), (q_15, .inl (cA_16, 99, .inl (fun _ => 0)))] := hD
  have hP9 := hP.sub (ws' := [(gd, .inr (0, [.ref q_1, .int 0, .long 0, .long 0, .int 0, .int (-1), .int 0, .ref q_11, .int 0, .ref q_13, .int 0, .ref q_15])), (q_11, .inl (cA_12, 4, .inl (fun _ => 0))), (q_13, .inl (cA_14, 5, .inl (fun _ => 0))), (q_15, .inl (cA_16, 99, .inl (fun _ => 0))), (q_1, .inr (3, [.int 0, .int 0, .int 0, .int 0, .long 0, .ref plf_3, .ref plo_4, .ref plb_5, .ref pla_6])), (plf_3, .inl (plkf_7, 40, .inl (fun _ => 0))), (plo_4, .inl (plko_8, 40, .inl (fun _ => 0))), (plb_5, .inl (plkb_9, 40, .inr (.inl (fun _ => 0)))), (pla_6, .inl (plka_10, 100, .inl (fun _ => 0)))]) [0, 6, 7, 8, 1, 2, 3, 4, 5] rfl
  have hD9 := hD.sub (ws' := [(gd, .inr (0, [.ref q_1, .int 0, .long 0, .long 0, .int 0, .int (-1), .int 0, .ref q_11, .int 0, .ref q_13, .int 0, .ref q_15])), (q_11, .inl (cA_12, 4, .inl (fun _ => 0))), (q_13, .inl (cA_14, 5, .inl (fun _ => 0))), (q_15, .inl (cA_16, 99, .inl (fun _ => 0))), (q_1, .inr (3, [.int 0, .int 0, .int 0, .int 0, .long 0, .ref plf_3, .ref plo_4, .ref plb_5, .ref pla_6])), (plf_3, .inl (plkf_7, 40, .inl (fun _ => 0))), (plo_4, .inl (plko_8, 40, .inl (fun _ => 0))), (plb_5, .inl (plkb_9, 40, .inr (.inl (fun _ => 0)))), (pla_6, .inl (plka_10, 100, .inl (fun _ => 0)))]) [0, 6, 7, 8, 1, 2, 3, 4, 5] (by decide) rfl
  have hK9 := hK.sub (tys' := [(cA_12, .int), (cA_14, .int), (cA_16, .int), (plkf_7, .int), (plko_8, .int), (plkb_9, .long), (plka_10, .int)]) [4, 5, 6, 0, 1, 2, 3] rfl
  refine W.widen (k := 8) (n := 337) (by omega) (by omega) ?_
  exact W.vret hx hb hr (fun t ht hW => ⟨⟨(q_1, q_11, q_13, q_15, plf_3, plo_4, plb_5, pla_6, cA_12, cA_14, cA_16, plkf_7, plko_8, plkb_9, plka_10), rfl, trivial, by rw [ht]; exact hP9, va_K.moved hW.alike hK9, hD9⟩, hS.F ht⟩) hS.2.2 dX0_init_77

theorem dX4_init_0 : decode cX4_init 0 = .ok (.aload_n 0, 1) := by decide +kernel
theorem dX4_init_1 : decode cX4_init 1 = .ok (.invokespecial 3, 3) := by decide +kernel
theorem dX4_init_4 : decode cX4_init 4 = .ok (.aload_n 0, 1) := by decide +kernel
theorem dX4_init_5 : decode cX4_init 5 = .ok (.new 9, 3) := by decide +kernel
theorem dX4_init_8 : decode cX4_init 8 = .ok (.dup, 1) := by decide +kernel
theorem dX4_init_9 : decode cX4_init 9 = .ok (.invokespecial 11, 3) := by decide +kernel
theorem dX4_init_12 : decode cX4_init 12 = .ok (.putfield 12, 3) := by decide +kernel
theorem dX4_init_15 : decode cX4_init 15 = .ok (.aload_n 0, 1) := by decide +kernel
theorem dX4_init_16 : decode cX4_init 16 = .ok (.iconst 0, 1) := by decide +kernel
theorem dX4_init_17 : decode cX4_init 17 = .ok (.putfield 18, 3) := by decide +kernel
theorem dX4_init_20 : decode cX4_init 20 = .ok (.aload_n 0, 1) := by decide +kernel
theorem dX4_init_21 : decode cX4_init 21 = .ok (.iconst (-1), 1) := by decide +kernel
theorem dX4_init_22 : decode cX4_init 22 = .ok (.putfield 22, 3) := by decide +kernel
theorem dX4_init_25 : decode cX4_init 25 = .ok (.aload_n 0, 1) := by decide +kernel
theorem dX4_init_26 : decode cX4_init 26 = .ok (.aconst_null, 1) := by decide +kernel
theorem dX4_init_27 : decode cX4_init 27 = .ok (.putfield 25, 3) := by decide +kernel
theorem dX4_init_30 : decode cX4_init 30 = .ok (.aload_n 0, 1) := by decide +kernel
theorem dX4_init_31 : decode cX4_init 31 = .ok (.iconst 0, 1) := by decide +kernel
theorem dX4_init_32 : decode cX4_init 32 = .ok (.putfield 29, 3) := by decide +kernel
theorem dX4_init_35 : decode cX4_init 35 = .ok (.aload_n 0, 1) := by decide +kernel
theorem dX4_init_36 : decode cX4_init 36 = .ok (.iconst 0, 1) := by decide +kernel
theorem dX4_init_37 : decode cX4_init 37 = .ok (.putfield 32, 3) := by decide +kernel
theorem dX4_init_40 : decode cX4_init 40 = .ok (.aload_n 0, 1) := by decide +kernel
theorem dX4_init_41 : decode cX4_init 41 = .ok (.iconst 0, 1) := by decide +kernel
theorem dX4_init_42 : decode cX4_init 42 = .ok (.putfield 35, 3) := by decide +kernel
theorem dX4_init_45 : decode cX4_init 45 = .ok (.aload_n 0, 1) := by decide +kernel
theorem dX4_init_46 : decode cX4_init 46 = .ok (.iconst 0, 1) := by decide +kernel
theorem dX4_init_47 : decode cX4_init 47 = .ok (.putfield 38, 3) := by decide +kernel
theorem dX4_init_50 : decode cX4_init 50 = .ok (.aload_n 0, 1) := by decide +kernel
theorem dX4_init_51 : decode cX4_init 51 = .ok (.iconst 0, 1) := by decide +kernel
theorem dX4_init_52 : decode cX4_init 52 = .ok (.putfield 41, 3) := by decide +kernel
theorem dX4_init_55 : decode cX4_init 55 = .ok (.aload_n 0, 1) := by decide +kernel
theorem dX4_init_56 : decode cX4_init 56 = .ok (.iconst 0, 1) := by decide +kernel
theorem dX4_init_57 : decode cX4_init 57 = .ok (.putfield 44, 3) := by decide +kernel
theorem dX4_init_60 : decode cX4_init 60 = .ok (.return_, 1) := by decide +kernel
def wz_X4_init : List Cond := .code yX4_init cX4_init 1 none :: ([Cond.methodLink RX4 3 objectInit, Cond.instanceMethod objectInit, Cond.code objectInit ⟨#[0xb1]⟩ 1 none, Cond.classLink RX4 9 RX0, Cond.instantiable RX0 12, Cond.initialized RX0, Cond.instanceMethod yX0_init, Cond.fieldLink RX4 12 "HedgeMaze$Reader" "draft" "LHedgeMaze$Garden;", Cond.fieldLink RX4 18 "HedgeMaze$Reader" "faultNumber" "I", Cond.fieldLink RX4 22 "HedgeMaze$Reader" "faultPlace" "I", Cond.fieldLink RX4 25 "HedgeMaze$Reader" "tape" "[B", Cond.fieldLink RX4 29 "HedgeMaze$Reader" "tapeSize" "I", Cond.fieldLink RX4 32 "HedgeMaze$Reader" "kind" "I", Cond.fieldLink RX4 35 "HedgeMaze$Reader" "tokenStart" "I", Cond.fieldLink RX4 38 "HedgeMaze$Reader" "tokenEnd" "I", Cond.fieldLink RX4 41 "HedgeMaze$Reader" "numberPlace" "I", Cond.fieldLink RX4 44 "HedgeMaze$Reader" "hasLaw" "Z", Cond.code yX0_init cX0_init 1 none, Cond.methodLink RX0 3 objectInit, Cond.classLink RX0 9 RX3, Cond.instantiable RX3 9, Cond.initialized RX3, Cond.instanceMethod yX3_init, Cond.fieldLink RX0 12 "HedgeMaze$Garden" "plan" "LHedgeMaze$Plan;", Cond.fieldLink RX0 18 "HedgeMaze$Garden" "lines" "I", Cond.fieldLink RX0 22 "HedgeMaze$Garden" "hedges" "J", Cond.fieldLink RX0 26 "HedgeMaze$Garden" "walls" "J", Cond.fieldLink RX0 29 "HedgeMaze$Garden" "isNear" "Z", Cond.fieldLink RX0 33 "HedgeMaze$Garden" "letterCell" "I", Cond.fieldLink RX0 36 "HedgeMaze$Garden" "gateCount" "I", Cond.arrayClass .int, Cond.fieldLink RX0 39 "HedgeMaze$Garden" "gates" "[I", Cond.fieldLink RX0 43 "HedgeMaze$Garden" "guestCount" "I", Cond.fieldLink RX0 46 "HedgeMaze$Garden" "guests" "[I", Cond.fieldLink RX0 49 "HedgeMaze$Garden" "goneCount" "I", Cond.fieldLink RX0 52 "HedgeMaze$Garden" "goneNights" "[I", Cond.code yX3_init cX3_init 1 none, Cond.methodLink RX3 3 objectInit, Cond.fieldLink RX3 9 "HedgeMaze$Plan" "wide" "I", Cond.fieldLink RX3 15 "HedgeMaze$Plan" "deep" "I", Cond.fieldLink RX3 18 "HedgeMaze$Plan" "cellCount" "I", Cond.fieldLink RX3 21 "HedgeMaze$Plan" "sideCount" "I", Cond.fieldLink RX3 24 "HedgeMaze$Plan" "allSides" "J", Cond.fieldLink RX3 28 "HedgeMaze$Plan" "first" "[I", Cond.fieldLink RX3 32 "HedgeMaze$Plan" "other" "[I", Cond.arrayClass .long, Cond.fieldLink RX3 35 "HedgeMaze$Plan" "bits" "[J", Cond.fieldLink RX3 39 "HedgeMaze$Plan" "around" "[I"] ++ wsX00 ++ wsX40 ++ wsX30)
theorem wd_X4_init_0 : Cond.methodLink RX4 3 objectInit ∈ wz_X4_init := List.mem_of_getElem? (i := 1) rfl
theorem wd_X4_init_1 : Cond.instanceMethod objectInit ∈ wz_X4_init := List.mem_of_getElem? (i := 2) rfl
theorem wd_X4_init_2 : Cond.code objectInit ⟨#[0xb1]⟩ 1 none ∈ wz_X4_init := List.mem_of_getElem? (i := 3) rfl
theorem wd_X4_init_3 : Cond.classLink RX4 9 RX0 ∈ wz_X4_init := List.mem_of_getElem? (i := 4) rfl
theorem wd_X4_init_4 : Cond.instantiable RX0 12 ∈ wz_X4_init := List.mem_of_getElem? (i := 5) rfl
theorem wd_X4_init_5 : Cond.initialized RX0 ∈ wz_X4_init := List.mem_of_getElem? (i := 6) rfl
theorem wd_X4_init_6 : Cond.instanceMethod yX0_init ∈ wz_X4_init := List.mem_of_getElem? (i := 7) rfl
theorem wd_X4_init_7 : Cond.fieldLink RX4 12 "HedgeMaze$Reader" "draft" "LHedgeMaze$Garden;" ∈ wz_X4_init := List.mem_of_getElem? (i := 8) rfl
theorem wd_X4_init_8 : Cond.fieldLink RX4 18 "HedgeMaze$Reader" "faultNumber" "I" ∈ wz_X4_init := List.mem_of_getElem? (i := 9) rfl
theorem wd_X4_init_9 : Cond.fieldLink RX4 22 "HedgeMaze$Reader" "faultPlace" "I" ∈ wz_X4_init := List.mem_of_getElem? (i := 10) rfl
theorem wd_X4_init_10 : Cond.fieldLink RX4 25 "HedgeMaze$Reader" "tape" "[B" ∈ wz_X4_init := List.mem_of_getElem? (i := 11) rfl
theorem wd_X4_init_11 : Cond.fieldLink RX4 29 "HedgeMaze$Reader" "tapeSize" "I" ∈ wz_X4_init := List.mem_of_getElem? (i := 12) rfl
theorem wd_X4_init_12 : Cond.fieldLink RX4 32 "HedgeMaze$Reader" "kind" "I" ∈ wz_X4_init := List.mem_of_getElem? (i := 13) rfl
theorem wd_X4_init_13 : Cond.fieldLink RX4 35 "HedgeMaze$Reader" "tokenStart" "I" ∈ wz_X4_init := List.mem_of_getElem? (i := 14) rfl
theorem wd_X4_init_14 : Cond.fieldLink RX4 38 "HedgeMaze$Reader" "tokenEnd" "I" ∈ wz_X4_init := List.mem_of_getElem? (i := 15) rfl
theorem wd_X4_init_15 : Cond.fieldLink RX4 41 "HedgeMaze$Reader" "numberPlace" "I" ∈ wz_X4_init := List.mem_of_getElem? (i := 16) rfl
theorem wd_X4_init_16 : Cond.fieldLink RX4 44 "HedgeMaze$Reader" "hasLaw" "Z" ∈ wz_X4_init := List.mem_of_getElem? (i := 17) rfl
theorem in_X4_init_X0 : ∀ w ∈ wsX00, w ∈ wz_X4_init := fun _ h => List.mem_cons_of_mem _ (List.mem_append_left _ (List.mem_append_left _ (List.mem_append_right _ h)))
theorem in_X4_init_X4 : ∀ w ∈ wsX40, w ∈ wz_X4_init := fun _ h => List.mem_cons_of_mem _ (List.mem_append_left _ (List.mem_append_right _ h))
set_option maxRecDepth 20000 in
theorem g_X4_init_X0_init_n11 : GoodIn wz_X4_init wz_X0_init := goodIn_r _ [18, 19, 2, 3, 20, 21, 22, 23, 24, 25, 26, 27, 28, 29, 30, 31, 32, 33, 34, 35, 36, 37, 38, 39, 40, 41, 42, 43, 44, 45, 46, 47, 48, 71, 72, 73, 74, 75, 76, 77, 78, 79, 49, 50, 51, 52, 53, 54, 55, 56, 57, 58, 59, 60] rfl (by decide +kernel)
set_option maxHeartbeats 4000000 in
set_option maxRecDepth 100000 in
theorem c_X4_init (l : Launch) (dC : Nat → ClassId) (dI : Nat → Nat → Nat) (sz : Nat) (rd : Nat)  : Met l yX4_init wz_X4_init ({ frames := 3, cells := 9, slots := 349, locals := 70 }) (va_Pc [.ref rd] (fun U => U.heap.size = sz ∧ va_P (dC, dI) vwCl [(rd, .inr (4, [.null, .int 0, .int 0, .null, .int 0, .int 0, .int 0, .int 0, .int 0, .int 0]))] U.heap ∧ va_K (dC, dI) vwCl [] U ∧ va_D (fun _ => True) [(rd, .inr (4, [.null, .int 0, .int 0, .null, .int 0, .int 0, .int 0, .int 0, .int 0, .int 0]))] ∧ Kx U)) (va_Qv (fun (u : Nat × Nat × Nat × Nat × Nat × Nat × Nat × Nat × Nat × ClassId × ClassId × ClassId × ClassId × ClassId × ClassId × ClassId) => True) (fun (u : Nat × Nat × Nat × Nat × Nat × Nat × Nat × Nat × Nat × ClassId × ClassId × ClassId × ClassId × ClassId × ClassId × ClassId) (t : State) => va_P (dC, dI) vwCl [(rd, .inr (4, [.ref u.1, .int 0, .int (-1), .null, .int 0, .int 0, .int 0, .int 0, .int 0, .int 0])), (u.1, .inr (0, [.ref u.2.1, .int 0, .long 0, .long 0, .int 0, .int (-1), .int 0, .ref u.2.2.1, .int 0, .ref u.2.2.2.1, .int 0, .ref u.2.2.2.2.1])), (u.2.2.1, .inl (u.2.2.2.2.2.2.2.2.2.1, 4, .inl (fun _ => 0))), (u.2.2.2.1, .inl (u.2.2.2.2.2.2.2.2.2.2.1, 5, .inl (fun _ => 0))), (u.2.2.2.2.1, .inl (u.2.2.2.2.2.2.2.2.2.2.2.1, 99, .inl (fun _ => 0))), (u.2.1, .inr (3, [.int 0, .int 0, .int 0, .int 0, .long 0, .ref u.2.2.2.2.2.1, .ref u.2.2.2.2.2.2.1, .ref u.2.2.2.2.2.2.2.1, .ref u.2.2.2.2.2.2.2.2.1])), (u.2.2.2.2.2.1, .inl (u.2.2.2.2.2.2.2.2.2.2.2.2.1, 40, .inl (fun _ => 0))), (u.2.2.2.2.2.2.1, .inl (u.2.2.2.2.2.2.2.2.2.2.2.2.2.1, 40, .inl (fun _ => 0))), (u.2.2.2.2.2.2.2.1, .inl (u.2.2.2.2.2.2.2.2.2.2.2.2.2.2.1, 40, .inr (.inl (fun _ => 0)))), (u.2.2.2.2.2.2.2.2.1, .inl (u.2.2.2.2.2.2.2.2.2.2.2.2.2.2.2, 100, .inl (fun _ => 0)))] t.heap ∧ va_K (dC, dI) vwCl [(u.2.2.2.2.2.2.2.2.2.1, .int), (u.2.2.2.2.2.2.2.2.2.2.1, .int), (u.2.2.2.2.2.2.2.2.2.2.2.1, .int), (u.2.2.2.2.2.2.2.2.2.2.2.2.1, .int), (u.2.2.2.2.2.2.2.2.2.2.2.2.2.1, .int), (u.2.2.2.2.2.2.2.2.2.2.2.2.2.2.1, .long), (u.2.2.2.2.2.2.2.2.2.2.2.2.2.2.2, .int)] t ∧ va_D (va_A [(rd, .inr (4, [.null, .int 0, .int 0, .null, .int 0, .int 0, .int 0, .int 0, .int 0, .int 0]))] sz) [(rd, .inr (4, [.ref u.1, .int 0, .int (-1), .null, .int 0, .int 0, .int 0, .int 0, .int 0, .int 0])), (u.1, .inr (0, [.ref u.2.1, .int 0, .long 0, .long 0, .int 0, .int (-1), .int 0, .ref u.2.2.1, .int 0, .ref u.2.2.2.1, .int 0, .ref u.2.2.2.2.1])), (u.2.2.1, .inl (u.2.2.2.2.2.2.2.2.2.1, 4, .inl (fun _ => 0))), (u.2.2.2.1, .inl (u.2.2.2.2.2.2.2.2.2.2.1, 5, .inl (fun _ => 0))), (u.2.2.2.2.1, .inl (u.2.2.2.2.2.2.2.2.2.2.2.1, 99, .inl (fun _ => 0))), (u.2.1, .inr (3, [.int 0, .int 0, .int 0, .int 0, .long 0, .ref u.2.2.2.2.2.1, .ref u.2.2.2.2.2.2.1, .ref u.2.2.2.2.2.2.2.1, .ref u.2.2.2.2.2.2.2.2.1])), (u.2.2.2.2.2.1, .inl (u.2.2.2.2.2.2.2.2.2.2.2.2.1, 40, .inl (fun _ => 0))), (u.2.2.2.2.2.2.1, .inl (u.2.2.2.2.2.2.2.2.2.2.2.2.2.1, 40, .inl (fun _ => 0))), (u.2.2.2.2.2.2.2.1, .inl (u.2.2.2.2.2.2.2.2.2.2.2.2.2.2.1, 40, .inr (.inl (fun _ => 0)))), (u.2.2.2.2.2.2.2.2.1, .inl (u.2.2.2.2.2.2.2.2.2.2.2.2.2.2.2, 100, .inl (fun _ => 0)))]) (va_A [(rd, .inr (4, [.null, .int 0, .int 0, .null, .int 0, .int 0, .int 0, .int 0, .int 0, .int 0]))] sz)) 9 349 (va_A [(rd, .inr (4, [.null, .int 0, .int 0, .null, .int 0, .int 0, .int 0, .int 0, .int 0, .int 0]))] sz) := by
  refine Met.ofW (cc := cX4_init) (maxL := 1) (ret := none) (by decide) rfl ?_
  intro p e s m args below meth c s₁ B hml hv
  obtain ⟨rfl, hsz, hP, hK, hD0, hE0⟩ := hv
  have hx := B.exec
  have hb := B.bytes
  have hr := B.returns
  have hts := atoms_spec (ws := wz_X4_init) B.pre
  have hown : s.vm.findClass RX4 = some m.cls := findClass_of_methodNamed B.named
  have hlocks := B.notSynchronized
  have hin : meth.name = "<init>" := (name_of_methodNamed B.named B.method).1
  subst hsz
  have hD := hD0.self (sz := s.heap.size)
  generalize hAe : va_A [(rd, .inr (4, [.null, .int 0, .int 0, .null, .int 0, .int 0, .int 0, .int 0, .int 0, .int 0]))] s.heap.size = A at hD ⊢
  have hA : ∀ q : Nat, s.heap.size ≤ q → A q := fun q h => by rw [← hAe]; exact Or.inr h
  have hS : va_S A s.heap s.heap [] := va_S.rf
  have hP : va_P (dC, dI) vwCl [(rd, .inr (4, [.null, .int 0, .int 0, .null, .int 0, .int 0, .int 0, .int 0, .int 0, .int 0]))] s.heap := hP
  have hl := lv_entry ([.ref rd]) (n := 1) (Nat.le_of_ble_eq_true rfl)
  rw [lg_entry_eq]
  generalize (lg_sl ([.ref rd]) ++ List.replicate (1 - (lg_sl ([.ref rd])).length) Slot.unset).toArray = ls at hl ⊢
  have hl : lv_has ls 1 [(0, .ref rd)] := hl
  refine lv_aload_n hx hb dX4_init_0 rfl (lv_at hl 0 rfl) ?_
  refine W.objInit hx hb hown (hts _ wd_X4_init_0) (hts _ wd_X4_init_1) (hts _ wd_X4_init_2) rfl (by rw [hml]; exact hl.1) rfl dX4_init_1 (Nat.le_of_ble_eq_true rfl) (Nat.le_of_ble_eq_true rfl) ?_
  refine W.eq (g2 := F0 m 4 ls []) rfl ?_
  refine lv_aload_n hx hb dX4_init_4 rfl (lv_at hl 0 rfl) ?_
  refine va_new (ci := 0) (fs := [.null, .int 0, .long 0, .long 0, .int 0, .int 0, .int 0, .null, .int 0, .null, .int 0, .null]) (C := RX0) (T := TX0) (N := 12) hx hb hts in_X4_init_X0 tyX0 tyX0_ok hown (hts _ wd_X4_init_3) (hts _ wd_X4_init_4) (hts _ wd_X4_init_5) hK hP hD hS hA rfl (fun j hj => by rcases (show j = 0 ∨ j = 1 ∨ j = 2 ∨ j = 3 ∨ j = 4 ∨ j = 5 ∨ j = 6 ∨ j = 7 ∨ j = 8 ∨ j = 9 ∨ j = 10 ∨ j = 11 by omega) with rfl | rfl | rfl | rfl | rfl | rfl | rfl | rfl | rfl | rfl | rfl | rfl <;> rfl) (Nat.le_of_ble_eq_true rfl) (Nat.le_of_ble_eq_true rfl) dX4_init_5 (fun q_1 H hP hD hS => ?_)
  have hP : va_P (dC, dI) vwCl [(rd, .inr (4, [.null, .int 0, .int 0, .null, .int 0, .int 0, .int 0, .int 0, .int 0, .int 0])), (q_1, .inr (0, [.null, .int 0, .long 0, .long 0, .int 0, .int 0, .int 0, .null, .int 0, .null, .int 0, .null]))] H := hP
  have hD : va_D A [(rd, .inr (4, [.null, .int 0, .int 0, .null, .int 0, .int 0, .int 0, .int 0, .int 0, .int 0])), (q_1, .inr (0, [.null, .int 0, .long 0, .long 0, .int 0, .int 0, .int 0, .null, .int 0, .null, .int 0, .null]))] := hD
  refine W.widen (k := 1) (n := 12) (by omega) (by omega) ?_
  refine lv_dup hx hb dX4_init_8 rfl ?_
  have hPc := hP.sub (ws' := [(q_1, .inr (0, [.null, .int 0, .long 0, .long 0, .int 0, .int 0, .int 0, .null, .int 0, .null, .int 0, .null]))]) [1] rfl
  have hDc := hD.sub (ws' := [(q_1, .inr (0, [.null, .int 0, .long 0, .long 0, .int 0, .int 0, .int 0, .null, .int 0, .null, .int 0, .null]))]) [1] (by decide) rfl
  have hKc := hK.sub (tys' := []) [] rfl
  have hFc := va_free (wc := [(q_1, .inr (0, [.null, .int 0, .long 0, .long 0, .int 0, .int 0, .int 0, .null, .int 0, .null, .int 0, .null]))]) hD hS hA [1] rfl
  refine va_callv (va_runIN (As := []) (rest := [.ref q_1, .ref rd]) ⟨hx, hb, hml, hown, hts⟩ (c_X0_init l dC dI H.size q_1 ) ⟨va_cnB 0 hts g_X4_init_X0_init_n11 rfl rfl rfl hE0.2.1 (hts _ wd_X4_init_5) (by decide +kernel) ⟨Nat.le_of_ble_eq_true rfl, Nat.le_of_ble_eq_true rfl⟩, rfl, (hts _ wd_X4_init_6)⟩ ⟨fun a U g mk q => by obtain ⟨q0, q1, qP, qK, qD, qE0⟩ := q; exact ⟨q0, q1, qP, va_K.moved (u := U) (U := U.calling g mk a) (Vm.Alike.refl U.vm) qK, qD, Kx.same rfl qE0⟩, fun U hU hW => ⟨rfl, by rw [hU], by rw [hU]; exact hPc, va_K.moved hW.alike hKc, hDc.weaken (fun _ _ _ _ => trivial), Kx.warm hW hE0⟩⟩ rfl rfl hl.1 rfl (lv_room (Nat.le_of_ble_eq_true rfl)) dX4_init_9 ⟨Nat.le_of_ble_eq_true rfl, Nat.le_of_ble_eq_true rfl⟩) hS (fun q _ h => hFc q h) hFc (fun u t H1 locs ht hvm hw_2 hB hz1 hk1 hS => ?_)
  obtain ⟨pl_3, gdt_4, gdu_5, gdx_6, plf_7, plo_8, plb_9, pla_10, gdkt_11, gdku_12, gdkx_13, plkf_14, plko_15, plkb_16, plka_17⟩ := u
  obtain ⟨hP1, hK1, hD1⟩ := hB
  have hP1 : va_P (dC, dI) vwCl [(q_1, .inr (0, [.ref pl_3, .int 0, .long 0, .long 0, .int 0, .int (-1), .int 0, .ref gdt_4, .int 0, .ref gdu_5, .int 0, .ref gdx_6])), (gdt_4, .inl (gdkt_11, 4, .inl (fun _ => 0))), (gdu_5, .inl (gdku_12, 5, .inl (fun _ => 0))), (gdx_6, .inl (gdkx_13, 99, .inl (fun _ => 0))), (pl_3, .inr (3, [.int 0, .int 0, .int 0, .int 0, .long 0, .ref plf_7, .ref plo_8, .ref plb_9, .ref pla_10])), (plf_7, .inl (plkf_14, 40, .inl (fun _ => 0))), (plo_8, .inl (plko_15, 40, .inl (fun _ => 0))), (plb_9, .inl (plkb_16, 40, .inr (.inl (fun _ => 0)))), (pla_10, .inl (plka_17, 100, .inl (fun _ => 0)))] t.heap := hP1
  rw [ht] at hP1
  have hK1 : va_K (dC, dI) vwCl [(gdkt_11, .int), (gdku_12, .int), (gdkx_13, .int), (plkf_14, .int), (plko_15, .int), (plkb_16, .long), (plka_17, .int)] s := va_K.moved hvm.symm hK1
  try dsimp only at hw_2
  obtain ⟨hP, hD⟩ := va_join (wr := [(rd, .inr (4, [.null, .int 0, .int 0, .null, .int 0, .int 0, .int 0, .int 0, .int 0, .int 0]))]) (w1 := [(q_1, .inr (0, [.ref pl_3, .int 0, .long 0, .long 0, .int 0, .int (-1), .int 0, .ref gdt_4, .int 0, .ref gdu_5, .int 0, .ref gdx_6])), (gdt_4, .inl (gdkt_11, 4, .inl (fun _ => 0))), (gdu_5, .inl (gdku_12, 5, .inl (fun _ => 0))), (gdx_6, .inl (gdkx_13, 99, .inl (fun _ => 0))), (pl_3, .inr (3, [.int 0, .int 0, .int 0, .int 0, .long 0, .ref plf_7, .ref plo_8, .ref plb_9, .ref pla_10])), (plf_7, .inl (plkf_14, 40, .inl (fun _ => 0))), (plo_8, .inl (plko_15, 40, .inl (fun _ => 0))), (plb_9, .inl (plkb_16, 40, .inr (.inl (fun _ => 0)))), (pla_10, .inl (plka_17, 100, .inl (fun _ => 0)))]) hP hD [1] [0] rfl rfl (by decide) (by decide) hk1 hFc hP1 hD1
  generalize H1 = H at hP hS ⊢
  have hK := hK.app hK1
  have hP : va_P (dC, dI) vwCl [(rd, .inr (4, [.null, .int 0, .int 0, .null, .int 0, .int 0, .int 0, .int 0, .int 0, .int 0])), (q_1, .inr (0, [.ref pl_3, .int 0, .long 0, .long 0, .int 0, .int (-1), .int 0, .ref gdt_4, .int 0, .ref gdu_5, .int 0, .ref gdx_6])), (gdt_4, .inl (gdkt_11, 4, .inl (fun _ => 0))), (gdu_5, .inl (gdku_12, 5, .inl (fun _ => 0))), (gdx_6, .inl (gdkx_13, 99, .inl (fun _ => 0))), (pl_3, .inr (3, [.int 0, .int 0, .int 0, .int 0, .long 0, .ref plf_7, .ref plo_8, .ref plb_9, .ref pla_10])), (plf_7, .inl (plkf_14, 40, .inl (fun _ => 0))), (plo_8, .inl (plko_15, 40, .inl (fun _ => 0))), (plb_9, .inl (plkb_16, 40, .inr (.inl (fun _ => 0)))), (pla_10, .inl (plka_17, 100, .inl (fun _ => 0)))] H := hP
  have hD : va_D A [(rd, .inr (4, [.null, .int 0, .int 0, .null, .int 0, .int 0, .int 0, .int 0, .int 0, .int 0])), (q_1, .inr (0, [.ref pl_3, .int 0, .long 0, .long 0, .int 0, .int (-1), .int 0, .ref gdt_4, .int 0, .ref gdu_5, .int 0, .ref gdx_6])), (gdt_4, .inl (gdkt_11, 4, .inl (fun _ => 0))), (gdu_5, .inl (gdku_12, 5, .inl (fun _ => 0))), (gdx_6, .inl (gdkx_13, 99, .inl (fun _ => 0))), (pl_3, .inr (3, [.int 0, .int 0, .int 0, .int 0, .long 0, .ref plf_7, .ref plo_8, .ref plb_9, .ref pla_10])), (plf_7, .inl (plkf_14, 40, .inl (fun _ => 0))), (plo_8, .inl (plko_15, 40, .inl (fun _ => 0))), (plb_9, .inl (plkb_16, 40, .inr (.inl (fun _ => 0)))), (pla_10, .inl (plka_17, 100, .inl (fun _ => 0)))] := hD
  have hK : va_K (dC, dI) vwCl [(gdkt_11, .int), (gdku_12, .int), (gdkx_13, .int), (plkf_14, .int), (plko_15, .int), (plkb_16, .long), (plka_17, .int)] s := hK
  refine W.widen (k := 9) (n := 349) (by omega) (by omega) ?_
  refine va_putF (D := (dC, dI)) (ci := 4) (v := .ref q_1) (ty := .object "HedgeMaze$Garden") (C := RX4) (T := TX4) (N := 10) hx hb hts in_X4_init_X4 tyX4 tyX4_ok nmX4 hown hK hP hD hS 0 rfl rfl 0 (by decide) (hts _ wd_X4_init_7) (fun _ h9 => h9) rfl hin rfl (by decide +kernel) rfl rfl (Nat.le_of_ble_eq_true rfl) dX4_init_12 (fun H locs hP hD hS => ?_)
  have hP : va_P (dC, dI) vwCl [(rd, .inr (4, [.ref q_1, .int 0, .int 0, .null, .int 0, .int 0, .int 0, .int 0, .int 0, .int 0])), (q_1, .inr (0, [.ref pl_3, .int 0, .long 0, .long 0, .int 0, .int (-1), .int 0, .ref gdt_4, .int 0, .ref gdu_5, .int 0, .ref gdx_6])), (gdt_4, .inl (gdkt_11, 4, .inl (fun _ => 0))), (gdu_5, .inl (gdku_12, 5, .inl (fun _ => 0))), (gdx_6, .inl (gdkx_13, 99, .inl (fun _ => 0))), (pl_3, .inr (3, [.int 0, .int 0, .int 0, .int 0, .long 0, .ref plf_7, .ref plo_8, .ref plb_9, .ref pla_10])), (plf_7, .inl (plkf_14, 40, .inl (fun _ => 0))), (plo_8, .inl (plko_15, 40, .inl (fun _ => 0))), (plb_9, .inl (plkb_16, 40, .inr (.inl (fun _ => 0)))), (pla_10, .inl (plka_17, 100, .inl (fun _ => 0)))] H := hP
  have hD : va_D A [(rd, .inr (4, [.ref q_1, .int 0, .int 0, .null, .int 0, .int 0, .int 0, .int 0, .int 0, .int 0])), (q_1, .inr (0, [.ref pl_3, .int 0, .long 0, .long 0, .int 0, .int (-1), .int 0, .ref gdt_4, .int 0, .ref gdu_5, .int 0, .ref gdx_6])), (gdt_4, .inl (gdkt_11, 4, .inl (fun _ => 0))), (gdu_5, .inl (gdku_12, 5, .inl (fun _ => 0))), (gdx_6, .inl (gdkx_13, 99, .inl (fun _ => 0))), (pl_3, .inr (3, [.int 0, .int 0, .int 0, .int 0, .long 0, .ref plf_7, .ref plo_8, .ref plb_9, .ref pla_10])), (plf_7, .inl (plkf_14, 40, .inl (fun _ => 0))), (plo_8, .inl (plko_15, 40, .inl (fun _ => 0))), (plb_9, .inl (plkb_16, 40, .inr (.inl (fun _ => 0)))), (pla_10, .inl (plka_17, 100, .inl (fun _ => 0)))] := hD
  refine lv_aload_n hx hb dX4_init_15 rfl (lv_at hl 0 rfl) ?_
  refine lv_iconst (v := 0) hx hb dX4_init_16 (by decide) ?_
  refine va_put (D := (dC, dI)) (ci := 4) (v := .int 0) (ty := .int) (C := RX4) (T := TX4) (N := 10) hx hb hts in_X4_init_X4 tyX4 tyX4_ok nmX4 hown hK hP hD hS 0 rfl rfl 1 (by decide) (hts _ wd_X4_init_8) (fun _ h9 => h9) rfl (by decide +kernel) rfl rfl (Nat.le_of_ble_eq_true rfl) dX4_init_17 (fun H locs hP hD hS => ?_)
  have hP : va_P (dC, dI) vwCl [(rd, .inr (4, [.ref q_1, .int 0, .int 0, .null, .int 0, .int 0, .int 0, .int 0, .int 0, .int 0])), (q_1, .inr (0, [.ref pl_3, .int 0, .long 0, .long 0, .int 0, .int (-1), .int 0, .ref gdt_4, .int 0, .ref gdu_5, .int 0, .ref gdx_6])), (gdt_4, .inl (gdkt_11, 4, .inl (fun _ => 0))), (gdu_5, .inl (gdku_12, 5, .inl (fun _ => 0))), (gdx_6, .inl (gdkx_13, 99, .inl (fun _ => 0))), (pl_3, .inr (3, [.int 0, .int 0, .int 0, .int 0, .long 0, .ref plf_7, .ref plo_8, .ref plb_9, .ref pla_10])), (plf_7, .inl (plkf_14, 40, .inl (fun _ => 0))), (plo_8, .inl (plko_15, 40, .inl (fun _ => 0))), (plb_9, .inl (plkb_16, 40, .inr (.inl (fun _ => 0)))), (pla_10, .inl (plka_17, 100, .inl (fun _ => 0)))] H := hP
  have hD : va_D A [(rd, .inr (4, [.ref q_1, .int 0, .int 0, .null, .int 0, .int 0, .int 0, .int 0, .int 0, .int 0])), (q_1, .inr (0, [.ref pl_3, .int 0, .long 0, .long 0, .int 0, .int (-1), .int 0, .ref gdt_4, .int 0, .ref gdu_5, .int 0, .ref gdx_6])), (gdt_4, .inl (gdkt_11, 4, .inl (fun _ => 0))), (gdu_5, .inl (gdku_12, 5, .inl (fun _ => 0))), (gdx_6, .inl (gdkx_13, 99, .inl (fun _ => 0))), (pl_3, .inr (3, [.int 0, .int 0, .int 0, .int 0, .long 0, .ref plf_7, .ref plo_8, .ref plb_9, .ref pla_10])), (plf_7, .inl (plkf_14, 40, .inl (fun _ => 0))), (plo_8, .inl (plko_15, 40, .inl (fun _ => 0))), (plb_9, .inl (plkb_16, 40, .inr (.inl (fun _ => 0)))), (pla_10, .inl (plka_17, 100, .inl (fun _ => 0)))] := hD
  refine lv_aload_n hx hb dX4_init_20 rfl (lv_at hl 0 rfl) ?_
  refine lv_iconst (v := -1) hx hb dX4_init_21 (by decide) ?_
  refine va_put (D := (dC, dI)) (ci := 4) (v := .int (-1)) (ty := .int) (C := RX4) (T := TX4) (N := 10) hx hb hts in_X4_init_X4 tyX4 tyX4_ok nmX4 hown hK hP hD hS 0 rfl rfl 2 (by decide) (hts _ wd_X4_init_9) (fun _ h9 => h9) rfl (by decide +kernel) rfl rfl (Nat.le_of_ble_eq_true rfl) dX4_init_22 (fun H locs hP hD hS => ?_)
  have hP : va_P (dC, dI) vwCl [(rd, .inr (4, [.ref q_1, .int 0, .int (-1), .null, .int 0, .int 0, .int 0, .int 0, .int 0, .int 0])), (q_1, .inr (0, [.ref pl_3, .int 0, .long 0, .long 0, .int 0, .int (-1), .int 0, .ref gdt_4, .int 0, .ref gdu_5, .int 0, .ref gdx_6])), (gdt_4, .inl (gdkt_11, 4, .inl (fun _ => 0))), (gdu_5, .inl (gdku_12, 5, .inl (fun _ => 0))), (gdx_6, .inl (gdkx_13, 99, .inl (fun _ => 0))), (pl_3, .inr (3, [.int 0, .int 0, .int 0, .int 0, .long 0, .ref plf_7, .ref plo_8, .ref plb_9, .ref pla_10])), (plf_7, .inl (plkf_14, 40, .inl (fun _ => 0))), (plo_8, .inl (plko_15, 40, .inl (fun _ => 0))), (plb_9, .inl (plkb_16, 40, .inr (.inl (fun _ => 0)))), (pla_10, .inl (plka_17, 100, .inl (fun _ => 0)))] H := hP
  have hD : va_D A [(rd, .inr (4, [.ref q_1, .int 0, .int (-1), .null, .int 0, .int 0, .int 0, .int 0, .int 0, .int 0])), (q_1, .inr (0, [.ref pl_3, .int 0, .long 0, .long 0, .int 0, .int (-1), .int 0, .ref gdt_4, .int 0, .ref gdu_5, .int 0, .ref gdx_6])), (gdt_4, .inl (gdkt_11, 4, .inl (fun _ => 0))), (gdu_5, .inl (gdku_12, 5, .inl (fun _ => 0))), (gdx_6, .inl (gdkx_13, 99, .inl (fun _ => 0))), (pl_3, .inr (3, [.int 0, .int 0, .int 0, .int 0, .long 0, .ref plf_7, .ref plo_8, .ref plb_9, .ref pla_10])), (plf_7, .inl (plkf_14, 40, .inl (fun _ => 0))), (plo_8, .inl (plko_15, 40, .inl (fun _ => 0))), (plb_9, .inl (plkb_16, 40, .inr (.inl (fun _ => 0)))), (pla_10, .inl (plka_17, 100, .inl (fun _ => 0)))] := hD
  refine lv_aload_n hx hb dX4_init_25 rfl (lv_at hl 0 rfl) ?_
  refine lv_null hx hb dX4_init_26 ?_
  refine va_put (D := (dC, dI)) (ci := 4) (v := .null) (ty := .array .byte) (C := RX4) (T := TX4) (N := 10) hx hb hts in_X4_init_X4 tyX4 tyX4_ok nmX4 hown hK hP hD hS 0 rfl rfl 3 (by decide) (hts _ wd_X4_init_10) (fun _ h9 => h9) rfl (by decide +kernel) rfl rfl (Nat.le_of_ble_eq_true rfl) dX4_init_27 (fun H locs hP hD hS => ?_)
  have hP : va_P (dC, dI) vwCl [(rd, .inr (4, [.ref q_1, .int 0, .int (-1), .null, .int 0, .int 0, .int 0, .int 0, .int 0, .int 0])), (q_1, .inr (0, [.ref pl_3, .int 0, .long 0, .long 0, .int 0, .int (-1), .int 0, .ref gdt_4, .int 0, .ref gdu_5, .int 0, .ref gdx_6])), (gdt_4, .inl (gdkt_11, 4, .inl (fun _ => 0))), (gdu_5, .inl (gdku_12, 5, .inl (fun _ => 0))), (gdx_6, .inl (gdkx_13, 99, .inl (fun _ => 0))), (pl_3, .inr (3, [.int 0, .int 0, .int 0, .int 0, .long 0, .ref plf_7, .ref plo_8, .ref plb_9, .ref pla_10])), (plf_7, .inl (plkf_14, 40, .inl (fun _ => 0))), (plo_8, .inl (plko_15, 40, .inl (fun _ => 0))), (plb_9, .inl (plkb_16, 40, .inr (.inl (fun _ => 0)))), (pla_10, .inl (plka_17, 100, .inl (fun _ => 0)))] H := hP
  have hD : va_D A [(rd, .inr (4, [.ref q_1, .int 0, .int (-1), .null, .int 0, .int 0, .int 0, .int 0, .int 0, .int 0])), (q_1, .inr (0, [.ref pl_3, .int 0, .long 0, .long 0, .int 0, .int (-1), .int 0, .ref gdt_4, .int 0, .ref gdu_5, .int 0, .ref gdx_6])), (gdt_4, .inl (gdkt_11, 4, .inl (fun _ => 0))), (gdu_5, .inl (gdku_12, 5, .inl (fun _ => 0))), (gdx_6, .inl (gdkx_13, 99, .inl (fun _ => 0))), (pl_3, .inr (3, [.int 0, .int 0, .int 0, .int 0, .long 0, .ref plf_7, .ref plo_8, .ref plb_9, .ref pla_10])), (plf_7, .inl (plkf_14, 40, .inl (fun _ => 0))), (plo_8, .inl (plko_15, 40, .inl (fun _ => 0))), (plb_9, .inl (plkb_16, 40, .inr (.inl (fun _ => 0)))), (pla_10, .inl (plka_17, 100, .inl (fun _ => 0)))] := hD
  refine lv_aload_n hx hb dX4_init_30 rfl (lv_at hl 0 rfl) ?_
  refine lv_iconst (v := 0) hx hb dX4_init_31 (by decide) ?_
  refine va_put (D := (dC, dI)) (ci := 4) (v := .int 0) (ty := .int) (C := RX4) (T := TX4) (N := 10) hx hb hts in_X4_init_X4 tyX4 tyX4_ok nmX4 hown hK hP hD hS 0 rfl rfl 4 (by decide) (hts _ wd_X4_init_11) (fun _ h9 => h9) rfl (by decide +kernel) rfl rfl (Nat.le_of_ble_eq_true rfl) dX4_init_32 (fun H locs hP hD hS => ?_)
  have hP : va_P (dC, dI) vwCl [(rd, .inr (4, [.ref q_1, .int 0, .int (-1), .null, .int 0, .int 0, .int 0, .int 0, .int 0, .int 0])), (q_1, .inr (0, [.ref pl_3, .int 0, .long 0, .long 0, .int 0, .int (-1), .int 0, .ref gdt_4, .int 0, .ref gdu_5, .int 0, .ref gdx_6])), (gdt_4, .inl (gdkt_11, 4, .inl (fun _ => 0))), (gdu_5, .inl (gdku_12, 5, .inl (fun _ => 0))), (gdx_6, .inl (gdkx_13, 99, .inl (fun _ => 0))), (pl_3, .inr (3, [.int 0, .int 0, .int 0, .int 0, .long 0, .ref plf_7, .ref plo_8, .ref plb_9, .ref pla_10])), (plf_7, .inl (plkf_14, 40, .inl (fun _ => 0))), (plo_8, .inl (plko_15, 40, .inl (fun _ => 0))), (plb_9, .inl (plkb_16, 40, .inr (.inl (fun _ => 0)))), (pla_10, .inl (plka_17, 100, .inl (fun _ => 0)))] H := hP
  have hD : va_D A [(rd, .inr (4, [.ref q_1, .int 0, .int (-1), .null, .int 0, .int 0, .int 0, .int 0, .int 0, .int 0])), (q_1, .inr (0, [.ref pl_3, .int 0, .long 0, .long 0, .int 0, .int (-1), .int 0, .ref gdt_4, .int 0, .ref gdu_5, .int 0, .ref gdx_6])), (gdt_4, .inl (gdkt_11, 4, .inl (fun _ => 0))), (gdu_5, .inl (gdku_12, 5, .inl (fun _ => 0))), (gdx_6, .inl (gdkx_13, 99, .inl (fun _ => 0))), (pl_3, .inr (3, [.int 0, .int 0, .int 0, .int 0, .long 0, .ref plf_7, .ref plo_8, .ref plb_9, .ref pla_10])), (plf_7, .inl (plkf_14, 40, .inl (fun _ => 0))), (plo_8, .inl (plko_15, 40, .inl (fun _ => 0))), (plb_9, .inl (plkb_16, 40, .inr (.inl (fun _ => 0)))), (pla_10, .inl (plka_17, 100, .inl (fun _ => 0)))] := hD
  refine lv_aload_n hx hb dX4_init_35 rfl (lv_at hl 0 rfl) ?_
  refine lv_iconst (v := 0) hx hb dX4_init_36 (by decide) ?_
  refine va_put (D := (dC, dI)) (ci := 4) (v := .int 0) (ty := .int) (C := RX4) (T := TX4) (N := 10) hx hb hts in_X4_init_X4 tyX4 tyX4_ok nmX4 hown hK hP hD hS 0 rfl rfl 5 (by decide) (hts _ wd_X4_init_12) (fun _ h9 => h9) rfl (by decide +kernel) rfl rfl (Nat.le_of_ble_eq_true rfl) dX4_init_37 (fun H locs hP hD hS => ?_)
  have hP : va_P (dC, dI) vwCl [(rd, .inr (4, [.ref q_1, .int 0, .int (-1), .null, .int 0, .int 0, .int 0, .int 0, .int 0, .int 0])), (q_1, .inr (0, [.ref pl_3, .int 0, .long 0, .long 0, .int 0, .int (-1), .int 0, .ref gdt_4, .int 0, .ref gdu_5, .int 0, .ref gdx_6])), (gdt_4, .inl (gdkt_11, 4, .inl (fun _ => 0))), (gdu_5, .inl (gdku_12, 5, .inl (fun _ => 0))), (gdx_6, .inl (gdkx_13, 99, .inl (fun _ => 0))), (pl_3, .inr (3, [.int 0, .int 0, .int 0, .int 0, .long 0, .ref plf_7, .ref plo_8, .ref plb_9, .ref pla_10])), (plf_7, .inl (plkf_14, 40, .inl (fun _ => 0))), (plo_8, .inl (plko_15, 40, .inl (fun _ => 0))), (plb_9, .inl (plkb_16, 40, .inr (.inl (fun _ => 0)))), (pla_10, .inl (plka_17, 100, .inl (fun _ => 0)))] H := hP
  have hD : va_D A [(rd, .inr (4, [.ref q_1, .int 0, .int (-1), .null, .int 0, .int 0, .int 0, .int 0, .int 0, .int 0])), (q_1, .inr (0, [.ref pl_3, .int 0, .long 0, .long 0, .int 0, .int (-1), .int 0, .ref gdt_4, .int 0, .ref gdu_5, .int 0, .ref gdx_6])), (gdt_4, .inl (gdkt_11, 4, .inl (fun _ => 0))), (gdu_5, .inl (gdku_12, 5, .inl (fun _ => 0))), (gdx_6, .inl (gdkx_13, 99, .inl (fun _ => 0))), (pl_3, .inr (3, [.int 0, .int 0, .int 0, .int 0, .long 0, .ref plf_7, .ref plo_8, .ref plb_9, .ref pla_10])), (plf_7, .inl (plkf_14, 40, .inl (fun _ => 0))), (plo_8, .inl (plko_15, 40, .inl (fun _ => 0))), (plb_9, .inl (plkb_16, 40, .inr (.inl (fun _ => 0)))), (pla_10, .inl (plka_17, 100, .inl (fun _ => 0)))] := hD
  refine lv_aload_n hx hb dX4_init_40 rfl (lv_at hl 0 rfl) ?_
  refine lv_iconst (v := 0) hx hb dX4_init_41 (by decide) ?_
  refine va_put (D := (dC, dI)) (ci := 4) (v := .int 0) (ty := .int) (C := RX4) (T := TX4) (N := 10) hx hb hts in_X4_init_X4 tyX4 tyX4_ok nmX4 hown hK hP hD hS 0 rfl rfl 6 (by decide) (hts _ wd_X4_init_13) (fun _ h9 => h9) rfl (by decide +kernel) rfl rfl (Nat.le_of_ble_eq_true rfl) dX4_init_42 (fun H locs hP hD hS => ?_)
  have hP : va_P (dC, dI) vwCl [(rd, .inr (4, [.ref q_1, .int 0, .int (-1), .null, .int 0, .int 0, .int 0, .int 0, .int 0, .int 0])), (q_1, .inr (0, [.ref pl_3, .int 0, .long 0, .long 0, .int 0, .int (-1), .int 0, .ref gdt_4, .int 0, .ref gdu_5, .int 0, .ref gdx_6])), (gdt_4, .inl (gdkt_11, 4, .inl (fun _ => 0))), (gdu_5, .inl (gdku_12, 5, .inl (fun _ => 0))), (gdx_6, .inl (gdkx_13, 99, .inl (fun _ => 0))), (pl_3, .inr (3, [.int 0, .int 0, .int 0, .int 0, .long 0, .ref plf_7, .ref plo_8, .ref plb_9, .ref pla_10])), (plf_7, .inl (plkf_14, 40, .inl (fun _ => 0))), (plo_8, .inl (plko_15, 40, .inl (fun _ => 0))), (plb_9, .inl (plkb_16, 40, .inr (.inl (fun _ => 0)))), (pla_10, .inl (plka_17, 100, .inl (fun _ => 0)))] H := hP
  have hD : va_D A [(rd, .inr (4, [.ref q_1, .int 0, .int (-1), .null, .int 0, .int 0, .int 0, .int 0, .int 0, .int 0])), (q_1, .inr (0, [.ref pl_3, .int 0, .long 0, .long 0, .int 0, .int (-1), .int 0, .ref gdt_4, .int 0, .ref gdu_5, .int 0, .ref gdx_6])), (gdt_4, .inl (gdkt_11, 4, .inl (fun _ => 0))), (gdu_5, .inl (gdku_12, 5, .inl (fun _ => 0))), (gdx_6, .inl (gdkx_13, 99, .inl (fun _ => 0))), (pl_3, .inr (3, [.int 0, .int 0, .int 0, .int 0, .long 0, .ref plf_7, .ref plo_8, .ref plb_9, .ref pla_10])), (plf_7, .inl (plkf_14, 40, .inl (fun _ => 0))), (plo_8, .inl (plko_15, 40, .inl (fun _ => 0))), (plb_9, .inl (plkb_16, 40, .inr (.inl (fun _ => 0)))), (pla_10, .inl (plka_17, 100, .inl (fun _ => 0)))] := hD
  refine lv_aload_n hx hb dX4_init_45 rfl (lv_at hl 0 rfl) ?_
  refine lv_iconst (v := 0) hx hb dX4_init_46 (by decide) ?_
  refine va_put (D := (dC, dI)) (ci := 4) (v := .int 0) (ty := .int) (C := RX4) (T := TX4) (N := 10) hx hb hts in_X4_init_X4 tyX4 tyX4_ok nmX4 hown hK hP hD hS 0 rfl rfl 7 (by decide) (hts _ wd_X4_init_14) (fun _ h9 => h9) rfl (by decide +kernel) rfl rfl (Nat.le_of_ble_eq_true rfl) dX4_init_47 (fun H locs hP hD hS => ?_)
  have hP : va_P (dC, dI) vwCl [(rd, .inr (4, [.ref q_1, .int 0, .int (-1), .null, .int 0, .int 0, .int 0, .int 0, .int 0, .int 0])), (q_1, .inr (0, [.ref pl_3, .int 0, .long 0, .long 0, .int 0, .int (-1), .int 0, .ref gdt_4, .int 0, .ref gdu_5, .int 0, .ref gdx_6])), (gdt_4, .inl (gdkt_11, 4, .inl (fun _ => 0))), (gdu_5, .inl (gdku_12, 5, .inl (fun _ => 0))), (gdx_6, .inl (gdkx_13, 99, .inl (fun _ => 0))), (pl_3, .inr (3, [.int 0, .int 0, .int 0, .int 0, .long 0, .ref plf_7, .ref plo_8, .ref plb_9, .ref pla_10])), (plf_7, .inl (plkf_14, 40, .inl (fun _ => 0))), (plo_8, .inl (plko_15, 40, .inl (fun _ => 0))), (plb_9, .inl (plkb_16, 40, .inr (.inl (fun _ => 0)))), (pla_10, .inl (plka_17, 100, .inl (fun _ => 0)))] H := hP
  have hD : va_D A [(rd, .inr (4, [.ref q_1, .int 0, .int (-1), .null, .int 0, .int 0, .int 0, .int 0, .int 0, .int 0])), (q_1, .inr (0, [.ref pl_3, .int 0, .long 0, .long 0, .int 0, .int (-1), .int 0, .ref gdt_4, .int 0, .ref gdu_5, .int 0, .ref gdx_6])), (gdt_4, .inl (gdkt_11, 4, .inl (fun _ => 0))), (gdu_5, .inl (gdku_12, 5, .inl (fun _ => 0))), (gdx_6, .inl (gdkx_13, 99, .inl (fun _ => 0))), (pl_3, .inr (3, [.int 0, .int 0, .int 0, .int 0, .long 0, .ref plf_7, .ref plo_8, .ref plb_9, .ref pla_10])), (plf_7, .inl (plkf_14, 40, .inl (fun _ => 0))), (plo_8, .inl (plko_15, 40, .inl (fun _ => 0))), (plb_9, .inl (plkb_16, 40, .inr (.inl (fun _ => 0)))), (pla_10, .inl (plka_17, 100, .inl (fun _ => 0)))] := hD
  refine lv_aload_n hx hb dX4_init_50 rfl (lv_at hl 0 rfl) ?_
  refine lv_iconst (v := 0) hx hb dX4_init_51 (by decide) ?_
  refine va_put (D := (dC, dI)) (ci := 4) (v := .int 0) (ty := .int) (C := RX4) (T := TX4) (N := 10) hx hb hts in_X4_init_X4 tyX4 tyX4_ok nmX4 hown hK hP hD hS 0 rfl rfl 8 (by decide) (hts _ wd_X4_init_15) (fun _ h9 => h9) rfl (by decide +kernel) rfl rfl (Nat.le_of_ble_eq_true rfl) dX4_init_52 (fun H locs hP hD hS => ?_)
  have hP : va_P (dC, dI) vwCl [(rd, .inr (4, [.ref q_1, .int 0, .int (-1), .null, .int 0, .int 0, .int 0, .int 0, .int 0, .int 0])), (q_1, .inr (0, [.ref pl_3, .int 0, .long 0, .long 0, .int 0, .int (-1), .int 0, .ref gdt_4, .int 0, .ref gdu_5, .int 0, .ref gdx_6])), (gdt_4, .inl (gdkt_11, 4, .inl (fun _ => 0))), (gdu_5, .inl (gdku_12, 5, .inl (fun _ => 0))), (gdx_6, .inl (gdkx_13, 99, .inl (fun _ => 0))), (pl_3, .inr (3, [.int 0, .int 0, .int 0, .int 0, .long 0, .ref plf_7, .ref plo_8, .ref plb_9, .ref pla_10])), (plf_7, .inl (plkf_14, 40, .inl (fun _ => 0))), (plo_8, .inl (plko_15, 40, .inl (fun _ => 0))), (plb_9, .inl (plkb_16, 40, .inr (.inl (fun _ => 0)))), (pla_10, .inl (plka_17, 100, .inl (fun _ => 0)))] H := hP
  have hD : va_D A [(rd, .inr (4, [.ref q_1, .int 0, .int (-1), .null, .int 0, .int 0, .int 0, .int 0, .int 0, .int 0])), (q_1, .inr (0, [.ref pl_3, .int 0, .long 0, .long 0, .int 0, .int (-1), .int 0, .ref gdt_4, .int 0, .ref gdu_5, .int 0, .ref gdx_6])), (gdt_4, .inl (gdkt_11, 4, .inl (fun _ => 0))), (gdu_5, .inl (gdku_12, 5, .inl (fun _ => 0))), (gdx_6, .inl (gdkx_13, 99, .inl (fun _ => 0))), (pl_3, .inr (3, [.int 0, .int 0, .int 0, .int 0, .long 0, .ref plf_7, .ref plo_8, .ref plb_9, .ref pla_10])), (plf_7, .inl (plkf_14, 40, .inl (fun _ => 0))), (plo_8, .inl (plko_15, 40, .inl (fun _ => 0))), (plb_9, .inl (plkb_16, 40, .inr (.inl (fun _ => 0)))), (pla_10, .inl (plka_17, 100, .inl (fun _ => 0)))] := hD
  refine lv_aload_n hx hb dX4_init_55 rfl (lv_at hl 0 rfl) ?_
  refine lv_iconst (v := 0) hx hb dX4_init_56 (by decide) ?_
  refine va_put (D := (dC, dI)) (ci := 4) (v := .int 0) (ty := .boolean) (C := RX4) (T := TX4) (N := 10) hx hb hts in_X4_init_X4 tyX4 tyX4_ok nmX4 hown hK hP hD hS 0 rfl rfl 9 (by decide) (hts _ wd_X4_init_16) (fun _ h9 => h9) rfl (by decide +kernel) (by decide) (by decide) (Nat.le_of_ble_eq_true rfl) dX4_init_57 (fun H locs hP hD hS => ?_)
  have hP : va_P (dC, dI) vwCl [(rd, .inr (4, [.ref q_1, .int 0, .int (-1), .null, .int 0, .int 0, .int 0, .int 0, .int 0, .int 0])), (q_1, .inr (0, [.ref pl_3, .int 0, .long 0, .long 0, .int 0, .int (-1), .int 0, .ref gdt_4, .int 0, .ref gdu_5, .int 0, .ref gdx_6])), (gdt_4, .inl (gdkt_11, 4, .inl (fun _ => 0))), (gdu_5, .inl (gdku_12, 5, .inl (fun _ => 0))), (gdx_6, .inl (gdkx_13, 99, .inl (fun _ => 0))), (pl_3, .inr (3, [.int 0, .int 0, .int 0, .int 0, .long 0, .ref plf_7, .ref plo_8, .ref plb_9, .ref pla_10])), (plf_7, .inl (plkf_14, 40, .inl (fun _ => 0))), (plo_8, .inl (plko_15, 40, .inl (fun _ => 0))), (plb_9, .inl (plkb_16, 40, .inr (.inl (fun _ => 0)))), (pla_10, .inl (plka_17, 100, .inl (fun _ => 0)))] H := hP
  have hD : va_D A [(rd, .inr (4, [.ref q_1, .int 0, .int (-1), .null, .int 0, .int 0, .int 0, .int 0, .int 0, .int 0])), (q_1, .inr (0, [.ref pl_3, .int 0, .long 0, .long 0, .int 0, .int (-1), .int 0, .ref gdt_4, .int 0, .ref gdu_5, .int 0, .ref gdx_6])), (gdt_4, .inl (gdkt_11, 4, .inl (fun _ => 0))), (gdu_5, .inl (gdku_12, 5, .inl (fun _ => 0))), (gdx_6, .inl (gdkx_13, 99, .inl (fun _ => 0))), (pl_3, .inr (3, [.int 0, .int 0, .int 0, .int 0, .long 0, .ref plf_7, .ref plo_8, .ref plb_9, .ref pla_10])), (plf_7, .inl (plkf_14, 40, .inl (fun _ => 0))), (plo_8, .inl (plko_15, 40, .inl (fun _ => 0))), (plb_9, .inl (plkb_16, 40, .inr (.inl (fun _ => 0)))), (pla_10, .inl (plka_17, 100, .inl (fun _ => 0)))] := hD
  have hP9 := hP.sub (ws' := [(rd, .inr (4, [.ref q_1, .int 0, .int (-1), .null, .int 0, .int 0, .int 0, .int 0, .int 0, .int 0])), (q_1, .inr (0, [.ref pl_3, .int 0, .long 0, .long 0, .int 0, .int (-1), .int 0, .ref gdt_4, .int 0, .ref gdu_5, .int 0, .ref gdx_6])), (gdt_4, .inl (gdkt_11, 4, .inl (fun _ => 0))), (gdu_5, .inl (gdku_12, 5, .inl (fun _ => 0))), (gdx_6, .inl (gdkx_13, 99, .inl (fun _ => 0))), (pl_3, .inr (3, [.int 0, .int 0, .int 0, .int 0, .long 0, .ref plf_7, .ref plo_8, .ref plb_9, .ref pla_10])), (plf_7, .inl (plkf_14, 40, .inl (fun _ => 0))), (plo_8, .inl (plko_15, 40, .inl (fun _ => 0))), (plb_9, .inl (plkb_16, 40, .inr (.inl (fun _ => 0)))), (pla_10, .inl (plka_17, 100, .inl (fun _ => 0)))]) [0, 1, 2, 3, 4, 5, 6, 7, 8, 9] rfl
  have hD9 := hD.sub (ws' := [(rd, .inr (4, [.ref q_1, .int 0, .int (-1), .null, .int 0, .int 0, .int 0, .int 0, .int 0, .int 0])), (q_1, .inr (0, [.ref pl_3, .int 0, .long 0, .long 0, .int 0, .int (-1), .int 0, .ref gdt_4, .int 0, .ref gdu_5, .int 0, .ref gdx_6])), (gdt_4, .inl (gdkt_11, 4, .inl (fun _ => 0))), (gdu_5, .inl (gdku_12, 5, .inl (fun _ => 0))), (gdx_6, .inl (gdkx_13, 99, .inl (fun _ => 0))), (pl_3, .inr (3, [.int 0, .int 0, .int 0, .int 0, .long 0, .ref plf_7, .ref plo_8, .ref plb_9, .ref pla_10])), (plf_7, .inl (plkf_14, 40, .inl (fun _ => 0))), (plo_8, .inl (plko_15, 40, .inl (fun _ => 0))), (plb_9, .inl (plkb_16, 40, .inr (.inl (fun _ => 0)))), (pla_10, .inl (plka_17, 100, .inl (fun _ => 0)))]) [0, 1, 2, 3, 4, 5, 6, 7, 8, 9] (by decide) rfl
  have hK9 := hK.sub (tys' := [(gdkt_11, .int), (gdku_12, .int), (gdkx_13, .int), (plkf_14, .int), (plko_15, .int), (plkb_16, .long), (plka_17, .int)]) [0, 1, 2, 3, 4, 5, 6] rfl
  refine W.widen (k := 9) (n := 349) (by omega) (by omega) ?_
  exact W.vret hx hb hr (fun t ht hW => ⟨⟨(q_1, pl_3, gdt_4, gdu_5, gdx_6, plf_7, plo_8, plb_9, pla_10, gdkt_11, gdku_12, gdkx_13, plkf_14, plko_15, plkb_16, plka_17), rfl, trivial, by rw [ht]; exact hP9, va_K.moved hW.alike hK9, hD9⟩, hS.F ht⟩) hS.2.2 dX4_init_60

theorem dX5_init_0 : decode cX5_init 0 = .ok (.aload_n 0, 1) := by decide +kernel
theorem dX5_init_1 : decode cX5_init 1 = .ok (.invokespecial 3, 3) := by decide +kernel
theorem dX5_init_4 : decode cX5_init 4 = .ok (.aload_n 0, 1) := by decide +kernel
theorem dX5_init_5 : decode cX5_init 5 = .ok (.iconst 0, 1) := by decide +kernel
theorem dX5_init_6 : decode cX5_init 6 = .ok (.putfield 9, 3) := by decide +kernel
theorem dX5_init_9 : decode cX5_init 9 = .ok (.aload_n 0, 1) := by decide +kernel
theorem dX5_init_10 : decode cX5_init 10 = .ok (.iconst 0, 1) := by decide +kernel
theorem dX5_init_11 : decode cX5_init 11 = .ok (.putfield 15, 3) := by decide +kernel
theorem dX5_init_14 : decode cX5_init 14 = .ok (.aload_n 0, 1) := by decide +kernel
theorem dX5_init_15 : decode cX5_init 15 = .ok (.iconst 0, 1) := by decide +kernel
theorem dX5_init_16 : decode cX5_init 16 = .ok (.putfield 19, 3) := by decide +kernel
theorem dX5_init_19 : decode cX5_init 19 = .ok (.aload_n 0, 1) := by decide +kernel
theorem dX5_init_20 : decode cX5_init 20 = .ok (.bipush 60, 2) := by decide +kernel
theorem dX5_init_22 : decode cX5_init 22 = .ok (.newarray .long, 2) := by decide +kernel
theorem dX5_init_24 : decode cX5_init 24 = .ok (.putfield 22, 3) := by decide +kernel
theorem dX5_init_27 : decode cX5_init 27 = .ok (.return_, 1) := by decide +kernel
def wz_X5_init : List Cond := .code yX5_init cX5_init 1 none :: ([Cond.methodLink RX5 3 objectInit, Cond.instanceMethod objectInit, Cond.code objectInit ⟨#[0xb1]⟩ 1 none, Cond.fieldLink RX5 9 "HedgeMaze$Row" "there" "Z", Cond.fieldLink RX5 15 "HedgeMaze$Row" "width" "I", Cond.fieldLink RX5 19 "HedgeMaze$Row" "size" "I", Cond.arrayClass .long, Cond.fieldLink RX5 22 "HedgeMaze$Row" "numbers" "[J"] ++ wsX50)
theorem wd_X5_init_0 : Cond.methodLink RX5 3 objectInit ∈ wz_X5_init := List.mem_of_getElem? (i := 1) rfl
theorem wd_X5_init_1 : Cond.instanceMethod objectInit ∈ wz_X5_init := List.mem_of_getElem? (i := 2) rfl
theorem wd_X5_init_2 : Cond.code objectInit ⟨#[0xb1]⟩ 1 none ∈ wz_X5_init := List.mem_of_getElem? (i := 3) rfl
theorem wd_X5_init_3 : Cond.fieldLink RX5 9 "HedgeMaze$Row" "there" "Z" ∈ wz_X5_init := List.mem_of_getElem? (i := 4) rfl
theorem wd_X5_init_4 : Cond.fieldLink RX5 15 "HedgeMaze$Row" "width" "I" ∈ wz_X5_init := List.mem_of_getElem? (i := 5) rfl
theorem wd_X5_init_5 : Cond.fieldLink RX5 19 "HedgeMaze$Row" "size" "I" ∈ wz_X5_init := List.mem_of_getElem? (i := 6) rfl
theorem wd_X5_init_6 : Cond.arrayClass .long ∈ wz_X5_init := List.mem_of_getElem? (i := 7) rfl
theorem wd_X5_init_7 : Cond.fieldLink RX5 22 "HedgeMaze$Row" "numbers" "[J" ∈ wz_X5_init := List.mem_of_getElem? (i := 8) rfl
theorem in_X5_init_X5 : ∀ w ∈ wsX50, w ∈ wz_X5_init := fun _ h => List.mem_cons_of_mem _ (List.mem_append_right _ h)
set_option maxHeartbeats 4000000 in
set_option maxRecDepth 100000 in
theorem c_X5_init (l : Launch) (dC : Nat → ClassId) (dI : Nat → Nat → Nat) (sz : Nat) (ro : Nat)  : Met l yX5_init wz_X5_init ({ frames := 1, cells := 1, slots := 60, locals := 30 }) (va_Pc [.ref ro] (fun U => U.heap.size = sz ∧ va_P (dC, dI) vwCl [(ro, .inr (5, [.int 0, .int 0, .int 0, .null]))] U.heap ∧ va_K (dC, dI) vwCl [] U ∧ va_D (fun _ => True) [(ro, .inr (5, [.int 0, .int 0, .int 0, .null]))])) (va_Qv (fun (u : Nat × ClassId) => True) (fun (u : Nat × ClassId) (t : State) => va_P (dC, dI) vwCl [(ro, .inr (5, [.int 0, .int 0, .int 0, .ref u.1])), (u.1, .inl (u.2, 60, .inr (.inl (fun _ => 0))))] t.heap ∧ va_K (dC, dI) vwCl [(u.2, .long)] t ∧ va_D (va_A [(ro, .inr (5, [.int 0, .int 0, .int 0, .null]))] sz) [(ro, .inr (5, [.int 0, .int 0, .int 0, .ref u.1])), (u.1, .inl (u.2, 60, .inr (.inl (fun _ => 0))))]) (va_A [(ro, .inr (5, [.int 0, .int 0, .int 0, .null]))] sz)) 1 60 (va_A [(ro, .inr (5, [.int 0, .int 0, .int 0, .null]))] sz) := by
  refine Met.ofW (cc := cX5_init) (maxL := 1) (ret := none) (by decide) rfl ?_
  intro p e s m args below meth c s₁ B hml hv
  obtain ⟨rfl, hsz, hP, hK, hD0⟩ := hv
  have hx := B.exec
  have hb := B.bytes
  have hr := B.returns
  have hts := atoms_spec (ws := wz_X5_init) B.pre
  have hown : s.vm.findClass RX5 = some m.cls := findClass_of_methodNamed B.named
  have hlocks := B.notSynchronized
  have hin : meth.name = "<init>" := (name_of_methodNamed B.named B.method).1
  subst hsz
  have hD := hD0.self (sz := s.heap.size)
  generalize hAe : va_A [(ro, .inr (5, [.int 0, .int 0, .int 0, .null]))] s.heap.size = A at hD ⊢
  have hA : ∀ q : Nat, s.heap.size ≤ q → A q := fun q h => by rw [← hAe]; exact Or.inr h
  have hS : va_S A s.heap s.heap [] := va_S.rf
  have hP : va_P (dC, dI) vwCl [(ro, .inr (5, [.int 0, .int 0, .int 0, .null]))] s.heap := hP
  have hl := lv_entry ([.ref ro]) (n := 1) (Nat.le_of_ble_eq_true rfl)
  rw [lg_entry_eq]
  generalize (lg_sl ([.ref ro]) ++ List.replicate (1 - (lg_sl ([.ref ro])).length) Slot.unset).toArray = ls at hl ⊢
  have hl : lv_has ls 1 [(0, .ref ro)] := hl
  refine lv_aload_n hx hb dX5_init_0 rfl (lv_at hl 0 rfl) ?_
  refine W.objInit hx hb hown (hts _ wd_X5_init_0) (hts _ wd_X5_init_1) (hts _ wd_X5_init_2) rfl (by rw [hml]; exact hl.1) rfl dX5_init_1 (Nat.le_of_ble_eq_true rfl) (Nat.le_of_ble_eq_true rfl) ?_
  refine W.eq (g2 := F0 m 4 ls []) rfl ?_
  refine lv_aload_n hx hb dX5_init_4 rfl (lv_at hl 0 rfl) ?_
  refine lv_iconst (v := 0) hx hb dX5_init_5 (by decide) ?_
  refine va_put (D := (dC, dI)) (ci := 5) (v := .int 0) (ty := .boolean) (C := RX5) (T := TX5) (N := 4) hx hb hts in_X5_init_X5 tyX5 tyX5_ok nmX5 hown hK hP hD hS 0 rfl rfl 0 (by decide) (hts _ wd_X5_init_3) (fun _ h9 => h9) rfl (by decide +kernel) (by decide) (by decide) (Nat.le_of_ble_eq_true rfl) dX5_init_6 (fun H locs hP hD hS => ?_)
  have hP : va_P (dC, dI) vwCl [(ro, .inr (5, [.int 0, .int 0, .int 0, .null]))] H := hP
  have hD : va_D A [(ro, .inr (5, [.int 0, .int 0, .int 0, .null]))] := hD
  refine lv_aload_n hx hb dX5_init_9 rfl (lv_at hl 0 rfl) ?_
  refine lv_iconst (v := 0) hx hb dX5_init_10 (by decide) ?_
  refine va_put (D := (dC, dI)) (ci := 5) (v := .int 0) (ty := .int) (C := RX5) (T := TX5) (N := 4) hx hb hts in_X5_init_X5 tyX5 tyX5_ok nmX5 hown hK hP hD hS 0 rfl rfl 1 (by decide) (hts _ wd_X5_init_4) (fun _ h9 => h9) rfl (by decide +kernel) rfl rfl (Nat.le_of_ble_eq_true rfl) dX5_init_11 (fun H locs hP hD hS => ?_)
  have hP : va_P (dC, dI) vwCl [(ro, .inr (5, [.int 0, .int 0, .int 0, .null]))] H := hP
  have hD : va_D A [(ro, .inr (5, [.int 0, .int 0, .int 0, .null]))] := hD
  refine lv_aload_n hx hb dX5_init_14 rfl (lv_at hl 0 rfl) ?_
  refine lv_iconst (v := 0) hx hb dX5_init_15 (by decide) ?_
  refine va_put (D := (dC, dI)) (ci := 5) (v := .int 0) (ty := .int) (C := RX5) (T := TX5) (N := 4) hx hb hts in_X5_init_X5 tyX5 tyX5_ok nmX5 hown hK hP hD hS 0 rfl rfl 2 (by decide) (hts _ wd_X5_init_5) (fun _ h9 => h9) rfl (by decide +kernel) rfl rfl (Nat.le_of_ble_eq_true rfl) dX5_init_16 (fun H locs hP hD hS => ?_)
  have hP : va_P (dC, dI) vwCl [(ro, .inr (5, [.int 0, .int 0, .int 0, .null]))] H := hP
  have hD : va_D A [(ro, .inr (5, [.int 0, .int 0, .int 0, .null]))] := hD
  refine lv_aload_n hx hb dX5_init_19 rfl (lv_at hl 0 rfl) ?_
  refine lv_bipush (v := 60) hx hb dX5_init_20 (by decide) ?_
  refine va_newa (atype := .long) (ty := .long) (N' := 60) (a0 := (60, .inr (.inl (fun _ => 0)))) hx hb (hts _ wd_X5_init_6) rfl hK hP hD hS hA (fun _ => rfl) (by decide) (by decide) (by decide) (Nat.le_of_ble_eq_true rfl) (Nat.le_of_ble_eq_true rfl) dX5_init_22 (fun q_1 cA_2 H hK hP hD hS => ?_)
  have hP : va_P (dC, dI) vwCl [(ro, .inr (5, [.int 0, .int 0, .int 0, .null])), (q_1, .inl (cA_2, 60, .inr (.inl (fun _ => 0))))] H := hP
  have hD : va_D A [(ro, .inr (5, [.int 0, .int 0, .int 0, .null])), (q_1, .inl (cA_2, 60, .inr (.inl (fun _ => 0))))] := hD
  have hK : va_K (dC, dI) vwCl [(cA_2, .long)] s := hK
  refine W.widen (k := 1) (n := 60) (by omega) (by omega) ?_
  refine va_putF (D := (dC, dI)) (ci := 5) (v := .ref q_1) (ty := .array .long) (C := RX5) (T := TX5) (N := 4) hx hb hts in_X5_init_X5 tyX5 tyX5_ok nmX5 hown hK hP hD hS 0 rfl rfl 3 (by decide) (hts _ wd_X5_init_7) (fun _ h9 => h9) rfl hin rfl (by decide +kernel) rfl rfl (Nat.le_of_ble_eq_true rfl) dX5_init_24 (fun H locs hP hD hS => ?_)
  have hP : va_P (dC, dI) vwCl [(ro, .inr (5, [.int 0, .int 0, .int 0, .ref q_1])), (q_1, .inl (cA_2, 60, .inr (.inl (fun _ => 0))))] H := hP
  have hD : va_D A [(ro, .inr (5, [.int 0, .int 0, .int 0, .ref q_1])), (q_1, .inl (cA_2, 60, .inr (.inl (fun _ => 0))))] := hD
  have hP9 := hP.sub (ws' := [(ro, .inr (5, [.int 0, .int 0, .int 0, .ref q_1])), (q_1, .inl (cA_2, 60, .inr (.inl (fun _ => 0))))]) [0, 1] rfl
  have hD9 := hD.sub (ws' := [(ro, .inr (5, [.int 0, .int 0, .int 0, .ref q_1])), (q_1, .inl (cA_2, 60, .inr (.inl (fun _ => 0))))]) [0, 1] (by decide) rfl
  have hK9 := hK.sub (tys' := [(cA_2, .long)]) [0] rfl
  refine W.widen (k := 1) (n := 60) (by omega) (by omega) ?_
  exact W.vret hx hb hr (fun t ht hW => ⟨⟨(q_1, cA_2), rfl, trivial, by rw [ht]; exact hP9, va_K.moved hW.alike hK9, hD9⟩, hS.F ht⟩) hS.2.2 dX5_init_27

theorem dX1_init_0 : decode cX1_init 0 = .ok (.aload_n 0, 1) := by decide +kernel
theorem dX1_init_1 : decode cX1_init 1 = .ok (.invokespecial 3, 3) := by decide +kernel
theorem dX1_init_4 : decode cX1_init 4 = .ok (.aload_n 0, 1) := by decide +kernel
theorem dX1_init_5 : decode cX1_init 5 = .ok (.iconst 3, 1) := by decide +kernel
theorem dX1_init_6 : decode cX1_init 6 = .ok (.newarray .int, 2) := by decide +kernel
theorem dX1_init_8 : decode cX1_init 8 = .ok (.putfield 9, 3) := by decide +kernel
theorem dX1_init_11 : decode cX1_init 11 = .ok (.aload_n 0, 1) := by decide +kernel
theorem dX1_init_12 : decode cX1_init 12 = .ok (.iconst (-1), 1) := by decide +kernel
theorem dX1_init_13 : decode cX1_init 13 = .ok (.putfield 15, 3) := by decide +kernel
theorem dX1_init_16 : decode cX1_init 16 = .ok (.aload_n 0, 1) := by decide +kernel
theorem dX1_init_17 : decode cX1_init 17 = .ok (.iconst 3, 1) := by decide +kernel
theorem dX1_init_18 : decode cX1_init 18 = .ok (.sipush 480, 3) := by decide +kernel
theorem dX1_init_21 : decode cX1_init 21 = .ok (.multianewarray 19 2, 4) := by decide +kernel
theorem dX1_init_25 : decode cX1_init 25 = .ok (.putfield 21, 3) := by decide +kernel
theorem dX1_init_28 : decode cX1_init 28 = .ok (.aload_n 0, 1) := by decide +kernel
theorem dX1_init_29 : decode cX1_init 29 = .ok (.bipush 40, 2) := by decide +kernel
theorem dX1_init_31 : decode cX1_init 31 = .ok (.newarray .int, 2) := by decide +kernel
theorem dX1_init_33 : decode cX1_init 33 = .ok (.putfield 24, 3) := by decide +kernel
theorem dX1_init_36 : decode cX1_init 36 = .ok (.return_, 1) := by decide +kernel
def wz_X1_init : List Cond := .code yX1_init cX1_init 1 none :: ([Cond.methodLink RX1 3 objectInit, Cond.instanceMethod objectInit, Cond.code objectInit ⟨#[0xb1]⟩ 1 none, Cond.arrayClass .int, Cond.fieldLink RX1 9 "HedgeMaze$Gardeners" "opened" "[I", Cond.fieldLink RX1 15 "HedgeMaze$Gardeners" "lastDrawn" "I", Cond.classLink RX1 19 "[[I", Cond.fieldLink RX1 21 "HedgeMaze$Gardeners" "lists" "[[I", Cond.fieldLink RX1 24 "HedgeMaze$Gardeners" "parts" "[I"] ++ wsX10)
theorem wd_X1_init_0 : Cond.methodLink RX1 3 objectInit ∈ wz_X1_init := List.mem_of_getElem? (i := 1) rfl
theorem wd_X1_init_1 : Cond.instanceMethod objectInit ∈ wz_X1_init := List.mem_of_getElem? (i := 2) rfl
theorem wd_X1_init_2 : Cond.code objectInit ⟨#[0xb1]⟩ 1 none ∈ wz_X1_init := List.mem_of_getElem? (i := 3) rfl
theorem wd_X1_init_3 : Cond.arrayClass .int ∈ wz_X1_init := List.mem_of_getElem? (i := 4) rfl
theorem wd_X1_init_4 : Cond.fieldLink RX1 9 "HedgeMaze$Gardeners" "opened" "[I" ∈ wz_X1_init := List.mem_of_getElem? (i := 5) rfl
theorem wd_X1_init_5 : Cond.fieldLink RX1 15 "HedgeMaze$Gardeners" "lastDrawn" "I" ∈ wz_X1_init := List.mem_of_getElem? (i := 6) rfl
theorem wd_X1_init_6 : Cond.classLink RX1 19 "[[I" ∈ wz_X1_init := List.mem_of_getElem? (i := 7) rfl
theorem wd_X1_init_7 : Cond.fieldLink RX1 21 "HedgeMaze$Gardeners" "lists" "[[I" ∈ wz_X1_init := List.mem_of_getElem? (i := 8) rfl
theorem wd_X1_init_8 : Cond.fieldLink RX1 24 "HedgeMaze$Gardeners" "parts" "[I" ∈ wz_X1_init := List.mem_of_getElem? (i := 9) rfl
theorem in_X1_init_X1 : ∀ w ∈ wsX10, w ∈ wz_X1_init := fun _ h => List.mem_cons_of_mem _ (List.mem_append_right _ h)
set_option maxHeartbeats 4000000 in
set_option maxRecDepth 100000 in
theorem c_X1_init (l : Launch) (dC : Nat → ClassId) (dI : Nat → Nat → Nat) (sz : Nat) (gn : Nat)  : Met l yX1_init wz_X1_init ({ frames := 1, cells := 6, slots := 1486, locals := 30 }) (va_Pc [.ref gn] (fun U => U.heap.size = sz ∧ va_P (dC, dI) vwCl [(gn, .inr (1, [.null, .int 0, .null, .null]))] U.heap ∧ va_K (dC, dI) vwCl [] U ∧ va_D (fun _ => True) [(gn, .inr (1, [.null, .int 0, .null, .null]))] ∧ Kx U)) (va_Qv (fun (u : Nat × Nat × Nat × Nat × Nat × Nat × ClassId × ClassId × ClassId × ClassId × ClassId × ClassId × (Nat → Option Nat)) => (u.2.2.2.2.2.2.2.2.2.2.2.2 0 = some u.2.2.2.1) ∧ (u.2.2.2.2.2.2.2.2.2.2.2.2 1 = some u.2.2.2.2.1) ∧ (u.2.2.2.2.2.2.2.2.2.2.2.2 2 = some u.2.2.2.2.2.1)) (fun (u : Nat × Nat × Nat × Nat × Nat × Nat × ClassId × ClassId × ClassId × ClassId × ClassId × ClassId × (Nat → Option Nat)) (t : State) => va_P (dC, dI) vwCl [(gn, .inr (1, [.ref u.1, .int (-1), .ref u.2.1, .ref u.2.2.1])), (u.1, .inl (u.2.2.2.2.2.2.1, 3, .inl (fun _ => 0))), (u.2.2.1, .inl (u.2.2.2.2.2.2.2.1, 40, .inl (fun _ => 0))), (u.2.1, .inl (u.2.2.2.2.2.2.2.2.1, 3, .inr (.inr (.inr (.inr u.2.2.2.2.2.2.2.2.2.2.2.2))))), (u.2.2.2.1, .inl (u.2.2.2.2.2.2.2.2.2.1, 480, .inl (fun _ => 0))), (u.2.2.2.2.1, .inl (u.2.2.2.2.2.2.2.2.2.2.1, 480, .inl (fun _ => 0))), (u.2.2.2.2.2.1, .inl (u.2.2.2.2.2.2.2.2.2.2.2.1, 480, .inl (fun _ => 0)))] t.heap ∧ va_K (dC, dI) vwCl [(u.2.2.2.2.2.2.1, .int), (u.2.2.2.2.2.2.2.1, .int), (u.2.2.2.2.2.2.2.2.1, .array .int), (u.2.2.2.2.2.2.2.2.2.1, .int), (u.2.2.2.2.2.2.2.2.2.2.1, .int), (u.2.2.2.2.2.2.2.2.2.2.2.1, .int)] t ∧ va_D (va_A [(gn, .inr (1, [.null, .int 0, .null, .null]))] sz) [(gn, .inr (1, [.ref u.1, .int (-1), .ref u.2.1, .ref u.2.2.1])), (u.1, .inl (u.2.2.2.2.2.2.1, 3, .inl (fun _ => 0))), (u.2.2.1, .inl (u.2.2.2.2.2.2.2.1, 40, .inl (fun _ => 0))), (u.2.1, .inl (u.2.2.2.2.2.2.2.2.1, 3, .inr (.inr (.inr (.inr u.2.2.2.2.2.2.2.2.2.2.2.2))))), (u.2.2.2.1, .inl (u.2.2.2.2.2.2.2.2.2.1, 480, .inl (fun _ => 0))), (u.2.2.2.2.1, .inl (u.2.2.2.2.2.2.2.2.2.2.1, 480, .inl (fun _ => 0))), (u.2.2.2.2.2.1, .inl (u.2.2.2.2.2.2.2.2.2.2.2.1, 480, .inl (fun _ => 0)))]) (va_A [(gn, .inr (1, [.null, .int 0, .null, .null]))] sz)) 6 1486 (va_A [(gn, .inr (1, [.null, .int 0, .null, .null]))] sz) := by
  refine Met.ofW (cc := cX1_init) (maxL := 1) (ret := none) (by decide) rfl ?_
  intro p e s m args below meth c s₁ B hml hv
  obtain ⟨rfl, hsz, hP, hK, hD0, hE0⟩ := hv
  have hx := B.exec
  have hb := B.bytes
  have hr := B.returns
  have hts := atoms_spec (ws := wz_X1_init) B.pre
  have hown : s.vm.findClass RX1 = some m.cls := findClass_of_methodNamed B.named
  have hlocks := B.notSynchronized
  have hin : meth.name = "<init>" := (name_of_methodNamed B.named B.method).1
  subst hsz
  have hD := hD0.self (sz := s.heap.size)
  generalize hAe : va_A [(gn, .inr (1, [.null, .int 0, .null, .null]))] s.heap.size = A at hD ⊢
  have hA : ∀ q : Nat, s.heap.size ≤ q → A q := fun q h => by rw [← hAe]; exact Or.inr h
  have hS : va_S A s.heap s.heap [] := va_S.rf
  have hP : va_P (dC, dI) vwCl [(gn, .inr (1, [.null, .int 0, .null, .null]))] s.heap := hP
  have hl := lv_entry ([.ref gn]) (n := 1) (Nat.le_of_ble_eq_true rfl)
  rw [lg_entry_eq]
  generalize (lg_sl ([.ref gn]) ++ List.replicate (1 - (lg_sl ([.ref gn])).length) Slot.unset).toArray = ls at hl ⊢
  have hl : lv_has ls 1 [(0, .ref gn)] := hl
  refine lv_aload_n hx hb dX1_init_0 rfl (lv_at hl 0 rfl) ?_
  refine W.objInit hx hb hown (hts _ wd_X1_init_0) (hts _ wd_X1_init_1) (hts _ wd_X1_init_2) rfl (by rw [hml]; exact hl.1) rfl dX1_init_1 (Nat.le_of_ble_eq_true rfl) (Nat.le_of_ble_eq_true rfl) ?_
  refine W.eq (g2 := F0 m 4 ls []) rfl ?_
  refine lv_aload_n hx hb dX1_init_4 rfl (lv_at hl 0 rfl) ?_
  refine lv_iconst (v := 3) hx hb dX1_init_5 (by decide) ?_
  refine va_newa (atype := .int) (ty := .int) (N' := 3) (a0 := (3, .inl (fun _ => 0))) hx hb (hts _ wd_X1_init_3) rfl hK hP hD hS hA (fun _ => rfl) (by decide) (by decide) (by decide) (Nat.le_of_ble_eq_true rfl) (Nat.le_of_ble_eq_true rfl) dX1_init_6 (fun q_1 cA_2 H hK hP hD hS => ?_)
  have hP : va_P (dC, dI) vwCl [(gn, .inr (1, [.null, .int 0, .null, .null])), (q_1, .inl (cA_2, 3, .inl (fun _ => 0)))] H := hP
  have hD : va_D A [(gn, .inr (1, [.null, .int 0, .null, .null])), (q_1, .inl (cA_2, 3, .inl (fun _ => 0)))] := hD
  have hK : va_K (dC, dI) vwCl [(cA_2, .int)] s := hK
  refine W.widen (k := 1) (n := 3) (by omega) (by omega) ?_
  refine va_putF (D := (dC, dI)) (ci := 1) (v := .ref q_1) (ty := .array .int) (C := RX1) (T := TX1) (N := 4) hx hb hts in_X1_init_X1 tyX1 tyX1_ok nmX1 hown hK hP hD hS 0 rfl rfl 0 (by decide) (hts _ wd_X1_init_4) (fun _ h9 => h9) rfl hin rfl (by decide +kernel) rfl rfl (Nat.le_of_ble_eq_true rfl) dX1_init_8 (fun H locs hP hD hS => ?_)
  have hP : va_P (dC, dI) vwCl [(gn, .inr (1, [.ref q_1, .int 0, .null, .null])), (q_1, .inl (cA_2, 3, .inl (fun _ => 0)))] H := hP
  have hD : va_D A [(gn, .inr (1, [.ref q_1, .int 0, .null, .null])), (q_1, .inl (cA_2, 3, .inl (fun _ => 0)))] := hD
  refine lv_aload_n hx hb dX1_init_11 rfl (lv_at hl 0 rfl) ?_
  refine lv_iconst (v := -1) hx hb dX1_init_12 (by decide) ?_
  refine va_put (D := (dC, dI)) (ci := 1) (v := .int (-1)) (ty := .int) (C := RX1) (T := TX1) (N := 4) hx hb hts in_X1_init_X1 tyX1 tyX1_ok nmX1 hown hK hP hD hS 0 rfl rfl 1 (by decide) (hts _ wd_X1_init_5) (fun _ h9 => h9) rfl (by decide +kernel) rfl rfl (Nat.le_of_ble_eq_true rfl) dX1_init_13 (fun H locs hP hD hS => ?_)
  have hP : va_P (dC, dI) vwCl [(gn, .inr (1, [.ref q_1, .int (-1), .null, .null])), (q_1, .inl (cA_2, 3, .inl (fun _ => 0)))] H := hP
  have hD : va_D A [(gn, .inr (1, [.ref q_1, .int (-1), .null, .null])), (q_1, .inl (cA_2, 3, .inl (fun _ => 0)))] := hD
  refine lv_aload_n hx hb dX1_init_16 rfl (lv_at hl 0 rfl) ?_
  refine lv_iconst (v := 3) hx hb dX1_init_17 (by decide) ?_
  refine lv_sipush (v := 480) hx hb dX1_init_18 (by decide) ?_
  have hP : va_P (dC, dI) vwCl ([(gn, .inr (1, [.ref q_1, .int (-1), .null, .null])), (q_1, .inl (cA_2, 3, .inl (fun _ => 0)))] ++ va_pl [] (fun _ => .inr (0, []))) H := hP
  have hD : va_D A ([(gn, .inr (1, [.ref q_1, .int (-1), .null, .null])), (q_1, .inl (cA_2, 3, .inl (fun _ => 0)))] ++ va_pl [] (fun _ => .inr (0, []))) := hD
  refine va_mna (ty := .int) (cy := cA_2) (N' := 3) (K' := 480) (z := (480, .inl (fun _ => 0))) hx hb hown (hts _ wd_X1_init_6) hE0.2.2.2.2.2.2.2.2.2 (hts _ wd_X1_init_3) (hK.2 0 _ rfl).2 hK hP hD hS hA (by decide) (by decide) (by decide) (by decide) (by decide) (by decide) (by decide) rfl rfl (Nat.le_of_ble_eq_true rfl) (Nat.le_of_ble_eq_true rfl) (fun _ => i_inner _ _) dX1_init_21 (fun q_3 r_5 cA_4 H _ _ hK hP hD hS => ?_)
  have hP : va_P (dC, dI) vwCl [(gn, .inr (1, [.ref q_1, .int (-1), .null, .null])), (q_1, .inl (cA_2, 3, .inl (fun _ => 0))), (q_3, .inl (cA_4, 3, .inr (.inr (.inr (.inr (fun i => if i < 3 then some (r_5 i) else none)))))), ((r_5 0), .inl (cA_2, 480, .inl (fun _ => 0))), ((r_5 1), .inl (cA_2, 480, .inl (fun _ => 0))), ((r_5 2), .inl (cA_2, 480, .inl (fun _ => 0)))] H := by rw [← vr_rows (fun a _ h9 => by cases h9)] at hP; exact hP
  have hD : va_D A [(gn, .inr (1, [.ref q_1, .int (-1), .null, .null])), (q_1, .inl (cA_2, 3, .inl (fun _ => 0))), (q_3, .inl (cA_4, 3, .inr (.inr (.inr (.inr (fun i => if i < 3 then some (r_5 i) else none)))))), ((r_5 0), .inl (cA_2, 480, .inl (fun _ => 0))), ((r_5 1), .inl (cA_2, 480, .inl (fun _ => 0))), ((r_5 2), .inl (cA_2, 480, .inl (fun _ => 0)))] := by rw [← vr_rows (fun a _ h9 => by cases h9)] at hD; exact hD
  refine W.widen (k := 5) (n := 1446) (by omega) (by omega) ?_
  refine va_putF (D := (dC, dI)) (ci := 1) (v := .ref q_3) (ty := .array (.array .int)) (C := RX1) (T := TX1) (N := 4) hx hb hts in_X1_init_X1 tyX1 tyX1_ok nmX1 hown hK hP hD hS 0 rfl rfl 2 (by decide) (hts _ wd_X1_init_7) (fun _ h9 => h9) rfl hin rfl (by decide +kernel) rfl rfl (Nat.le_of_ble_eq_true rfl) dX1_init_25 (fun H locs hP hD hS => ?_)
  have hP : va_P (dC, dI) vwCl [(gn, .inr (1, [.ref q_1, .int (-1), .ref q_3, .null])), (q_1, .inl (cA_2, 3, .inl (fun _ => 0))), (q_3, .inl (cA_4, 3, .inr (.inr (.inr (.inr (fun i => if i < 3 then some (r_5 i) else none)))))), ((r_5 0), .inl (cA_2, 480, .inl (fun _ => 0))), ((r_5 1), .inl (cA_2, 480, .inl (fun _ => 0))), ((r_5 2), .inl (cA_2, 480, .inl (fun _ => 0)))] H := hP
  have hD : va_D A [(gn, .inr (1, [.ref q_1, .int (-1), .ref q_3, .null])), (q_1, .inl (cA_2, 3, .inl (fun _ => 0))), (q_3, .inl (cA_4, 3, .inr (.inr (.inr (.inr (fun i => if i < 3 then some (r_5 i) else none)))))), ((r_5 0), .inl (cA_2, 480, .inl (fun _ => 0))), ((r_5 1), .inl (cA_2, 480, .inl (fun _ => 0))), ((r_5 2), .inl (cA_2, 480, .inl (fun _ => 0)))] := hD
  refine lv_aload_n hx hb dX1_init_28 rfl (lv_at hl 0 rfl) ?_
  refine lv_bipush (v := 40) hx hb dX1_init_29 (by decide) ?_
  refine va_newa (atype := .int) (ty := .int) (N' := 40) (a0 := (40, .inl (fun _ => 0))) hx hb (hts _ wd_X1_init_3) rfl hK hP hD hS hA (fun _ => rfl) (by decide) (by decide) (by decide) (Nat.le_of_ble_eq_true rfl) (Nat.le_of_ble_eq_true rfl) dX1_init_31 (fun q_6 cA_7 H hK hP hD hS => ?_)
  have hP : va_P (dC, dI) vwCl [(gn, .inr (1, [.ref q_1, .int (-1), .ref q_3, .null])), (q_1, .inl (cA_2, 3, .inl (fun _ => 0))), (q_3, .inl (cA_4, 3, .inr (.inr (.inr (.inr (fun i => if i < 3 then some (r_5 i) else none)))))), ((r_5 0), .inl (cA_2, 480, .inl (fun _ => 0))), ((r_5 1), .inl (cA_2, 480, .inl (fun _ => 0))), ((r_5 2), .inl (cA_2, 480, .inl (fun _ => 0))), (q_6, .inl (cA_7, 40, .inl (fun _ => 0)))] H := hP
  have hD : va_D A [(gn, .inr (1, [.ref q_1, .int (-1), .ref q_3, .null])), (q_1, .inl (cA_2, 3, .inl (fun _ => 0))), (q_3, .inl (cA_4, 3, .inr (.inr (.inr (.inr (fun i => if i < 3 then some (r_5 i) else none)))))), ((r_5 0), .inl (cA_2, 480, .inl (fun _ => 0))), ((r_5 1), .inl (cA_2, 480, .inl (fun _ => 0))), ((r_5 2), .inl (cA_2, 480, .inl (fun _ => 0))), (q_6, .inl (cA_7, 40, .inl (fun _ => 0)))] := hD
  have hK : va_K (dC, dI) vwCl [(cA_2, .int), (cA_4, .array .int), (cA_7, .int)] s := hK
  refine W.widen (k := 6) (n := 1486) (by omega) (by omega) ?_
  refine va_putF (D := (dC, dI)) (ci := 1) (v := .ref q_6) (ty := .array .int) (C := RX1) (T := TX1) (N := 4) hx hb hts in_X1_init_X1 tyX1 tyX1_ok nmX1 hown hK hP hD hS 0 rfl rfl 3 (by decide) (hts _ wd_X1_init_8) (fun _ h9 => h9) rfl hin rfl (by decide +kernel) rfl rfl (Nat.le_of_ble_eq_true rfl) dX1_init_33 (fun H locs hP hD hS => ?_)
  have hP : va_P (dC, dI) vwCl [(gn, .inr (1, [.ref q_1, .int (-1), .ref q_3, .ref q_6])), (q_1, .inl (cA_2, 3, .inl (fun _ => 0))), (q_3, .inl (cA_4, 3, .inr (.inr (.inr (.inr (fun i => if i < 3 then some (r_5 i) else none)))))), ((r_5 0), .inl (cA_2, 480, .inl (fun _ => 0))), ((r_5 1), .inl (cA_2, 480, .inl (fun _ => 0))), ((r_5 2), .inl (cA_2, 480, .inl (fun _ => 0))), (q_6, .inl (cA_7, 40, .inl (fun _ => 0)))] H := hP
  have hD : va_D A [(gn, .inr (1, [.ref q_1, .int (-1), .ref q_3, .ref q_6])), (q_1, .inl (cA_2, 3, .inl (fun _ => 0))), (q_3, .inl (cA_4, 3, .inr (.inr (.inr (.inr (fun i => if i < 3 then some (r_5 i) else none)))))), ((r_5 0), .inl (cA_2, 480, .inl (fun _ => 0))), ((r_5 1), .inl (cA_2, 480, .inl (fun _ => 0))), ((r_5 2), .inl (cA_2, 480, .inl (fun _ => 0))), (q_6, .inl (cA_7, 40, .inl (fun _ => 0)))] := hD
  have hP9 := hP.sub (ws' := [(gn, .inr (1, [.ref q_1, .int (-1), .ref q_3, .ref q_6])), (q_1, .inl (cA_2, 3, .inl (fun _ => 0))), (q_6, .inl (cA_7, 40, .inl (fun _ => 0))), (q_3, .inl (cA_4, 3, .inr (.inr (.inr (.inr (fun i => if i < 3 then some (r_5 i) else none)))))), ((r_5 0), .inl (cA_2, 480, .inl (fun _ => 0))), ((r_5 1), .inl (cA_2, 480, .inl (fun _ => 0))), ((r_5 2), .inl (cA_2, 480, .inl (fun _ => 0)))]) [0, 1, 6, 2, 3, 4, 5] rfl
  have hD9 := hD.sub (ws' := [(gn, .inr (1, [.ref q_1, .int (-1), .ref q_3, .ref q_6])), (q_1, .inl (cA_2, 3, .inl (fun _ => 0))), (q_6, .inl (cA_7, 40, .inl (fun _ => 0))), (q_3, .inl (cA_4, 3, .inr (.inr (.inr (.inr (fun i => if i < 3 then some (r_5 i) else none)))))), ((r_5 0), .inl (cA_2, 480, .inl (fun _ => 0))), ((r_5 1), .inl (cA_2, 480, .inl (fun _ => 0))), ((r_5 2), .inl (cA_2, 480, .inl (fun _ => 0)))]) [0, 1, 6, 2, 3, 4, 5] (by decide) rfl
  have hK9 := hK.sub (tys' := [(cA_2, .int), (cA_7, .int), (cA_4, .array .int), (cA_2, .int), (cA_2, .int), (cA_2, .int)]) [0, 2, 1, 0, 0, 0] rfl
  refine W.widen (k := 6) (n := 1486) (by omega) (by omega) ?_
  exact W.vret hx hb hr (fun t ht hW => ⟨⟨(q_1, q_3, q_6, (r_5 0), (r_5 1), (r_5 2), cA_2, cA_7, cA_4, cA_2, cA_2, cA_2, (fun i => if i < 3 then some (r_5 i) else none : Nat → Option Nat)), rfl, ⟨rfl, rfl, rfl⟩, by rw [ht]; exact hP9, va_K.moved hW.alike hK9, hD9⟩, hS.F ht⟩) hS.2.2 dX1_init_36

theorem dX2_init_0 : decode cX2_init 0 = .ok (.aload_n 0, 1) := by decide +kernel
theorem dX2_init_1 : decode cX2_init 1 = .ok (.invokespecial 3, 3) := by decide +kernel
theorem dX2_init_4 : decode cX2_init 4 = .ok (.aload_n 0, 1) := by decide +kernel
theorem dX2_init_5 : decode cX2_init 5 = .ok (.iconst 5, 1) := by decide +kernel
theorem dX2_init_6 : decode cX2_init 6 = .ok (.newarray .int, 2) := by decide +kernel
theorem dX2_init_8 : decode cX2_init 8 = .ok (.putfield 9, 3) := by decide +kernel
theorem dX2_init_11 : decode cX2_init 11 = .ok (.aload_n 0, 1) := by decide +kernel
theorem dX2_init_12 : decode cX2_init 12 = .ok (.iconst 5, 1) := by decide +kernel
theorem dX2_init_13 : decode cX2_init 13 = .ok (.newarray .int, 2) := by decide +kernel
theorem dX2_init_15 : decode cX2_init 15 = .ok (.putfield 15, 3) := by decide +kernel
theorem dX2_init_18 : decode cX2_init 18 = .ok (.aload_n 0, 1) := by decide +kernel
theorem dX2_init_19 : decode cX2_init 19 = .ok (.iconst 5, 1) := by decide +kernel
theorem dX2_init_20 : decode cX2_init 20 = .ok (.bipush 25, 2) := by decide +kernel
theorem dX2_init_22 : decode cX2_init 22 = .ok (.multianewarray 18 2, 4) := by decide +kernel
theorem dX2_init_26 : decode cX2_init 26 = .ok (.putfield 20, 3) := by decide +kernel
theorem dX2_init_29 : decode cX2_init 29 = .ok (.return_, 1) := by decide +kernel
def wz_X2_init : List Cond := .code yX2_init cX2_init 1 none :: ([Cond.methodLink RX2 3 objectInit, Cond.instanceMethod objectInit, Cond.code objectInit ⟨#[0xb1]⟩ 1 none, Cond.arrayClass .int, Cond.fieldLink RX2 9 "HedgeMaze$Host" "best" "[I", Cond.fieldLink RX2 15 "HedgeMaze$Host" "order" "[I", Cond.classLink RX2 18 "[[I", Cond.fieldLink RX2 20 "HedgeMaze$Host" "stepsFrom" "[[I"] ++ wsX20)
theorem wd_X2_init_0 : Cond.methodLink RX2 3 objectInit ∈ wz_X2_init := List.mem_of_getElem? (i := 1) rfl
theorem wd_X2_init_1 : Cond.instanceMethod objectInit ∈ wz_X2_init := List.mem_of_getElem? (i := 2) rfl
theorem wd_X2_init_2 : Cond.code objectInit ⟨#[0xb1]⟩ 1 none ∈ wz_X2_init := List.mem_of_getElem? (i := 3) rfl
theorem wd_X2_init_3 : Cond.arrayClass .int ∈ wz_X2_init := List.mem_of_getElem? (i := 4) rfl
theorem wd_X2_init_4 : Cond.fieldLink RX2 9 "HedgeMaze$Host" "best" "[I" ∈ wz_X2_init := List.mem_of_getElem? (i := 5) rfl
theorem wd_X2_init_5 : Cond.fieldLink RX2 15 "HedgeMaze$Host" "order" "[I" ∈ wz_X2_init := List.mem_of_getElem? (i := 6) rfl
theorem wd_X2_init_6 : Cond.classLink RX2 18 "[[I" ∈ wz_X2_init := List.mem_of_getElem? (i := 7) rfl
theorem wd_X2_init_7 : Cond.fieldLink RX2 20 "HedgeMaze$Host" "stepsFrom" "[[I" ∈ wz_X2_init := List.mem_of_getElem? (i := 8) rfl
theorem in_X2_init_X2 : ∀ w ∈ wsX20, w ∈ wz_X2_init := fun _ h => List.mem_cons_of_mem _ (List.mem_append_right _ h)
set_option maxHeartbeats 4000000 in
set_option maxRecDepth 100000 in
theorem c_X2_init (l : Launch) (dC : Nat → ClassId) (dI : Nat → Nat → Nat) (sz : Nat) (ho : Nat)  : Met l yX2_init wz_X2_init ({ frames := 1, cells := 8, slots := 140, locals := 30 }) (va_Pc [.ref ho] (fun U => U.heap.size = sz ∧ va_P (dC, dI) vwCl [(ho, .inr (2, [.null, .null, .null]))] U.heap ∧ va_K (dC, dI) vwCl [] U ∧ va_D (fun _ => True) [(ho, .inr (2, [.null, .null, .null]))] ∧ Kx U)) (va_Qv (fun (u : Nat × Nat × Nat × Nat × Nat × Nat × Nat × Nat × ClassId × ClassId × ClassId × ClassId × ClassId × ClassId × ClassId × ClassId × (Nat → Option Nat)) => (u.2.2.2.2.2.2.2.2.2.2.2.2.2.2.2.2 0 = some u.2.2.2.1) ∧ (u.2.2.2.2.2.2.2.2.2.2.2.2.2.2.2.2 1 = some u.2.2.2.2.1) ∧ (u.2.2.2.2.2.2.2.2.2.2.2.2.2.2.2.2 2 = some u.2.2.2.2.2.1) ∧ (u.2.2.2.2.2.2.2.2.2.2.2.2.2.2.2.2 3 = some u.2.2.2.2.2.2.1) ∧ (u.2.2.2.2.2.2.2.2.2.2.2.2.2.2.2.2 4 = some u.2.2.2.2.2.2.2.1)) (fun (u : Nat × Nat × Nat × Nat × Nat × Nat × Nat × Nat × ClassId × ClassId × ClassId × ClassId × ClassId × ClassId × ClassId × ClassId × (Nat → Option Nat)) (t : State) => va_P (dC, dI) vwCl [(ho, .inr (2, [.ref u.1, .ref u.2.1, .ref u.2.2.1])), (u.1, .inl (u.2.2.2.2.2.2.2.2.1, 5, .inl (fun _ => 0))), (u.2.1, .inl (u.2.2.2.2.2.2.2.2.2.1, 5, .inl (fun _ => 0))), (u.2.2.1, .inl (u.2.2.2.2.2.2.2.2.2.2.1, 5, .inr (.inr (.inr (.inr u.2.2.2.2.2.2.2.2.2.2.2.2.2.2.2.2))))), (u.2.2.2.1, .inl (u.2.2.2.2.2.2.2.2.2.2.2.1, 25, .inl (fun _ => 0))), (u.2.2.2.2.1, .inl (u.2.2.2.2.2.2.2.2.2.2.2.2.1, 25, .inl (fun _ => 0))), (u.2.2.2.2.2.1, .inl (u.2.2.2.2.2.2.2.2.2.2.2.2.2.1, 25, .inl (fun _ => 0))), (u.2.2.2.2.2.2.1, .inl (u.2.2.2.2.2.2.2.2.2.2.2.2.2.2.1, 25, .inl (fun _ => 0))), (u.2.2.2.2.2.2.2.1, .inl (u.2.2.2.2.2.2.2.2.2.2.2.2.2.2.2.1, 25, .inl (fun _ => 0)))] t.heap ∧ va_K (dC, dI) vwCl [(u.2.2.2.2.2.2.2.2.1, .int), (u.2.2.2.2.2.2.2.2.2.1, .int), (u.2.2.2.2.2.2.2.2.2.2.1, .array .int), (u.2.2.2.2.2.2.2.2.2.2.2.1, .int), (u.2.2.2.2.2.2.2.2.2.2.2.2.1, .int), (u.2.2.2.2.2.2.2.2.2.2.2.2.2.1, .int), (u.2.2.2.2.2.2.2.2.2.2.2.2.2.2.1, .int), (u.2.2.2.2.2.2.2.2.2.2.2.2.2.2.2.1, .int)] t ∧ va_D (va_A [(ho, .inr (2, [.null, .null, .null]))] sz) [(ho, .inr (2, [.ref u.1, .ref u.2.1, .ref u.2.2.1])), (u.1, .inl (u.2.2.2.2.2.2.2.2.1, 5, .inl (fun _ => 0))), (u.2.1, .inl (u.2.2.2.2.2.2.2.2.2.1, 5, .inl (fun _ => 0))), (u.2.2.1, .inl (u.2.2.2.2.2.2.2.2.2.2.1, 5, .inr (.inr (.inr (.inr u.2.2.2.2.2.2.2.2.2.2.2.2.2.2.2.2))))), (u.2.2.2.1, .inl (u.2.2.2.2.2.2.2.2.2.2.2.1, 25, .inl (fun _ => 0))), (u.2.2.2.2.1, .inl (u.2.2.2.2.2.2.2.2.2.2.2.2.1, 25, .inl (fun _ => 0))), (u.2.2.2.2.2.1, .inl (u.2.2.2.2.2.2.2.2.2.2.2.2.2.1, 25, .inl (fun _ => 0))), (u.2.2.2.2.2.2.1, .inl (u.2.2.2.2.2.2.2.2.2.2.2.2.2.2.1, 25, .inl (fun _ => 0))), (u.2.2.2.2.2.2.2.1, .inl (u.2.2.2.2.2.2.2.2.2.2.2.2.2.2.2.1, 25, .inl (fun _ => 0)))]) (va_A [(ho, .inr (2, [.null, .null, .null]))] sz)) 8 140 (va_A [(ho, .inr (2, [.null, .null, .null]))] sz) := by
  refine Met.ofW (cc := cX2_init) (maxL := 1) (ret := none) (by decide) rfl ?_
  intro p e s m args below meth c s₁ B hml hv
  obtain ⟨rfl, hsz, hP, hK, hD0, hE0⟩ := hv
  have hx := B.exec
  have hb := B.bytes
  have hr := B.returns
  have hts := atoms_spec (ws := wz_X2_init) B.pre
  have hown : s.vm.findClass RX2 = some m.cls := findClass_of_methodNamed B.named
  have hlocks := B.notSynchronized
  have hin : meth.name = "<init>" := (name_of_methodNamed B.named B.method).1
  subst hsz
  have hD := hD0.self (sz := s.heap.size)
  generalize hAe : va_A [(ho, .inr (2, [.null, .null, .null]))] s.heap.size = A at hD ⊢
  have hA : ∀ q : Nat, s.heap.size ≤ q → A q := fun q h => by rw [← hAe]; exact Or.inr h
  have hS : va_S A s.heap s.heap [] := va_S.rf
  have hP : va_P (dC, dI) vwCl [(ho, .inr (2, [.null, .null, .null]))] s.heap := hP
  have hl := lv_entry ([.ref ho]) (n := 1) (Nat.le_of_ble_eq_true rfl)
  rw [lg_entry_eq]
  generalize (lg_sl ([.ref ho]) ++ List.replicate (1 - (lg_sl ([.ref ho])).length) Slot.unset).toArray = ls at hl ⊢
  have hl : lv_has ls 1 [(0, .ref ho)] := hl
  refine lv_aload_n hx hb dX2_init_0 rfl (lv_at hl 0 rfl) ?_
  refine W.objInit hx hb hown (hts _ wd_X2_init_0) (hts _ wd_X2_init_1) (hts _ wd_X2_init_2) rfl (by rw [hml]; exact hl.1) rfl dX2_init_1 (Nat.le_of_ble_eq_true rfl) (Nat.le_of_ble_eq_true rfl) ?_
  refine W.eq (g2 := F0 m 4 ls []) rfl ?_
  refine lv_aload_n hx hb dX2_init_4 rfl (lv_at hl 0 rfl) ?_
  refine lv_iconst (v := 5) hx hb dX2_init_5 (by decide) ?_
  refine va_newa (atype := .int) (ty := .int) (N' := 5) (a0 := (5, .inl (fun _ => 0))) hx hb (hts _ wd_X2_init_3) rfl hK hP hD hS hA (fun _ => rfl) (by decide) (by decide) (by decide) (Nat.le_of_ble_eq_true rfl) (Nat.le_of_ble_eq_true rfl) dX2_init_6 (fun q_1 cA_2 H hK hP hD hS => ?_)
  have hP : va_P (dC, dI) vwCl [(ho, .inr (2, [.null, .null, .null])), (q_1, .inl (cA_2, 5, .inl (fun _ => 0)))] H := hP
  have hD : va_D A [(ho, .inr (2, [.null, .null, .null])), (q_1, .inl (cA_2, 5, .inl (fun _ => 0)))] := hD
  have hK : va_K (dC, dI) vwCl [(cA_2, .int)] s := hK
  refine W.widen (k := 1) (n := 5) (by omega) (by omega) ?_
  refine va_putF (D := (dC, dI)) (ci := 2) (v := .ref q_1) (ty := .array .int) (C := RX2) (T := TX2) (N := 3) hx hb hts in_X2_init_X2 tyX2 tyX2_ok nmX2 hown hK hP hD hS 0 rfl rfl 0 (by decide) (hts _ wd_X2_init_4) (fun _ h9 => h9) rfl hin rfl (by decide +kernel) rfl rfl (Nat.le_of_ble_eq_true rfl) dX2_init_8 (fun H locs hP hD hS => ?_)
  have hP : va_P (dC, dI) vwCl [(ho, .inr (2, [.ref q_1, .null, .null])), (q_1, .inl (cA_2, 5, .inl (fun _ => 0)))] H := hP
  have hD : va_D A [(ho, .inr (2, [.ref q_1, .null, .null])), (q_1, .inl (cA_2, 5, .inl (fun _ => 0)))] := hD
  refine lv_aload_n hx hb dX2_init_11 rfl (lv_at hl 0 rfl) ?_
  refine lv_iconst (v := 5) hx hb dX2_init_12 (by decide) ?_
  refine va_newa (atype := .int) (ty := .int) (N' := 5) (a0 := (5, .inl (fun _ => 0))) hx hb (hts _ wd_X2_init_3) rfl hK hP hD hS hA (fun _ => rfl) (by decide) (by decide) (by decide) (Nat.le_of_ble_eq_true rfl) (Nat.le_of_ble_eq_true rfl) dX2_init_13 (fun q_3 cA_4 H hK hP hD hS => ?_)
  have hP : va_P (dC, dI) vwCl [(ho, .inr (2, [.ref q_1, .null, .null])), (q_1, .inl (cA_2, 5, .inl (fun _ => 0))), (q_3, .inl (cA_4, 5, .inl (fun _ => 0)))] H := hP
  have hD : va_D A [(ho, .inr (2, [.ref q_1, .null, .null])), (q_1, .inl (cA_2, 5, .inl (fun _ => 0))), (q_3, .inl (cA_4, 5, .inl (fun _ => 0)))] := hD
  have hK : va_K (dC, dI) vwCl [(cA_2, .int), (cA_4, .int)] s := hK
  refine W.widen (k := 2) (n := 10) (by omega) (by omega) ?_
  refine va_putF (D := (dC, dI)) (ci := 2) (v := .ref q_3) (ty := .array .int) (C := RX2) (T := TX2) (N := 3) hx hb hts in_X2_init_X2 tyX2 tyX2_ok nmX2 hown hK hP hD hS 0 rfl rfl 1 (by decide) (hts _ wd_X2_init_5) (fun _ h9 => h9) rfl hin rfl (by decide +kernel) rfl rfl (Nat.le_of_ble_eq_true rfl) dX2_init_15 (fun H locs hP hD hS => ?_)
  have hP : va_P (dC, dI) vwCl [(ho, .inr (2, [.ref q_1, .ref q_3, .null])), (q_1, .inl (cA_2, 5, .inl (fun _ => 0))), (q_3, .inl (cA_4, 5, .inl (fun _ => 0)))] H := hP
  have hD : va_D A [(ho, .inr (2, [.ref q_1, .ref q_3, .null])), (q_1, .inl (cA_2, 5, .inl (fun _ => 0))), (q_3, .inl (cA_4, 5, .inl (fun _ => 0)))] := hD
  refine lv_aload_n hx hb dX2_init_18 rfl (lv_at hl 0 rfl) ?_
  refine lv_iconst (v := 5) hx hb dX2_init_19 (by decide) ?_
  refine lv_bipush (v := 25) hx hb dX2_init_20 (by decide) ?_
  have hP : va_P (dC, dI) vwCl ([(ho, .inr (2, [.ref q_1, .ref q_3, .null])), (q_1, .inl (cA_2, 5, .inl (fun _ => 0))), (q_3, .inl (cA_4, 5, .inl (fun _ => 0)))] ++ va_pl [] (fun _ => .inr (0, []))) H := hP
  have hD : va_D A ([(ho, .inr (2, [.ref q_1, .ref q_3, .null])), (q_1, .inl (cA_2, 5, .inl (fun _ => 0))), (q_3, .inl (cA_4, 5, .inl (fun _ => 0)))] ++ va_pl [] (fun _ => .inr (0, []))) := hD
  refine va_mna (ty := .int) (cy := cA_2) (N' := 5) (K' := 25) (z := (25, .inl (fun _ => 0))) hx hb hown (hts _ wd_X2_init_6) hE0.2.2.2.2.2.2.2.2.2 (hts _ wd_X2_init_3) (hK.2 0 _ rfl).2 hK hP hD hS hA (by decide) (by decide) (by decide) (by decide) (by decide) (by decide) (by decide) rfl rfl (Nat.le_of_ble_eq_true rfl) (Nat.le_of_ble_eq_true rfl) (fun _ => i_inner _ _) dX2_init_22 (fun q_5 r_7 cA_6 H _ _ hK hP hD hS => ?_)
  have hP : va_P (dC, dI) vwCl [(ho, .inr (2, [.ref q_1, .ref q_3, .null])), (q_1, .inl (cA_2, 5, .inl (fun _ => 0))), (q_3, .inl (cA_4, 5, .inl (fun _ => 0))), (q_5, .inl (cA_6, 5, .inr (.inr (.inr (.inr (fun i => if i < 5 then some (r_7 i) else none)))))), ((r_7 0), .inl (cA_2, 25, .inl (fun _ => 0))), ((r_7 1), .inl (cA_2, 25, .inl (fun _ => 0))), ((r_7 2), .inl (cA_2, 25, .inl (fun _ => 0))), ((r_7 3), .inl (cA_2, 25, .inl (fun _ => 0))), ((r_7 4), .inl (cA_2, 25, .inl (fun _ => 0)))] H := by rw [← vr_rows (fun a _ h9 => by cases h9)] at hP; exact hP
  have hD : va_D A [(ho, .inr (2, [.ref q_1, .ref q_3, .null])), (q_1, .inl (cA_2, 5, .inl (fun _ => 0))), (q_3, .inl (cA_4, 5, .inl (fun _ => 0))), (q_5, .inl (cA_6, 5, .inr (.inr (.inr (.inr (fun i => if i < 5 then some (r_7 i) else none)))))), ((r_7 0), .inl (cA_2, 25, .inl (fun _ => 0))), ((r_7 1), .inl (cA_2, 25, .inl (fun _ => 0))), ((r_7 2), .inl (cA_2, 25, .inl (fun _ => 0))), ((r_7 3), .inl (cA_2, 25, .inl (fun _ => 0))), ((r_7 4), .inl (cA_2, 25, .inl (fun _ => 0)))] := by rw [← vr_rows (fun a _ h9 => by cases h9)] at hD; exact hD
  refine W.widen (k := 8) (n := 140) (by omega) (by omega) ?_
  refine va_putF (D := (dC, dI)) (ci := 2) (v := .ref q_5) (ty := .array (.array .int)) (C := RX2) (T := TX2) (N := 3) hx hb hts in_X2_init_X2 tyX2 tyX2_ok nmX2 hown hK hP hD hS 0 rfl rfl 2 (by decide) (hts _ wd_X2_init_7) (fun _ h9 => h9) rfl hin rfl (by decide +kernel) rfl rfl (Nat.le_of_ble_eq_true rfl) dX2_init_26 (fun H locs hP hD hS => ?_)
  have hP : va_P (dC, dI) vwCl [(ho, .inr (2, [.ref q_1, .ref q_3, .ref q_5])), (q_1, .inl (cA_2, 5, .inl (fun _ => 0))), (q_3, .inl (cA_4, 5, .inl (fun _ => 0))), (q_5, .inl (cA_6, 5, .inr (.inr (.inr (.inr (fun i => if i < 5 then some (r_7 i) else none)))))), ((r_7 0), .inl (cA_2, 25, .inl (fun _ => 0))), ((r_7 1), .inl (cA_2, 25, .inl (fun _ => 0))), ((r_7 2), .inl (cA_2, 25, .inl (fun _ => 0))), ((r_7 3), .inl (cA_2, 25, .inl (fun _ => 0))), ((r_7 4), .inl (cA_2, 25, .inl (fun _ => 0)))] H := hP
  have hD : va_D A [(ho, .inr (2, [.ref q_1, .ref q_3, .ref q_5])), (q_1, .inl (cA_2, 5, .inl (fun _ => 0))), (q_3, .inl (cA_4, 5, .inl (fun _ => 0))), (q_5, .inl (cA_6, 5, .inr (.inr (.inr (.inr (fun i => if i < 5 then some (r_7 i) else none)))))), ((r_7 0), .inl (cA_2, 25, .inl (fun _ => 0))), ((r_7 1), .inl (cA_2, 25, .inl (fun _ => 0))), ((r_7 2), .inl (cA_2, 25, .inl (fun _ => 0))), ((r_7 3), .inl (cA_2, 25, .inl (fun _ => 0))), ((r_7 4), .inl (cA_2, 25, .inl (fun _ => 0)))] := hD
  have hP9 := hP.sub (ws' := [(ho, .inr (2, [.ref q_1, .ref q_3, .ref q_5])), (q_1, .inl (cA_2, 5, .inl (fun _ => 0))), (q_3, .inl (cA_4, 5, .inl (fun _ => 0))), (q_5, .inl (cA_6, 5, .inr (.inr (.inr (.inr (fun i => if i < 5 then some (r_7 i) else none)))))), ((r_7 0), .inl (cA_2, 25, .inl (fun _ => 0))), ((r_7 1), .inl (cA_2, 25, .inl (fun _ => 0))), ((r_7 2), .inl (cA_2, 25, .inl (fun _ => 0))), ((r_7 3), .inl (cA_2, 25, .inl (fun _ => 0))), ((r_7 4), .inl (cA_2, 25, .inl (fun _ => 0)))]) [0, 1, 2, 3, 4, 5, 6, 7, 8] rfl
  have hD9 := hD.sub (ws' := [(ho, .inr (2, [.ref q_1, .ref q_3, .ref q_5])), (q_1, .inl (cA_2, 5, .inl (fun _ => 0))), (q_3, .inl (cA_4, 5, .inl (fun _ => 0))), (q_5, .inl (cA_6, 5, .inr (.inr (.inr (.inr (fun i => if i < 5 then some (r_7 i) else none)))))), ((r_7 0), .inl (cA_2, 25, .inl (fun _ => 0))), ((r_7 1), .inl (cA_2, 25, .inl (fun _ => 0))), ((r_7 2), .inl (cA_2, 25, .inl (fun _ => 0))), ((r_7 3), .inl (cA_2, 25, .inl (fun _ => 0))), ((r_7 4), .inl (cA_2, 25, .inl (fun _ => 0)))]) [0, 1, 2, 3, 4, 5, 6, 7, 8] (by decide) rfl
  have hK9 := hK.sub (tys' := [(cA_2, .int), (cA_4, .int), (cA_6, .array .int), (cA_2, .int), (cA_2, .int), (cA_2, .int), (cA_2, .int), (cA_2, .int)]) [0, 1, 2, 0, 0, 0, 0, 0] rfl
  refine W.widen (k := 8) (n := 140) (by omega) (by omega) ?_
  exact W.vret hx hb hr (fun t ht hW => ⟨⟨(q_1, q_3, q_5, (r_7 0), (r_7 1), (r_7 2), (r_7 3), (r_7 4), cA_2, cA_4, cA_6, cA_2, cA_2, cA_2, cA_2, cA_2, (fun i => if i < 5 then some (r_7 i) else none : Nat → Option Nat)), rfl, ⟨rfl, rfl, rfl, rfl, rfl⟩, by rw [ht]; exact hP9, va_K.moved hW.alike hK9, hD9⟩, hS.F ht⟩) hS.2.2 dX2_init_29

