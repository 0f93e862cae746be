theorem dX3_lay_0 : decode cX3_lay 0 = .ok (.aload_n 0, 1) := by decide +kernel
theorem dX3_lay_1 : decode cX3_lay 1 = .ok (.iload_n 1, 1) := by decide +kernel
theorem dX3_lay_2 : decode cX3_lay 2 = .ok (.iconst 5, 1) := by decide +kernel
theorem dX3_lay_3 : decode cX3_lay 3 = .ok (.invokestatic 42, 3) := by decide +kernel
theorem dX3_lay_6 : decode cX3_lay 6 = .ok (.putfield 9, 3) := by decide +kernel
theorem dX3_lay_9 : decode cX3_lay 9 = .ok (.aload_n 0, 1) := by decide +kernel
theorem dX3_lay_10 : decode cX3_lay 10 = .ok (.iload_n 2, 1) := by decide +kernel
theorem dX3_lay_11 : decode cX3_lay 11 = .ok (.iconst 5, 1) := by decide +kernel
theorem dX3_lay_12 : decode cX3_lay 12 = .ok (.invokestatic 42, 3) := by decide +kernel
theorem dX3_lay_15 : decode cX3_lay 15 = .ok (.putfield 15, 3) := by decide +kernel
theorem dX3_lay_18 : decode cX3_lay 18 = .ok (.aload_n 0, 1) := by decide +kernel
theorem dX3_lay_19 : decode cX3_lay 19 = .ok (.aload_n 0, 1) := by decide +kernel
theorem dX3_lay_20 : decode cX3_lay 20 = .ok (.getfield 9, 3) := by decide +kernel
theorem dX3_lay_23 : decode cX3_lay 23 = .ok (.aload_n 0, 1) := by decide +kernel
theorem dX3_lay_24 : decode cX3_lay 24 = .ok (.getfield 15, 3) := by decide +kernel
theorem dX3_lay_27 : decode cX3_lay 27 = .ok (.imul, 1) := by decide +kernel
theorem dX3_lay_28 : decode cX3_lay 28 = .ok (.putfield 18, 3) := by decide +kernel
theorem dX3_lay_31 : decode cX3_lay 31 = .ok (.aload_n 0, 1) := by decide +kernel
theorem dX3_lay_32 : decode cX3_lay 32 = .ok (.iconst 0, 1) := by decide +kernel
theorem dX3_lay_33 : decode cX3_lay 33 = .ok (.putfield 21, 3) := by decide +kernel
theorem dX3_lay_36 : decode cX3_lay 36 = .ok (.aload_n 0, 1) := by decide +kernel
theorem dX3_lay_37 : decode cX3_lay 37 = .ok (.lconst 0, 1) := by decide +kernel
theorem dX3_lay_38 : decode cX3_lay 38 = .ok (.putfield 24, 3) := by decide +kernel
theorem dX3_lay_41 : decode cX3_lay 41 = .ok (.aload_n 0, 1) := by decide +kernel
theorem dX3_lay_42 : decode cX3_lay 42 = .ok (.getfield 39, 3) := by decide +kernel
theorem dX3_lay_45 : decode cX3_lay 45 = .ok (.iconst (-1), 1) := by decide +kernel
theorem dX3_lay_46 : decode cX3_lay 46 = .ok (.invokestatic 48, 3) := by decide +kernel
theorem dX3_lay_49 : decode cX3_lay 49 = .ok (.iconst 0, 1) := by decide +kernel
theorem dX3_lay_50 : decode cX3_lay 50 = .ok (.istore_n 3, 1) := by decide +kernel
theorem dX3_lay_51 : decode cX3_lay 51 = .ok (.iload_n 3, 1) := by decide +kernel
theorem dX3_lay_52 : decode cX3_lay 52 = .ok (.aload_n 0, 1) := by decide +kernel
theorem dX3_lay_53 : decode cX3_lay 53 = .ok (.getfield 15, 3) := by decide +kernel
theorem dX3_lay_56 : decode cX3_lay 56 = .ok (.if_icmp .ge 95, 3) := by decide +kernel
theorem dX3_lay_151 : decode cX3_lay 151 = .ok (.return_, 1) := by decide +kernel
def wz_X3_lay : List Cond := .code yX3_lay cX3_lay 6 none :: ([Cond.methodLink RX3 42 Lib.Math.min.name, Cond.static Lib.Math.min.name, Cond.initialized "java/lang/Math", Cond.code Lib.Math.min.name Lib.Math.min.code 2 (some .int), Cond.fieldLink RX3 9 "HedgeMaze$Plan" "wide" "I", Cond.fieldLink RX3 15 "HedgeMaze$Plan" "deep" "I", Cond.fieldLink RX3 18 "HedgeMaze$Plan" "cellCount" "I", Cond.fieldLink RX3 21 "HedgeMaze$Plan" "sideCount" "I", Cond.fieldLink RX3 24 "HedgeMaze$Plan" "allSides" "J", Cond.fieldLink RX3 39 "HedgeMaze$Plan" "around" "[I", Cond.methodLink RX3 48 yJ7_fill_53178, Cond.static yJ7_fill_53178, Cond.initialized RJ7, Cond.code yJ7_fill_53178 cJ7_fill_53178 4 none] ++ wsX30)
theorem wd_X3_lay_0 : Cond.methodLink RX3 42 Lib.Math.min.name ∈ wz_X3_lay := List.mem_of_getElem? (i := 1) rfl
theorem wd_X3_lay_1 : Cond.static Lib.Math.min.name ∈ wz_X3_lay := List.mem_of_getElem? (i := 2) rfl
theorem wd_X3_lay_2 : Cond.initialized "java/lang/Math" ∈ wz_X3_lay := List.mem_of_getElem? (i := 3) rfl
theorem wd_X3_lay_3 : Cond.code Lib.Math.min.name Lib.Math.min.code 2 (some .int) ∈ wz_X3_lay := List.mem_of_getElem? (i := 4) rfl
theorem wd_X3_lay_4 : Cond.fieldLink RX3 9 "HedgeMaze$Plan" "wide" "I" ∈ wz_X3_lay := List.mem_of_getElem? (i := 5) rfl
theorem wd_X3_lay_5 : Cond.fieldLink RX3 15 "HedgeMaze$Plan" "deep" "I" ∈ wz_X3_lay := List.mem_of_getElem? (i := 6) rfl
theorem wd_X3_lay_6 : Cond.fieldLink RX3 18 "HedgeMaze$Plan" "cellCount" "I" ∈ wz_X3_lay := List.mem_of_getElem? (i := 7) rfl
theorem wd_X3_lay_7 : Cond.fieldLink RX3 21 "HedgeMaze$Plan" "sideCount" "I" ∈ wz_X3_lay := List.mem_of_getElem? (i := 8) rfl
theorem wd_X3_lay_8 : Cond.fieldLink RX3 24 "HedgeMaze$Plan" "allSides" "J" ∈ wz_X3_lay := List.mem_of_getElem? (i := 9) rfl
theorem wd_X3_lay_9 : Cond.fieldLink RX3 39 "HedgeMaze$Plan" "around" "[I" ∈ wz_X3_lay := List.mem_of_getElem? (i := 10) rfl
theorem in_X3_lay_X3 : ∀ w ∈ wsX30, w ∈ wz_X3_lay := fun _ h => List.mem_cons_of_mem _ (List.mem_append_right _ h)
set_option maxRecDepth 20000 in
theorem g_X3_lay_J7_fill_53178 : GoodIn wz_X3_lay (va_wsS RX3 48 yJ7_fill_53178 wz_J7_fill_53178) := goodIn_r _ [11, 12, 13, 14] rfl (by decide +kernel)
set_option maxHeartbeats 4000000 in
set_option maxRecDepth 100000 in
/-- Plan.lay(0, 0) -/
theorem c_X3_lay (l : Launch) (dC : Nat → ClassId) (dI : Nat → Nat → Nat) (sz : Nat) (h0 : Nat) (h0f : Nat) (h0o : Nat) (h0b : Nat) (h0a : Nat) (ci : ClassId) (fa : Nat → Int32)  : Met l yX3_lay wz_X3_lay ({ frames := 1, cells := 0, slots := 0, locals := 40 }) (va_Pc [.ref h0, .int 0, .int 0] (fun U => U.heap.size = sz ∧ va_P (dC, dI) vwCl [(h0, .inr (3, [.int 0, .int 0, .int 0, .int 0, .long 0, .ref h0f, .ref h0o, .ref h0b, .ref h0a])), (h0a, .inl (ci, 100, .inl fa))] U.heap ∧ va_K (dC, dI) vwCl [(ci, .int)] U ∧ va_D (fun _ => True) [(h0, .inr (3, [.int 0, .int 0, .int 0, .int 0, .long 0, .ref h0f, .ref h0o, .ref h0b, .ref h0a])), (h0a, .inl (ci, 100, .inl fa))])) (va_Qv (fun (u : (Nat → Int32)) => True) (fun (u : (Nat → Int32)) (t : State) => va_P (dC, dI) vwCl [(h0, .inr (3, [.int 0, .int 0, .int 0, .int 0, .long 0, .ref h0f, .ref h0o, .ref h0b, .ref h0a])), (h0a, .inl (ci, 100, .inl u))] t.heap ∧ va_K (dC, dI) vwCl [] t ∧ va_D (va_A [(h0, .inr (3, [.int 0, .int 0, .int 0, .int 0, .long 0, .ref h0f, .ref h0o, .ref h0b, .ref h0a])), (h0a, .inl (ci, 100, .inl fa))] sz) [(h0, .inr (3, [.int 0, .int 0, .int 0, .int 0, .long 0, .ref h0f, .ref h0o, .ref h0b, .ref h0a])), (h0a, .inl (ci, 100, .inl u))]) (va_A [(h0, .inr (3, [.int 0, .int 0, .int 0, .int 0, .long 0, .ref h0f, .ref h0o, .ref h0b, .ref h0a])), (h0a, .inl (ci, 100, .inl fa))] sz)) 0 0 (va_A [(h0, .inr (3, [.int 0, .int 0, .int 0, .int 0, .long 0, .ref h0f, .ref h0o, .ref h0b, .ref h0a])), (h0a, .inl (ci, 100, .inl fa))] sz) := by
  refine Met.ofW (cc := cX3_lay) (maxL := 6) (ret := none) (by decide) rfl ?_
  intro p e s m args below meth c s₁ B hml hv
  obtain ⟨rfl, hsz, hP, hK, hD0⟩ := hv
  have hx := B.exec
  have hb := B.bytes
  have hr := B.returns
  have hts := atoms_spec (ws := wz_X3_lay) B.pre
  have hown : s.vm.findClass RX3 = some m.cls := findClass_of_methodNamed B.named
  have hlocks := B.notSynchronized
  subst hsz
  have hD := hD0.self (sz := s.heap.size)
  generalize hAe : va_A [(h0, .inr (3, [.int 0, .int 0, .int 0, .int 0, .long 0, .ref h0f, .ref h0o, .ref h0b, .ref h0a])), (h0a, .inl (ci, 100, .inl fa))] s.heap.size = A at hD ⊢
  have hA : ∀ q : Nat, s.heap.size ≤ q → A q := fun q h => by rw [← hAe]; exact Or.inr h
  have hS : va_S A s.heap s.heap [] := va_S.rf
  have hP : va_P (dC, dI) vwCl [(h0, .inr (3, [.int 0, .int 0, .int 0, .int 0, .long 0, .ref h0f, .ref h0o, .ref h0b, .ref h0a])), (h0a, .inl (ci, 100, .inl fa))] s.heap := hP
  have hl := lv_entry ([.ref h0, .int 0, .int 0]) (n := 6) (Nat.le_of_ble_eq_true rfl)
  rw [lg_entry_eq]
  generalize (lg_sl ([.ref h0, .int 0, .int 0]) ++ List.replicate (6 - (lg_sl ([.ref h0, .int 0, .int 0])).length) Slot.unset).toArray = ls at hl ⊢
  have hl : lv_has ls 6 [(0, .ref h0), (1, .int 0), (2, .int 0)] := hl
  refine lv_aload_n hx hb dX3_lay_0 rfl (lv_at hl 0 rfl) ?_
  refine lv_iload_n hx hb dX3_lay_1 rfl (lv_at hl 1 rfl) ?_
  refine lv_iconst (v := 5) hx hb dX3_lay_2 (by decide) ?_
  refine va_mmin hx hb (hml.trans hl.1.symm) hown (hts _ wd_X3_lay_0) (hts _ wd_X3_lay_1) (hts _ wd_X3_lay_2) (hts _ wd_X3_lay_3) (Nat.le_of_ble_eq_true rfl) (Nat.le_of_ble_eq_true rfl) (Nat.le_of_ble_eq_true rfl) (Nat.le_of_ble_eq_true rfl) dX3_lay_3 ?_
  refine lv_topi (fun z_1 ez_1 => ?_)
  obtain rfl : z_1 = 0 := ez_1.trans (by decide)
  refine va_put (D := (dC, dI)) (ci := 3) (v := .int 0) (ty := .int) (C := RX3) (T := TX3) (N := 9) hx hb hts in_X3_lay_X3 tyX3 tyX3_ok nmX3 hown hK hP hD hS 0 rfl rfl 0 (by decide) (hts _ wd_X3_lay_4) (fun _ h9 => h9) rfl (by decide +kernel) rfl rfl (Nat.le_of_ble_eq_true rfl) dX3_lay_6 (fun H locs hP hD hS => ?_)
  have hP : va_P (dC, dI) vwCl [(h0, .inr (3, [.int 0, .int 0, .int 0, .int 0, .long 0, .ref h0f, .ref h0o, .ref h0b, .ref h0a])), (h0a, .inl (ci, 100, .inl fa))] H := hP
  have hD : va_D A [(h0, .inr (3, [.int 0, .int 0, .int 0, .int 0, .long 0, .ref h0f, .ref h0o, .ref h0b, .ref h0a])), (h0a, .inl (ci, 100, .inl fa))] := hD
  refine lv_aload_n hx hb dX3_lay_9 rfl (lv_at hl 0 rfl) ?_
  refine lv_iload_n hx hb dX3_lay_10 rfl (lv_at hl 2 rfl) ?_
  refine lv_iconst (v := 5) hx hb dX3_lay_11 (by decide) ?_
  refine va_mmin hx hb (hml.trans hl.1.symm) hown (hts _ wd_X3_lay_0) (hts _ wd_X3_lay_1) (hts _ wd_X3_lay_2) (hts _ wd_X3_lay_3) (Nat.le_of_ble_eq_true rfl) (Nat.le_of_ble_eq_true rfl) (Nat.le_of_ble_eq_true rfl) (Nat.le_of_ble_eq_true rfl) dX3_lay_12 ?_
  refine lv_topi (fun z_2 ez_2 => ?_)
  obtain rfl : z_2 = 0 := ez_2.trans (by decide)
  refine va_put (D := (dC, dI)) (ci := 3) (v := .int 0) (ty := .int) (C := RX3) (T := TX3) (N := 9) hx hb hts in_X3_lay_X3 tyX3 tyX3_ok nmX3 hown hK hP hD hS 0 rfl rfl 1 (by decide) (hts _ wd_X3_lay_5) (fun _ h9 => h9) rfl (by decide +kernel) rfl rfl (Nat.le_of_ble_eq_true rfl) dX3_lay_15 (fun H locs hP hD hS => ?_)
  have hP : va_P (dC, dI) vwCl [(h0, .inr (3, [.int 0, .int 0, .int 0, .int 0, .long 0, .ref h0f, .ref h0o, .ref h0b, .ref h0a])), (h0a, .inl (ci, 100, .inl fa))] H := hP
  have hD : va_D A [(h0, .inr (3, [.int 0, .int 0, .int 0, .int 0, .long 0, .ref h0f, .ref h0o, .ref h0b, .ref h0a])), (h0a, .inl (ci, 100, .inl fa))] := hD
  refine lv_aload_n hx hb dX3_lay_18 rfl (lv_at hl 0 rfl) ?_
  refine lv_aload_n hx hb dX3_lay_19 rfl (lv_at hl 0 rfl) ?_
  refine va_get (D := (dC, dI)) (ci := 3) (v := .int 0) (C := RX3) (T := TX3) (N := 9) hx hb hts in_X3_lay_X3 hown hK hP 0 rfl rfl 0 (by decide) (hts _ wd_X3_lay_4) (fun _ h9 => h9) rfl dX3_lay_20 ?_
  refine lv_aload_n hx hb dX3_lay_23 rfl (lv_at hl 0 rfl) ?_
  refine va_get (D := (dC, dI)) (ci := 3) (v := .int 0) (C := RX3) (T := TX3) (N := 9) hx hb hts in_X3_lay_X3 hown hK hP 0 rfl rfl 1 (by decide) (hts _ wd_X3_lay_5) (fun _ h9 => h9) rfl dX3_lay_24 ?_
  refine lv_imul hx hb dX3_lay_27 ?_
  refine lv_topi (fun z_3 ez_3 => ?_)
  obtain rfl : z_3 = 0 := ez_3.trans (by decide)
  refine va_put (D := (dC, dI)) (ci := 3) (v := .int 0) (ty := .int) (C := RX3) (T := TX3) (N := 9) hx hb hts in_X3_lay_X3 tyX3 tyX3_ok nmX3 hown hK hP hD hS 0 rfl rfl 2 (by decide) (hts _ wd_X3_lay_6) (fun _ h9 => h9) rfl (by decide +kernel) rfl rfl (Nat.le_of_ble_eq_true rfl) dX3_lay_28 (fun H locs hP hD hS => ?_)
  have hP : va_P (dC, dI) vwCl [(h0, .inr (3, [.int 0, .int 0, .int 0, .int 0, .long 0, .ref h0f, .ref h0o, .ref h0b, .ref h0a])), (h0a, .inl (ci, 100, .inl fa))] H := hP
  have hD : va_D A [(h0, .inr (3, [.int 0, .int 0, .int 0, .int 0, .long 0, .ref h0f, .ref h0o, .ref h0b, .ref h0a])), (h0a, .inl (ci, 100, .inl fa))] := hD
  refine lv_aload_n hx hb dX3_lay_31 rfl (lv_at hl 0 rfl) ?_
  refine lv_iconst (v := 0) hx hb dX3_lay_32 (by decide) ?_
  refine va_put (D := (dC, dI)) (ci := 3) (v := .int 0) (ty := .int) (C := RX3) (T := TX3) (N := 9) hx hb hts in_X3_lay_X3 tyX3 tyX3_ok nmX3 hown hK hP hD hS 0 rfl rfl 3 (by decide) (hts _ wd_X3_lay_7) (fun _ h9 => h9) rfl (by decide +kernel) rfl rfl (Nat.le_of_ble_eq_true rfl) dX3_lay_33 (fun H locs hP hD hS => ?_)
  have hP : va_P (dC, dI) vwCl [(h0, .inr (3, [.int 0, .int 0, .int 0, .int 0, .long 0, .ref h0f, .ref h0o, .ref h0b, .ref h0a])), (h0a, .inl (ci, 100, .inl fa))] H := hP
  have hD : va_D A [(h0, .inr (3, [.int 0, .int 0, .int 0, .int 0, .long 0, .ref h0f, .ref h0o, .ref h0b, .ref h0a])), (h0a, .inl (ci, 100, .inl fa))] := hD
  refine lv_aload_n hx hb dX3_lay_36 rfl (lv_at hl 0 rfl) ?_
  refine lv_lconst (v := 0) hx hb dX3_lay_37 (by decide) ?_
  refine va_put (D := (dC, dI)) (ci := 3) (v := .long 0) (ty := .long) (C := RX3) (T := TX3) (N := 9) hx hb hts in_X3_lay_X3 tyX3 tyX3_ok nmX3 hown hK hP hD hS 0 rfl rfl 4 (by decide) (hts _ wd_X3_lay_8) (fun _ h9 => h9) rfl (by decide +kernel) rfl rfl (Nat.le_of_ble_eq_true rfl) dX3_lay_38 (fun H locs hP hD hS => ?_)
  have hP : va_P (dC, dI) vwCl [(h0, .inr (3, [.int 0, .int 0, .int 0, .int 0, .long 0, .ref h0f, .ref h0o, .ref h0b, .ref h0a])), (h0a, .inl (ci, 100, .inl fa))] H := hP
  have hD : va_D A [(h0, .inr (3, [.int 0, .int 0, .int 0, .int 0, .long 0, .ref h0f, .ref h0o, .ref h0b, .ref h0a])), (h0a, .inl (ci, 100, .inl fa))] := hD
  refine lv_aload_n hx hb dX3_lay_41 rfl (lv_at hl 0 rfl) ?_
  refine va_get (D := (dC, dI)) (ci := 3) (v := .ref h0a) (C := RX3) (T := TX3) (N := 9) hx hb hts in_X3_lay_X3 hown hK hP 0 rfl rfl 8 (by decide) (hts _ wd_X3_lay_9) (fun _ h9 => h9) rfl dX3_lay_42 ?_
  refine lv_iconst (v := -1) hx hb dX3_lay_45 (by decide) ?_
  have hPc := hP.sub (ws' := [(h0a, .inl (ci, 100, .inl fa))]) [1] rfl
  have hDc := hD.sub (ws' := [(h0a, .inl (ci, 100, .inl fa))]) [1] (by decide) rfl
  have hKc := hK.sub (tys' := [(ci, .int)]) [0] rfl
  have hFc := va_free (wc := [(h0a, .inl (ci, 100, .inl fa))]) hD hS hA [1] rfl
  refine va_callv (va_runS (As := [.ref h0a, .int (-1)]) (rest := []) ⟨hx, hb, hml, hown, hts⟩ (c_J7_fill_53178 l dC dI H.size h0a ci ((100 : Nat)) fa ((-1 : Int32)) (by omega)) (va_cwS 2 hts g_X3_lay_J7_fill_53178 rfl rfl rfl (by decide +kernel) ⟨Nat.le_of_ble_eq_true rfl, Nat.le_of_ble_eq_true rfl⟩) ⟨fun a U g mk q => by obtain ⟨q0, q1, qP, qK, qD⟩ := q; exact ⟨q0, q1, qP, va_K.moved (u := U) (U := U.calling g mk a) (Vm.Alike.refl U.vm) qK, qD⟩, fun U hU hW => ⟨rfl, by rw [hU], by rw [hU]; exact hPc, va_K.moved hW.alike hKc, hDc.weaken (fun _ _ _ _ => trivial)⟩⟩ rfl rfl hl.1 rfl (lv_room (Nat.le_of_ble_eq_true rfl)) dX3_lay_46 ⟨Nat.le_of_ble_eq_true rfl, Nat.le_of_ble_eq_true rfl⟩) hS (fun q _ h => hFc q h) hFc (fun u t H1 locs ht hvm hw_4 hB hz1 hk1 hS => ?_)
  obtain ⟨f2_5, rfl⟩ : ∃ z, z = u := ⟨_, rfl⟩
  obtain ⟨hP1, hK1, hD1⟩ := hB
  have hP1 : va_P (dC, dI) vwCl [(h0a, .inl (ci, 100, .inl f2_5))] t.heap := hP1
  rw [ht] at hP1
  try dsimp only at hw_4
  obtain ⟨hP, hD⟩ := va_join (wr := [(h0, .inr (3, [.int 0, .int 0, .int 0, .int 0, .long 0, .ref h0f, .ref h0o, .ref h0b, .ref h0a]))]) (w1 := [(h0a, .inl (ci, 100, .inl f2_5))]) hP hD [1] [0] rfl rfl (by decide) (by decide) hk1 hFc hP1 hD1
  generalize H1 = H at hP hS ⊢
  have hP : va_P (dC, dI) vwCl [(h0, .inr (3, [.int 0, .int 0, .int 0, .int 0, .long 0, .ref h0f, .ref h0o, .ref h0b, .ref h0a])), (h0a, .inl (ci, 100, .inl f2_5))] H := hP
  have hD : va_D A [(h0, .inr (3, [.int 0, .int 0, .int 0, .int 0, .long 0, .ref h0f, .ref h0o, .ref h0b, .ref h0a])), (h0a, .inl (ci, 100, .inl f2_5))] := hD
  refine lv_iconst (v := 0) hx hb dX3_lay_49 (by decide) ?_
  refine lv_istore_n (lv' := [(3, .int 0), (0, .ref h0), (1, .int 0), (2, .int 0)]) hx hb dX3_lay_50 rfl hl (by decide) rfl (fun ls hl => ?_)
  refine lv_iload_n hx hb dX3_lay_51 rfl (lv_at hl 0 rfl) ?_
  refine lv_aload_n hx hb dX3_lay_52 rfl (lv_at hl 1 rfl) ?_
  refine va_get (D := (dC, dI)) (ci := 3) (v := .int 0) (C := RX3) (T := TX3) (N := 9) hx hb hts in_X3_lay_X3 hown hK hP 0 rfl rfl 1 (by decide) (hts _ wd_X3_lay_5) (fun _ h9 => h9) rfl dX3_lay_53 ?_
  refine lv_icmp_ge (tgt := 151) hx hb dX3_lay_56 (by decide) (fun _ => ?_) (fun h => absurd (by decide) h)
  have hP9 := hP.sub (ws' := [(h0, .inr (3, [.int 0, .int 0, .int 0, .int 0, .long 0, .ref h0f, .ref h0o, .ref h0b, .ref h0a])), (h0a, .inl (ci, 100, .inl f2_5))]) [0, 1] rfl
  have hD9 := hD.sub (ws' := [(h0, .inr (3, [.int 0, .int 0, .int 0, .int 0, .long 0, .ref h0f, .ref h0o, .ref h0b, .ref h0a])), (h0a, .inl (ci, 100, .inl f2_5))]) [0, 1] (by decide) rfl
  have hK9 := hK.sub (tys' := []) [] rfl
  refine W.widen (k := 0) (n := 0) (by omega) (by omega) ?_
  exact W.vret hx hb hr (fun t ht hW => ⟨⟨(f2_5), rfl, trivial, by rw [ht]; exact hP9, va_K.moved hW.alike hK9, hD9⟩, hS.F ht⟩) hS.2.2 dX3_lay_151

theorem dX0_clear_0 : decode cX0_clear 0 = .ok (.aload_n 0, 1) := by decide +kernel
theorem dX0_clear_1 : decode cX0_clear 1 = .ok (.getfield 12, 3) := by decide +kernel
theorem dX0_clear_4 : decode cX0_clear 4 = .ok (.iconst 0, 1) := by decide +kernel
theorem dX0_clear_5 : decode cX0_clear 5 = .ok (.iconst 0, 1) := by decide +kernel
theorem dX0_clear_6 : decode cX0_clear 6 = .ok (.invokevirtual 55, 3) := by decide +kernel
theorem dX0_clear_9 : decode cX0_clear 9 = .ok (.aload_n 0, 1) := by decide +kernel
theorem dX0_clear_10 : decode cX0_clear 10 = .ok (.iconst 0, 1) := by decide +kernel
theorem dX0_clear_11 : decode cX0_clear 11 = .ok (.putfield 18, 3) := by decide +kernel
theorem dX0_clear_14 : decode cX0_clear 14 = .ok (.aload_n 0, 1) := by decide +kernel
theorem dX0_clear_15 : decode cX0_clear 15 = .ok (.lconst 0, 1) := by decide +kernel
theorem dX0_clear_16 : decode cX0_clear 16 = .ok (.putfield 22, 3) := by decide +kernel
theorem dX0_clear_19 : decode cX0_clear 19 = .ok (.aload_n 0, 1) := by decide +kernel
theorem dX0_clear_20 : decode cX0_clear 20 = .ok (.lconst 0, 1) := by decide +kernel
theorem dX0_clear_21 : decode cX0_clear 21 = .ok (.putfield 26, 3) := by decide +kernel
theorem dX0_clear_24 : decode cX0_clear 24 = .ok (.aload_n 0, 1) := by decide +kernel
theorem dX0_clear_25 : decode cX0_clear 25 = .ok (.iconst 0, 1) := by decide +kernel
theorem dX0_clear_26 : decode cX0_clear 26 = .ok (.putfield 29, 3) := by decide +kernel
theorem dX0_clear_29 : decode cX0_clear 29 = .ok (.aload_n 0, 1) := by decide +kernel
theorem dX0_clear_30 : decode cX0_clear 30 = .ok (.iconst (-1), 1) := by decide +kernel
theorem dX0_clear_31 : decode cX0_clear 31 = .ok (.putfield 33, 3) := by decide +kernel
theorem dX0_clear_34 : decode cX0_clear 34 = .ok (.aload_n 0, 1) := by decide +kernel
theorem dX0_clear_35 : decode cX0_clear 35 = .ok (.iconst 0, 1) := by decide +kernel
theorem dX0_clear_36 : decode cX0_clear 36 = .ok (.putfield 36, 3) := by decide +kernel
theorem dX0_clear_39 : decode cX0_clear 39 = .ok (.aload_n 0, 1) := by decide +kernel
theorem dX0_clear_40 : decode cX0_clear 40 = .ok (.iconst 0, 1) := by decide +kernel
theorem dX0_clear_41 : decode cX0_clear 41 = .ok (.putfield 43, 3) := by decide +kernel
theorem dX0_clear_44 : decode cX0_clear 44 = .ok (.aload_n 0, 1) := by decide +kernel
theorem dX0_clear_45 : decode cX0_clear 45 = .ok (.iconst 0, 1) := by decide +kernel
theorem dX0_clear_46 : decode cX0_clear 46 = .ok (.putfield 49, 3) := by decide +kernel
theorem dX0_clear_49 : decode cX0_clear 49 = .ok (.return_, 1) := by decide +kernel
def wz_X0_clear : List Cond := .code yX0_clear cX0_clear 1 none :: ([Cond.fieldLink RX0 12 "HedgeMaze$Garden" "plan" "LHedgeMaze$Plan;", Cond.fieldLink RX0 18 "HedgeMaze$Garden" "lines" "I", Cond.fieldLink RX0 22 "HedgeMaze$Garden" "hedges" "J", Cond.fieldLink RX0 26 "HedgeMaze$Garden" "walls" "J", Cond.fieldLink RX0 29 "HedgeMaze$Garden" "isNear" "Z", Cond.fieldLink RX0 33 "HedgeMaze$Garden" "letterCell" "I", Cond.fieldLink RX0 36 "HedgeMaze$Garden" "gateCount" "I", Cond.fieldLink RX0 43 "HedgeMaze$Garden" "guestCount" "I", Cond.fieldLink RX0 49 "HedgeMaze$Garden" "goneCount" "I", Cond.methodLink RX0 55 yX3_lay, Cond.instanceMethod yX3_lay, Cond.selects RX3 yX3_lay yX3_lay, Cond.initialized RX3, Cond.code yX3_lay cX3_lay 6 none, Cond.methodLink RX3 42 Lib.Math.min.name, Cond.static Lib.Math.min.name, Cond.initialized "java/lang/Math", Cond.code Lib.Math.min.name Lib.Math.min.code 2 (some .int), Cond.fieldLink RX3 9 "HedgeMaze$Plan" "wide" "I", Cond.fieldLink RX3 15 "HedgeMaze$Plan" "deep" "I", Cond.fieldLink RX3 18 "HedgeMaze$Plan" "cellCount" "I", Cond.fieldLink RX3 21 "HedgeMaze$Plan" "sideCount" "I", Cond.fieldLink RX3 24 "HedgeMaze$Plan" "allSides" "J", Cond.fieldLink RX3 39 "HedgeMaze$Plan" "around" "[I", Cond.methodLink RX3 48 yJ7_fill_53178, Cond.static yJ7_fill_53178, Cond.initialized RJ7, Cond.code yJ7_fill_53178 cJ7_fill_53178 4 none] ++ wsX00 ++ wsX30)
theorem wd_X0_clear_0 : Cond.fieldLink RX0 12 "HedgeMaze$Garden" "plan" "LHedgeMaze$Plan;" ∈ wz_X0_clear := List.mem_of_getElem? (i := 1) rfl
theorem wd_X0_clear_1 : Cond.fieldLink RX0 18 "HedgeMaze$Garden" "lines" "I" ∈ wz_X0_clear := List.mem_of_getElem? (i := 2) rfl
theorem wd_X0_clear_2 : Cond.fieldLink RX0 22 "HedgeMaze$Garden" "hedges" "J" ∈ wz_X0_clear := List.mem_of_getElem? (i := 3) rfl
theorem wd_X0_clear_3 : Cond.fieldLink RX0 26 "HedgeMaze$Garden" "walls" "J" ∈ wz_X0_clear := List.mem_of_getElem? (i := 4) rfl
theorem wd_X0_clear_4 : Cond.fieldLink RX0 29 "HedgeMaze$Garden" "isNear" "Z" ∈ wz_X0_clear := List.mem_of_getElem? (i := 5) rfl
theorem wd_X0_clear_5 : Cond.fieldLink RX0 33 "HedgeMaze$Garden" "letterCell" "I" ∈ wz_X0_clear := List.mem_of_getElem? (i := 6) rfl
theorem wd_X0_clear_6 : Cond.fieldLink RX0 36 "HedgeMaze$Garden" "gateCount" "I" ∈ wz_X0_clear := List.mem_of_getElem? (i := 7) rfl
theorem wd_X0_clear_7 : Cond.fieldLink RX0 43 "HedgeMaze$Garden" "guestCount" "I" ∈ wz_X0_clear := List.mem_of_getElem? (i := 8) rfl
theorem wd_X0_clear_8 : Cond.fieldLink RX0 49 "HedgeMaze$Garden" "goneCount" "I" ∈ wz_X0_clear := List.mem_of_getElem? (i := 9) rfl
theorem in_X0_clear_X0 : ∀ w ∈ wsX00, w ∈ wz_X0_clear := fun _ h => List.mem_cons_of_mem _ (List.mem_append_left _ (List.mem_append_right _ h))
set_option maxRecDepth 20000 in
theorem g_X0_clear_X3_lay : GoodIn wz_X0_clear (wsV RX0 55 RX3 yX3_lay wz_X3_lay) := goodIn_r _ [10, 11, 12, 13, 14, 15, 16, 17, 18, 19, 20, 21, 22, 23, 24, 25, 26, 27, 28, 41, 42, 43, 44, 45, 46, 47, 48, 49] rfl (by decide +kernel)
set_option maxHeartbeats 4000000 in
set_option maxRecDepth 100000 in
/-- Garden.clear() -/
theorem c_X0_clear (l : Launch) (dC : Nat → ClassId) (dI : Nat → Nat → Nat) (sz : Nat) (h0 : Nat) (pl : Nat) (h0t : Nat) (h0u : Nat) (h0n : Nat) (plf : Nat) (plo : Nat) (plb : Nat) (pla : Nat) (ci : ClassId) (fa : Nat → Int32)  : Met l yX0_clear wz_X0_clear ({ frames := 2, cells := 0, slots := 0, locals := 65 }) (va_Pc [.ref h0] (fun U => U.heap.size = sz ∧ va_P (dC, dI) vwCl [(h0, .inr (0, [.ref pl, .int 0, .long 0, .long 0, .int 0, .int (-1), .int 0, .ref h0t, .int 0, .ref h0u, .int 0, .ref h0n])), (pl, .inr (3, [.int 0, .int 0, .int 0, .int 0, .long 0, .ref plf, .ref plo, .ref plb, .ref pla])), (pla, .inl (ci, 100, .inl fa))] U.heap ∧ va_K (dC, dI) vwCl [(ci, .int)] U ∧ va_D (fun _ => True) [(h0, .inr (0, [.ref pl, .int 0, .long 0, .long 0, .int 0, .int (-1), .int 0, .ref h0t, .int 0, .ref h0u, .int 0, .ref h0n])), (pl, .inr (3, [.int 0, .int 0, .int 0, .int 0, .long 0, .ref plf, .ref plo, .ref plb, .ref pla])), (pla, .inl (ci, 100, .inl fa))])) (va_Qv (fun (u : (Nat → Int32)) => True) (fun (u : (Nat → Int32)) (t : State) => va_P (dC, dI) vwCl [(h0, .inr (0, [.ref pl, .int 0, .long 0, .long 0, .int 0, .int (-1), .int 0, .ref h0t, .int 0, .ref h0u, .int 0, .ref h0n])), (pl, .inr (3, [.int 0, .int 0, .int 0, .int 0, .long 0, .ref plf, .ref plo, .ref plb, .ref pla])), (pla, .inl (ci, 100, .inl u))] t.heap ∧ va_K (dC, dI) vwCl [] t ∧ va_D (va_A [(h0, .inr (0, [.ref pl, .int 0, .long 0, .long 0, .int 0, .int (-1), .int 0, .ref h0t, .int 0, .ref h0u, .int 0, .ref h0n])), (pl, .inr (3, [.int 0, .int 0, .int 0, .int 0, .long 0, .ref plf, .ref plo, .ref plb, .ref pla])), (pla, .inl (ci, 100, .inl fa))] sz) [(h0, .inr (0, [.ref pl, .int 0, .long 0, .long 0, .int 0, .int (-1), .int 0, .ref h0t, .int 0, .ref h0u, .int 0, .ref h0n])), (pl, .inr (3, [.int 0, .int 0, .int 0, .int 0, .long 0, .ref plf, .ref plo, .ref plb, .ref pla])), (pla, .inl (ci, 100, .inl u))]) (va_A [(h0, .inr (0, [.ref pl, .int 0, .long 0, .long 0, .int 0, .int (-1), .int 0, .ref h0t, .int 0, .ref h0u, .int 0, .ref h0n])), (pl, .inr (3, [.int 0, .int 0, .int 0, .int 0, .long 0, .ref plf, .ref plo, .ref plb, .ref pla])), (pla, .inl (ci, 100, .inl fa))] sz)) 0 0 (va_A [(h0, .inr (0, [.ref pl, .int 0, .long 0, .long 0, .int 0, .int (-1), .int 0, .ref h0t, .int 0, .ref h0u, .int 0, .ref h0n])), (pl, .inr (3, [.int 0, .int 0, .int 0, .int 0, .long 0, .ref plf, .ref plo, .ref plb, .ref pla])), (pla, .inl (ci, 100, .inl fa))] sz) := by
  refine Met.ofW (cc := cX0_clear) (maxL := 1) (ret := none) (by decide) rfl ?_
  intro p e s m args below meth c s₁ B hml hv
  obtain ⟨rfl, hsz, hP, hK, hD0⟩ := hv
  have hx := B.exec
  have hb := B.bytes
  have hr := B.returns
  have hts := atoms_spec (ws := wz_X0_clear) B.pre
  have hown : s.vm.findClass RX0 = some m.cls := findClass_of_methodNamed B.named
  have hlocks := B.notSynchronized
  subst hsz
  have hD := hD0.self (sz := s.heap.size)
  generalize hAe : va_A [(h0, .inr (0, [.ref pl, .int 0, .long 0, .long 0, .int 0, .int (-1), .int 0, .ref h0t, .int 0, .ref h0u, .int 0, .ref h0n])), (pl, .inr (3, [.int 0, .int 0, .int 0, .int 0, .long 0, .ref plf, .ref plo, .ref plb, .ref pla])), (pla, .inl (ci, 100, .inl fa))] s.heap.size = A at hD ⊢
  have hA : ∀ q : Nat, s.heap.size ≤ q → A q := fun q h => by rw [← hAe]; exact Or.inr h
  have hS : va_S A s.heap s.heap [] := va_S.rf
  have hP : va_P (dC, dI) vwCl [(h0, .inr (0, [.ref pl, .int 0, .long 0, .long 0, .int 0, .int (-1), .int 0, .ref h0t, .int 0, .ref h0u, .int 0, .ref h0n])), (pl, .inr (3, [.int 0, .int 0, .int 0, .int 0, .long 0, .ref plf, .ref plo, .ref plb, .ref pla])), (pla, .inl (ci, 100, .inl fa))] s.heap := hP
  have hl := lv_entry ([.ref h0]) (n := 1) (Nat.le_of_ble_eq_true rfl)
  rw [lg_entry_eq]
  generalize (lg_sl ([.ref h0]) ++ List.replicate (1 - (lg_sl ([.ref h0])).length) Slot.unset).toArray = ls at hl ⊢
  have hl : lv_has ls 1 [(0, .ref h0)] := hl
  refine lv_aload_n hx hb dX0_clear_0 rfl (lv_at hl 0 rfl) ?_
  refine va_get (D := (dC, dI)) (ci := 0) (v := .ref pl) (C := RX0) (T := TX0) (N := 12) hx hb hts in_X0_clear_X0 hown hK hP 0 rfl rfl 0 (by decide) (hts _ wd_X0_clear_0) (fun _ h9 => h9) rfl dX0_clear_1 ?_
  refine lv_iconst (v := 0) hx hb dX0_clear_4 (by decide) ?_
  refine lv_iconst (v := 0) hx hb dX0_clear_5 (by decide) ?_
  have hPc := hP.sub (ws' := [(pl, .inr (3, [.int 0, .int 0, .int 0, .int 0, .long 0, .ref plf, .ref plo, .ref plb, .ref pla])), (pla, .inl (ci, 100, .inl fa))]) [1, 2] rfl
  have hDc := hD.sub (ws' := [(pl, .inr (3, [.int 0, .int 0, .int 0, .int 0, .long 0, .ref plf, .ref plo, .ref plb, .ref pla])), (pla, .inl (ci, 100, .inl fa))]) [1, 2] (by decide) rfl
  have hKc := hK.sub (tys' := [(ci, .int)]) [0] rfl
  have hFc := va_free (wc := [(pl, .inr (3, [.int 0, .int 0, .int 0, .int 0, .long 0, .ref plf, .ref plo, .ref plb, .ref pla])), (pla, .inl (ci, 100, .inl fa))]) hD hS hA [1, 2] rfl
  refine va_callv (va_runV (As := [.int 0, .int 0]) (rest := []) ⟨hx, hb, hml, hown, hts⟩ (c_X3_lay l dC dI s.heap.size pl plf plo plb pla ci fa ) (cwV 2 hts g_X0_clear_X3_lay rfl rfl rfl (by decide +kernel) ⟨Nat.le_of_ble_eq_true rfl, Nat.le_of_ble_eq_true rfl⟩) ⟨fun a U g mk q => by obtain ⟨q0, q1, qP, qK, qD⟩ := q; exact ⟨q0, q1, qP, va_K.moved (u := U) (U := U.calling g mk a) (Vm.Alike.refl U.vm) qK, qD⟩, va_recv hKc hPc (ci := 3) (q0 := 0) rfl rfl, fun U hU hW => ⟨rfl, by rw [hU], by rw [hU]; exact hPc, va_K.moved hW.alike hKc, hDc.weaken (fun _ _ _ _ => trivial)⟩⟩ rfl rfl hl.1 rfl (lv_room (Nat.le_of_ble_eq_true rfl)) dX0_clear_6 ⟨Nat.le_of_ble_eq_true rfl, Nat.le_of_ble_eq_true rfl⟩) hS (fun q _ h => hFc q h) hFc (fun u t H1 locs ht hvm hw_1 hB hz1 hk1 hS => ?_)
  obtain ⟨f2_2, rfl⟩ : ∃ z, z = u := ⟨_, rfl⟩
  obtain ⟨hP1, hK1, hD1⟩ := hB
  have hP1 : va_P (dC, dI) vwCl [(pl, .inr (3, [.int 0, .int 0, .int 0, .int 0, .long 0, .ref plf, .ref plo, .ref plb, .ref pla])), (pla, .inl (ci, 100, .inl f2_2))] t.heap := hP1
  rw [ht] at hP1
  try dsimp only at hw_1
  obtain ⟨hP, hD⟩ := va_join (wr := [(h0, .inr (0, [.ref pl, .int 0, .long 0, .long 0, .int 0, .int (-1), .int 0, .ref h0t, .int 0, .ref h0u, .int 0, .ref h0n]))]) (w1 := [(pl, .inr (3, [.int 0, .int 0, .int 0, .int 0, .long 0, .ref plf, .ref plo, .ref plb, .ref pla])), (pla, .inl (ci, 100, .inl f2_2))]) hP hD [1, 2] [0] rfl rfl (by decide) (by decide) hk1 hFc hP1 hD1
  generalize H1 = H at hP hS ⊢
  have hP : va_P (dC, dI) vwCl [(h0, .inr (0, [.ref pl, .int 0, .long 0, .long 0, .int 0, .int (-1), .int 0, .ref h0t, .int 0, .ref h0u, .int 0, .ref h0n])), (pl, .inr (3, [.int 0, .int 0, .int 0, .int 0, .long 0, .ref plf, .ref plo, .ref plb, .ref pla])), (pla, .inl (ci, 100, .inl f2_2))] H := hP
  have hD : va_D A [(h0, .inr (0, [.ref pl, .int 0, .long 0, .long 0, .int 0, .int (-1), .int 0, .ref h0t, .int 0, .ref h0u, .int 0, .ref h0n])), (pl, .inr (3, [.int 0, .int 0, .int 0, .int 0, .long 0, .ref plf, .ref plo, .ref plb, .ref pla])), (pla, .inl (ci, 100, .inl f2_2))] := hD
  refine lv_aload_n hx hb dX0_clear_9 rfl (lv_at hl 0 rfl) ?_
  refine lv_iconst (v := 0) hx hb dX0_clear_10 (by decide) ?_
  refine va_put (D := (dC, dI)) (ci := 0) (v := .int 0) (ty := .int) (C := RX0) (T := TX0) (N := 12) hx hb hts in_X0_clear_X0 tyX0 tyX0_ok nmX0 hown hK hP hD hS 0 rfl rfl 1 (by decide) (hts _ wd_X0_clear_1) (fun _ h9 => h9) rfl (by decide +kernel) rfl rfl (Nat.le_of_ble_eq_true rfl) dX0_clear_11 (fun H locs hP hD hS => ?_)
  have hP : va_P (dC, dI) vwCl [(h0, .inr (0, [.ref pl, .int 0, .long 0, .long 0, .int 0, .int (-1), .int 0, .ref h0t, .int 0, .ref h0u, .int 0, .ref h0n])), (pl, .inr (3, [.int 0, .int 0, .int 0, .int 0, .long 0, .ref plf, .ref plo, .ref plb, .ref pla])), (pla, .inl (ci, 100, .inl f2_2))] H := hP
  have hD : va_D A [(h0, .inr (0, [.ref pl, .int 0, .long 0, .long 0, .int 0, .int (-1), .int 0, .ref h0t, .int 0, .ref h0u, .int 0, .ref h0n])), (pl, .inr (3, [.int 0, .int 0, .int 0, .int 0, .long 0, .ref plf, .ref plo, .ref plb, .ref pla])), (pla, .inl (ci, 100, .inl f2_2))] := hD
  refine lv_aload_n hx hb dX0_clear_14 rfl (lv_at hl 0 rfl) ?_
  refine lv_lconst (v := 0) hx hb dX0_clear_15 (by decide) ?_
  refine va_put (D := (dC, dI)) (ci := 0) (v := .long 0) (ty := .long) (C := RX0) (T := TX0) (N := 12) hx hb hts in_X0_clear_X0 tyX0 tyX0_ok nmX0 hown hK hP hD hS 0 rfl rfl 2 (by decide) (hts _ wd_X0_clear_2) (fun _ h9 => h9) rfl (by decide +kernel) rfl rfl (Nat.le_of_ble_eq_true rfl) dX0_clear_16 (fun H locs hP hD hS => ?_)
  have hP : va_P (dC, dI) vwCl [(h0, .inr (0, [.ref pl, .int 0, .long 0, .long 0, .int 0, .int (-1), .int 0, .ref h0t, .int 0, .ref h0u, .int 0, .ref h0n])), (pl, .inr (3, [.int 0, .int 0, .int 0, .int 0, .long 0, .ref plf, .ref plo, .ref plb, .ref pla])), (pla, .inl (ci, 100, .inl f2_2))] H := hP
  have hD : va_D A [(h0, .inr (0, [.ref pl, .int 0, .long 0, .long 0, .int 0, .int (-1), .int 0, .ref h0t, .int 0, .ref h0u, .int 0, .ref h0n])), (pl, .inr (3, [.int 0, .int 0, .int 0, .int 0, .long 0, .ref plf, .ref plo, .ref plb, .ref pla])), (pla, .inl (ci, 100, .inl f2_2))] := hD
  refine lv_aload_n hx hb dX0_clear_19 rfl (lv_at hl 0 rfl) ?_
  refine lv_lconst (v := 0) hx hb dX0_clear_20 (by decide) ?_
  refine va_put (D := (dC, dI)) (ci := 0) (v := .long 0) (ty := .long) (C := RX0) (T := TX0) (N := 12) hx hb hts in_X0_clear_X0 tyX0 tyX0_ok nmX0 hown hK hP hD hS 0 rfl rfl 3 (by decide) (hts _ wd_X0_clear_3) (fun _ h9 => h9) rfl (by decide +kernel) rfl rfl (Nat.le_of_ble_eq_true rfl) dX0_clear_21 (fun H locs hP hD hS => ?_)
  have hP : va_P (dC, dI) vwCl [(h0, .inr (0, [.ref pl, .int 0, .long 0, .long 0, .int 0, .int (-1), .int 0, .ref h0t, .int 0, .ref h0u, .int 0, .ref h0n])), (pl, .inr (3, [.int 0, .int 0, .int 0, .int 0, .long 0, .ref plf, .ref plo, .ref plb, .ref pla])), (pla, .inl (ci, 100, .inl f2_2))] H := hP
  have hD : va_D A [(h0, .inr (0, [.ref pl, .int 0, .long 0, .long 0, .int 0, .int (-1), .int 0, .ref h0t, .int 0, .ref h0u, .int 0, .ref h0n])), (pl, .inr (3, [.int 0, .int 0, .int 0, .int 0, .long 0, .ref plf, .ref plo, .ref plb, .ref pla])), (pla, .inl (ci, 100, .inl f2_2))] := hD
  refine lv_aload_n hx hb dX0_clear_24 rfl (lv_at hl 0 rfl) ?_
  refine lv_iconst (v := 0) hx hb dX0_clear_25 (by decide) ?_
  refine va_put (D := (dC, dI)) (ci := 0) (v := .int 0) (ty := .boolean) (C := RX0) (T := TX0) (N := 12) hx hb hts in_X0_clear_X0 tyX0 tyX0_ok nmX0 hown hK hP hD hS 0 rfl rfl 4 (by decide) (hts _ wd_X0_clear_4) (fun _ h9 => h9) rfl (by decide +kernel) (by decide) (by decide) (Nat.le_of_ble_eq_true rfl) dX0_clear_26 (fun H locs hP hD hS => ?_)
  have hP : va_P (dC, dI) vwCl [(h0, .inr (0, [.ref pl, .int 0, .long 0, .long 0, .int 0, .int (-1), .int 0, .ref h0t, .int 0, .ref h0u, .int 0, .ref h0n])), (pl, .inr (3, [.int 0, .int 0, .int 0, .int 0, .long 0, .ref plf, .ref plo, .ref plb, .ref pla])), (pla, .inl (ci, 100, .inl f2_2))] H := hP
  have hD : va_D A [(h0, .inr (0, [.ref pl, .int 0, .long 0, .long 0, .int 0, .int (-1), .int 0, .ref h0t, .int 0, .ref h0u, .int 0, .ref h0n])), (pl, .inr (3, [.int 0, .int 0, .int 0, .int 0, .long 0, .ref plf, .ref plo, .ref plb, .ref pla])), (pla, .inl (ci, 100, .inl f2_2))] := hD
  refine lv_aload_n hx hb dX0_clear_29 rfl (lv_at hl 0 rfl) ?_
  refine lv_iconst (v := -1) hx hb dX0_clear_30 (by decide) ?_
  refine va_put (D := (dC, dI)) (ci := 0) (v := .int (-1)) (ty := .int) (C := RX0) (T := TX0) (N := 12) hx hb hts in_X0_clear_X0 tyX0 tyX0_ok nmX0 hown hK hP hD hS 0 rfl rfl 5 (by decide) (hts _ wd_X0_clear_5) (fun _ h9 => h9) rfl (by decide +kernel) rfl rfl (Nat.le_of_ble_eq_true rfl) dX0_clear_31 (fun H locs hP hD hS => ?_)
  have hP : va_P (dC, dI) vwCl [(h0, .inr (0, [.ref pl, .int 0, .long 0, .long 0, .int 0, .int (-1), .int 0, .ref h0t, .int 0, .ref h0u, .int 0, .ref h0n])), (pl, .inr (3, [.int 0, .int 0, .int 0, .int 0, .long 0, .ref plf, .ref plo, .ref plb, .ref pla])), (pla, .inl (ci, 100, .inl f2_2))] H := hP
  have hD : va_D A [(h0, .inr (0, [.ref pl, .int 0, .long 0, .long 0, .int 0, .int (-1), .int 0, .ref h0t, .int 0, .ref h0u, .int 0, .ref h0n])), (pl, .inr (3, [.int 0, .int 0, .int 0, .int 0, .long 0, .ref plf, .ref plo, .ref plb, .ref pla])), (pla, .inl (ci, 100, .inl f2_2))] := hD
  refine lv_aload_n hx hb dX0_clear_34 rfl (lv_at hl 0 rfl) ?_
  refine lv_iconst (v := 0) hx hb dX0_clear_35 (by decide) ?_
  refine va_put (D := (dC, dI)) (ci := 0) (v := .int 0) (ty := .int) (C := RX0) (T := TX0) (N := 12) hx hb hts in_X0_clear_X0 tyX0 tyX0_ok nmX0 hown hK hP hD hS 0 rfl rfl 6 (by decide) (hts _ wd_X0_clear_6) (fun _ h9 => h9) rfl (by decide +kernel) rfl rfl (Nat.le_of_ble_eq_true rfl) dX0_clear_36 (fun H locs hP hD hS => ?_)
  have hP : va_P (dC, dI) vwCl [(h0, .inr (0, [.ref pl, .int 0, .long 0, .long 0, .int 0, .int (-1), .int 0, .ref h0t, .int 0, .ref h0u, .int 0, .ref h0n])), (pl, .inr (3, [.int 0, .int 0, .int 0, .int 0, .long 0, .ref plf, .ref plo, .ref plb, .ref pla])), (pla, .inl (ci, 100, .inl f2_2))] H := hP
  have hD : va_D A [(h0, .inr (0, [.ref pl, .int 0, .long 0, .long 0, .int 0, .int (-1), .int 0, .ref h0t, .int 0, .ref h0u, .int 0, .ref h0n])), (pl, .inr (3, [.int 0, .int 0, .int 0, .int 0, .long 0, .ref plf, .ref plo, .ref plb, .ref pla])), (pla, .inl (ci, 100, .inl f2_2))] := hD
  refine lv_aload_n hx hb dX0_clear_39 rfl (lv_at hl 0 rfl) ?_
  refine lv_iconst (v := 0) hx hb dX0_clear_40 (by decide) ?_
  refine va_put (D := (dC, dI)) (ci := 0) (v := .int 0) (ty := .int) (C := RX0) (T := TX0) (N := 12) hx hb hts in_X0_clear_X0 tyX0 tyX0_ok nmX0 hown hK hP hD hS 0 rfl rfl 8 (by decide) (hts _ wd_X0_clear_7) (fun _ h9 => h9) rfl (by decide +kernel) rfl rfl (Nat.le_of_ble_eq_true rfl) dX0_clear_41 (fun H locs hP hD hS => ?_)
  have hP : va_P (dC, dI) vwCl [(h0, .inr (0, [.ref pl, .int 0, .long 0, .long 0, .int 0, .int (-1), .int 0, .ref h0t, .int 0, .ref h0u, .int 0, .ref h0n])), (pl, .inr (3, [.int 0, .int 0, .int 0, .int 0, .long 0, .ref plf, .ref plo, .ref plb, .ref pla])), (pla, .inl (ci, 100, .inl f2_2))] H := hP
  have hD : va_D A [(h0, .inr (0, [.ref pl, .int 0, .long 0, .long 0, .int 0, .int (-1), .int 0, .ref h0t, .int 0, .ref h0u, .int 0, .ref h0n])), (pl, .inr (3, [.int 0, .int 0, .int 0, .int 0, .long 0, .ref plf, .ref plo, .ref plb, .ref pla])), (pla, .inl (ci, 100, .inl f2_2))] := hD
  refine lv_aload_n hx hb dX0_clear_44 rfl (lv_at hl 0 rfl) ?_
  refine lv_iconst (v := 0) hx hb dX0_clear_45 (by decide) ?_
  refine va_put (D := (dC, dI)) (ci := 0) (v := .int 0) (ty := .int) (C := RX0) (T := TX0) (N := 12) hx hb hts in_X0_clear_X0 tyX0 tyX0_ok nmX0 hown hK hP hD hS 0 rfl rfl 10 (by decide) (hts _ wd_X0_clear_8) (fun _ h9 => h9) rfl (by decide +kernel) rfl rfl (Nat.le_of_ble_eq_true rfl) dX0_clear_46 (fun H locs hP hD hS => ?_)
  have hP : va_P (dC, dI) vwCl [(h0, .inr (0, [.ref pl, .int 0, .long 0, .long 0, .int 0, .int (-1), .int 0, .ref h0t, .int 0, .ref h0u, .int 0, .ref h0n])), (pl, .inr (3, [.int 0, .int 0, .int 0, .int 0, .long 0, .ref plf, .ref plo, .ref plb, .ref pla])), (pla, .inl (ci, 100, .inl f2_2))] H := hP
  have hD : va_D A [(h0, .inr (0, [.ref pl, .int 0, .long 0, .long 0, .int 0, .int (-1), .int 0, .ref h0t, .int 0, .ref h0u, .int 0, .ref h0n])), (pl, .inr (3, [.int 0, .int 0, .int 0, .int 0, .long 0, .ref plf, .ref plo, .ref plb, .ref pla])), (pla, .inl (ci, 100, .inl f2_2))] := hD
  have hP9 := hP.sub (ws' := [(h0, .inr (0, [.ref pl, .int 0, .long 0, .long 0, .int 0, .int (-1), .int 0, .ref h0t, .int 0, .ref h0u, .int 0, .ref h0n])), (pl, .inr (3, [.int 0, .int 0, .int 0, .int 0, .long 0, .ref plf, .ref plo, .ref plb, .ref pla])), (pla, .inl (ci, 100, .inl f2_2))]) [0, 1, 2] rfl
  have hD9 := hD.sub (ws' := [(h0, .inr (0, [.ref pl, .int 0, .long 0, .long 0, .int 0, .int (-1), .int 0, .ref h0t, .int 0, .ref h0u, .int 0, .ref h0n])), (pl, .inr (3, [.int 0, .int 0, .int 0, .int 0, .long 0, .ref plf, .ref plo, .ref plb, .ref pla])), (pla, .inl (ci, 100, .inl f2_2))]) [0, 1, 2] (by decide) rfl
  have hK9 := hK.sub (tys' := []) [] rfl
  refine W.widen (k := 0) (n := 0) (by omega) (by omega) ?_
  exact W.vret hx hb hr (fun t ht hW => ⟨⟨(f2_2), rfl, trivial, by rw [ht]; exact hP9, va_K.moved hW.alike hK9, hD9⟩, hS.F ht⟩) hS.2.2 dX0_clear_49

theorem dX0_becomeLike_0 : decode cX0_becomeLike 0 = .ok (.aload_n 0, 1) := by decide +kernel
theorem dX0_becomeLike_1 : decode cX0_becomeLike 1 = .ok (.getfield 12, 3) := by decide +kernel
theorem dX0_becomeLike_4 : decode cX0_becomeLike 4 = .ok (.aload_n 1, 1) := by decide +kernel
theorem dX0_becomeLike_5 : decode cX0_becomeLike 5 = .ok (.getfield 12, 3) := by decide +kernel
theorem dX0_becomeLike_8 : decode cX0_becomeLike 8 = .ok (.getfield 59, 3) := by decide +kernel
theorem dX0_becomeLike_11 : decode cX0_becomeLike 11 = .ok (.aload_n 1, 1) := by decide +kernel
theorem dX0_becomeLike_12 : decode cX0_becomeLike 12 = .ok (.getfield 12, 3) := by decide +kernel
theorem dX0_becomeLike_15 : decode cX0_becomeLike 15 = .ok (.getfield 62, 3) := by decide +kernel
theorem dX0_becomeLike_18 : decode cX0_becomeLike 18 = .ok (.invokevirtual 55, 3) := by decide +kernel
theorem dX0_becomeLike_21 : decode cX0_becomeLike 21 = .ok (.aload_n 0, 1) := by decide +kernel
theorem dX0_becomeLike_22 : decode cX0_becomeLike 22 = .ok (.aload_n 1, 1) := by decide +kernel
theorem dX0_becomeLike_23 : decode cX0_becomeLike 23 = .ok (.getfield 18, 3) := by decide +kernel
theorem dX0_becomeLike_26 : decode cX0_becomeLike 26 = .ok (.putfield 18, 3) := by decide +kernel
theorem dX0_becomeLike_29 : decode cX0_becomeLike 29 = .ok (.aload_n 0, 1) := by decide +kernel
theorem dX0_becomeLike_30 : decode cX0_becomeLike 30 = .ok (.aload_n 1, 1) := by decide +kernel
theorem dX0_becomeLike_31 : decode cX0_becomeLike 31 = .ok (.getfield 22, 3) := by decide +kernel
theorem dX0_becomeLike_34 : decode cX0_becomeLike 34 = .ok (.putfield 22, 3) := by decide +kernel
theorem dX0_becomeLike_37 : decode cX0_becomeLike 37 = .ok (.aload_n 0, 1) := by decide +kernel
theorem dX0_becomeLike_38 : decode cX0_becomeLike 38 = .ok (.aload_n 1, 1) := by decide +kernel
theorem dX0_becomeLike_39 : decode cX0_becomeLike 39 = .ok (.getfield 26, 3) := by decide +kernel
theorem dX0_becomeLike_42 : decode cX0_becomeLike 42 = .ok (.putfield 26, 3) := by decide +kernel
theorem dX0_becomeLike_45 : decode cX0_becomeLike 45 = .ok (.aload_n 0, 1) := by decide +kernel
theorem dX0_becomeLike_46 : decode cX0_becomeLike 46 = .ok (.aload_n 1, 1) := by decide +kernel
theorem dX0_becomeLike_47 : decode cX0_becomeLike 47 = .ok (.getfield 29, 3) := by decide +kernel
theorem dX0_becomeLike_50 : decode cX0_becomeLike 50 = .ok (.putfield 29, 3) := by decide +kernel
theorem dX0_becomeLike_53 : decode cX0_becomeLike 53 = .ok (.aload_n 0, 1) := by decide +kernel
theorem dX0_becomeLike_54 : decode cX0_becomeLike 54 = .ok (.aload_n 1, 1) := by decide +kernel
theorem dX0_becomeLike_55 : decode cX0_becomeLike 55 = .ok (.getfield 33, 3) := by decide +kernel
theorem dX0_becomeLike_58 : decode cX0_becomeLike 58 = .ok (.putfield 33, 3) := by decide +kernel
theorem dX0_becomeLike_61 : decode cX0_becomeLike 61 = .ok (.aload_n 0, 1) := by decide +kernel
theorem dX0_becomeLike_62 : decode cX0_becomeLike 62 = .ok (.aload_n 1, 1) := by decide +kernel
theorem dX0_becomeLike_63 : decode cX0_becomeLike 63 = .ok (.getfield 36, 3) := by decide +kernel
theorem dX0_becomeLike_66 : decode cX0_becomeLike 66 = .ok (.putfield 36, 3) := by decide +kernel
theorem dX0_becomeLike_69 : decode cX0_becomeLike 69 = .ok (.aload_n 0, 1) := by decide +kernel
theorem dX0_becomeLike_70 : decode cX0_becomeLike 70 = .ok (.aload_n 1, 1) := by decide +kernel
theorem dX0_becomeLike_71 : decode cX0_becomeLike 71 = .ok (.getfield 43, 3) := by decide +kernel
theorem dX0_becomeLike_74 : decode cX0_becomeLike 74 = .ok (.putfield 43, 3) := by decide +kernel
theorem dX0_becomeLike_77 : decode cX0_becomeLike 77 = .ok (.aload_n 0, 1) := by decide +kernel
theorem dX0_becomeLike_78 : decode cX0_becomeLike 78 = .ok (.aload_n 1, 1) := by decide +kernel
theorem dX0_becomeLike_79 : decode cX0_becomeLike 79 = .ok (.getfield 49, 3) := by decide +kernel
theorem dX0_becomeLike_82 : decode cX0_becomeLike 82 = .ok (.putfield 49, 3) := by decide +kernel
theorem dX0_becomeLike_85 : decode cX0_becomeLike 85 = .ok (.aload_n 1, 1) := by decide +kernel
theorem dX0_becomeLike_86 : decode cX0_becomeLike 86 = .ok (.getfield 39, 3) := by decide +kernel
theorem dX0_becomeLike_89 : decode cX0_becomeLike 89 = .ok (.iconst 0, 1) := by decide +kernel
theorem dX0_becomeLike_90 : decode cX0_becomeLike 90 = .ok (.aload_n 0, 1) := by decide +kernel
theorem dX0_becomeLike_91 : decode cX0_becomeLike 91 = .ok (.getfield 39, 3) := by decide +kernel
theorem dX0_becomeLike_94 : decode cX0_becomeLike 94 = .ok (.iconst 0, 1) := by decide +kernel
theorem dX0_becomeLike_95 : decode cX0_becomeLike 95 = .ok (.iconst 4, 1) := by decide +kernel
theorem dX0_becomeLike_96 : decode cX0_becomeLike 96 = .ok (.invokestatic 65, 3) := by decide +kernel
theorem dX0_becomeLike_99 : decode cX0_becomeLike 99 = .ok (.aload_n 1, 1) := by decide +kernel
theorem dX0_becomeLike_100 : decode cX0_becomeLike 100 = .ok (.getfield 46, 3) := by decide +kernel
theorem dX0_becomeLike_103 : decode cX0_becomeLike 103 = .ok (.iconst 0, 1) := by decide +kernel
theorem dX0_becomeLike_104 : decode cX0_becomeLike 104 = .ok (.aload_n 0, 1) := by decide +kernel
theorem dX0_becomeLike_105 : decode cX0_becomeLike 105 = .ok (.getfield 46, 3) := by decide +kernel
theorem dX0_becomeLike_108 : decode cX0_becomeLike 108 = .ok (.iconst 0, 1) := by decide +kernel
theorem dX0_becomeLike_109 : decode cX0_becomeLike 109 = .ok (.iconst 5, 1) := by decide +kernel
theorem dX0_becomeLike_110 : decode cX0_becomeLike 110 = .ok (.invokestatic 65, 3) := by decide +kernel
theorem dX0_becomeLike_113 : decode cX0_becomeLike 113 = .ok (.aload_n 1, 1) := by decide +kernel
theorem dX0_becomeLike_114 : decode cX0_becomeLike 114 = .ok (.getfield 52, 3) := by decide +kernel
theorem dX0_becomeLike_117 : decode cX0_becomeLike 117 = .ok (.iconst 0, 1) := by decide +kernel
theorem dX0_becomeLike_118 : decode cX0_becomeLike 118 = .ok (.aload_n 0, 1) := by decide +kernel
theorem dX0_becomeLike_119 : decode cX0_becomeLike 119 = .ok (.getfield 52, 3) := by decide +kernel
theorem dX0_becomeLike_122 : decode cX0_becomeLike 122 = .ok (.iconst 0, 1) := by decide +kernel
theorem dX0_becomeLike_123 : decode cX0_becomeLike 123 = .ok (.bipush 99, 2) := by decide +kernel
theorem dX0_becomeLike_125 : decode cX0_becomeLike 125 = .ok (.invokestatic 65, 3) := by decide +kernel
theorem dX0_becomeLike_128 : decode cX0_becomeLike 128 = .ok (.return_, 1) := by decide +kernel
def wz_X0_becomeLike : List Cond := .code yX0_becomeLike cX0_becomeLike 2 none :: ([Cond.fieldLink RX0 12 "HedgeMaze$Garden" "plan" "LHedgeMaze$Plan;", Cond.fieldLink RX0 59 "HedgeMaze$Plan" "wide" "I", Cond.fieldLink RX0 62 "HedgeMaze$Plan" "deep" "I", Cond.fieldLink RX0 18 "HedgeMaze$Garden" "lines" "I", Cond.fieldLink RX0 22 "HedgeMaze$Garden" "hedges" "J", Cond.fieldLink RX0 26 "HedgeMaze$Garden" "walls" "J", Cond.fieldLink RX0 29 "HedgeMaze$Garden" "isNear" "Z", Cond.fieldLink RX0 33 "HedgeMaze$Garden" "letterCell" "I", Cond.fieldLink RX0 36 "HedgeMaze$Garden" "gateCount" "I", Cond.fieldLink RX0 43 "HedgeMaze$Garden" "guestCount" "I", Cond.fieldLink RX0 49 "HedgeMaze$Garden" "goneCount" "I", Cond.fieldLink RX0 39 "HedgeMaze$Garden" "gates" "[I", Cond.methodLink RX0 65 arraycopyName, Cond.native arraycopyName, Cond.static arraycopyName, Cond.initialized "java/lang/System", Cond.fieldLink RX0 46 "HedgeMaze$Garden" "guests" "[I", Cond.fieldLink RX0 52 "HedgeMaze$Garden" "goneNights" "[I", Cond.methodLink RX0 55 yX3_lay, Cond.instanceMethod yX3_lay, Cond.selects RX3 yX3_lay yX3_lay, Cond.initialized RX3, Cond.code yX3_lay cX3_lay 6 none, Cond.methodLink RX3 42 Lib.Math.min.name, Cond.static Lib.Math.min.name, Cond.initialized "java/lang/Math", Cond.code Lib.Math.min.name Lib.Math.min.code 2 (some .int), Cond.fieldLink RX3 9 "HedgeMaze$Plan" "wide" "I", Cond.fieldLink RX3 15 "HedgeMaze$Plan" "deep" "I", Cond.fieldLink RX3 18 "HedgeMaze$Plan" "cellCount" "I", Cond.fieldLink RX3 21 "HedgeMaze$Plan" "sideCount" "I", Cond.fieldLink RX3 24 "HedgeMaze$Plan" "allSides" "J", Cond.fieldLink RX3 39 "HedgeMaze$Plan" "around" "[I", Cond.methodLink RX3 48 yJ7_fill_53178, Cond.static yJ7_fill_53178, Cond.initialized RJ7, Cond.code yJ7_fill_53178 cJ7_fill_53178 4 none] ++ wsX00 ++ wsX30)
theorem wd_X0_becomeLike_0 : Cond.fieldLink RX0 12 "HedgeMaze$Garden" "plan" "LHedgeMaze$Plan;" ∈ wz_X0_becomeLike := List.mem_of_getElem? (i := 1) rfl
theorem wd_X0_becomeLike_1 : Cond.fieldLink RX0 59 "HedgeMaze$Plan" "wide" "I" ∈ wz_X0_becomeLike := List.mem_of_getElem? (i := 2) rfl
theorem wd_X0_becomeLike_2 : Cond.fieldLink RX0 62 "HedgeMaze$Plan" "deep" "I" ∈ wz_X0_becomeLike := List.mem_of_getElem? (i := 3) rfl
theorem wd_X0_becomeLike_3 : Cond.fieldLink RX0 18 "HedgeMaze$Garden" "lines" "I" ∈ wz_X0_becomeLike := List.mem_of_getElem? (i := 4) rfl
theorem wd_X0_becomeLike_4 : Cond.fieldLink RX0 22 "HedgeMaze$Garden" "hedges" "J" ∈ wz_X0_becomeLike := List.mem_of_getElem? (i := 5) rfl
theorem wd_X0_becomeLike_5 : Cond.fieldLink RX0 26 "HedgeMaze$Garden" "walls" "J" ∈ wz_X0_becomeLike := List.mem_of_getElem? (i := 6) rfl
theorem wd_X0_becomeLike_6 : Cond.fieldLink RX0 29 "HedgeMaze$Garden" "isNear" "Z" ∈ wz_X0_becomeLike := List.mem_of_getElem? (i := 7) rfl
theorem wd_X0_becomeLike_7 : Cond.fieldLink RX0 33 "HedgeMaze$Garden" "letterCell" "I" ∈ wz_X0_becomeLike := List.mem_of_getElem? (i := 8) rfl
theorem wd_X0_becomeLike_8 : Cond.fieldLink RX0 36 "HedgeMaze$Garden" "gateCount" "I" ∈ wz_X0_becomeLike := List.mem_of_getElem? (i := 9) rfl
theorem wd_X0_becomeLike_9 : Cond.fieldLink RX0 43 "HedgeMaze$Garden" "guestCount" "I" ∈ wz_X0_becomeLike := List.mem_of_getElem? (i := 10) rfl
theorem wd_X0_becomeLike_10 : Cond.fieldLink RX0 49 "HedgeMaze$Garden" "goneCount" "I" ∈ wz_X0_becomeLike := List.mem_of_getElem? (i := 11) rfl
theorem wd_X0_becomeLike_11 : Cond.fieldLink RX0 39 "HedgeMaze$Garden" "gates" "[I" ∈ wz_X0_becomeLike := List.mem_of_getElem? (i := 12) rfl
theorem wd_X0_becomeLike_12 : Cond.methodLink RX0 65 arraycopyName ∈ wz_X0_becomeLike := List.mem_of_getElem? (i := 13) rfl
theorem wd_X0_becomeLike_13 : Cond.native arraycopyName ∈ wz_X0_becomeLike := List.mem_of_getElem? (i := 14) rfl
theorem wd_X0_becomeLike_14 : Cond.static arraycopyName ∈ wz_X0_becomeLike := List.mem_of_getElem? (i := 15) rfl
theorem wd_X0_becomeLike_15 : Cond.initialized "java/lang/System" ∈ wz_X0_becomeLike := List.mem_of_getElem? (i := 16) rfl
theorem wd_X0_becomeLike_16 : Cond.fieldLink RX0 46 "HedgeMaze$Garden" "guests" "[I" ∈ wz_X0_becomeLike := List.mem_of_getElem? (i := 17) rfl
theorem wd_X0_becomeLike_17 : Cond.fieldLink RX0 52 "HedgeMaze$Garden" "goneNights" "[I" ∈ wz_X0_becomeLike := List.mem_of_getElem? (i := 18) rfl
theorem in_X0_becomeLike_X0 : ∀ w ∈ wsX00, w ∈ wz_X0_becomeLike := fun _ h => List.mem_cons_of_mem _ (List.mem_append_left _ (List.mem_append_right _ h))
theorem in_X0_becomeLike_X3 : ∀ w ∈ wsX30, w ∈ wz_X0_becomeLike := fun _ h => List.mem_cons_of_mem _ (List.mem_append_right _ h)
set_option maxRecDepth 20000 in
theorem g_X0_becomeLike_X3_lay : GoodIn wz_X0_becomeLike (wsV RX0 55 RX3 yX3_lay wz_X3_lay) := goodIn_r _ [19, 20, 21, 22, 23, 24, 25, 26, 27, 28, 29, 30, 31, 32, 33, 34, 35, 36, 37, 50, 51, 52, 53, 54, 55, 56, 57, 58] rfl (by decide +kernel)
set_option maxHeartbeats 4000000 in
set_option maxRecDepth 100000 in
/-- becomeLike of one without a MAZE -/
theorem c_X0_becomeLike (l : Launch) (dC : Nat → ClassId) (dI : Nat → Nat → Nat) (sz : Nat) (h0 : Nat) (pl : Nat) (h0t : Nat) (h0u : Nat) (h0n : Nat) (plf : Nat) (plo : Nat) (plb : Nat) (pla : Nat) (ci : ClassId) (ct : ClassId) (cu : ClassId) (cn : ClassId) (fa : Nat → Int32) (lk : Nat) (lp : Nat) (lkt : Nat) (lku : Nat) (lkn : Nat) (lpf : Nat) (lpo : Nat) (lpb : Nat) (lpa : Nat) (lt : ClassId) (lu : ClassId) (ln : ClassId)  : Met l yX0_becomeLike wz_X0_becomeLike ({ frames := 2, cells := 0, slots := 0, locals := 65 }) (va_Pc [.ref h0, .ref lk] (fun U => U.heap.size = sz ∧ va_P (dC, dI) vwCl [(h0, .inr (0, [.ref pl, .int 0, .long 0, .long 0, .int 0, .int (-1), .int 0, .ref h0t, .int 0, .ref h0u, .int 0, .ref h0n])), (pl, .inr (3, [.int 0, .int 0, .int 0, .int 0, .long 0, .ref plf, .ref plo, .ref plb, .ref pla])), (pla, .inl (ci, 100, .inl fa)), (h0t, .inl (ct, 4, .inl (fun _ => 0))), (h0u, .inl (cu, 5, .inl (fun _ => 0))), (h0n, .inl (cn, 99, .inl (fun _ => 0))), (lk, .inr (0, [.ref lp, .int 0, .long 0, .long 0, .int 0, .int (-1), .int 0, .ref lkt, .int 0, .ref lku, .int 0, .ref lkn])), (lp, .inr (3, [.int 0, .int 0, .int 0, .int 0, .long 0, .ref lpf, .ref lpo, .ref lpb, .ref lpa])), (lkt, .inl (lt, 4, .inl (fun _ => 0))), (lku, .inl (lu, 5, .inl (fun _ => 0))), (lkn, .inl (ln, 99, .inl (fun _ => 0)))] U.heap ∧ va_K (dC, dI) vwCl [(ci, .int), (ct, .int), (cu, .int), (cn, .int), (lt, .int), (lu, .int), (ln, .int)] U ∧ va_D (fun _ => True) [(h0, .inr (0, [.ref pl, .int 0, .long 0, .long 0, .int 0, .int (-1), .int 0, .ref h0t, .int 0, .ref h0u, .int 0, .ref h0n])), (pl, .inr (3, [.int 0, .int 0, .int 0, .int 0, .long 0, .ref plf, .ref plo, .ref plb, .ref pla])), (pla, .inl (ci, 100, .inl fa)), (h0t, .inl (ct, 4, .inl (fun _ => 0))), (h0u, .inl (cu, 5, .inl (fun _ => 0))), (h0n, .inl (cn, 99, .inl (fun _ => 0))), (lk, .inr (0, [.ref lp, .int 0, .long 0, .long 0, .int 0, .int (-1), .int 0, .ref lkt, .int 0, .ref lku, .int 0, .ref lkn])), (lp, .inr (3, [.int 0, .int 0, .int 0, .int 0, .long 0, .ref lpf, .ref lpo, .ref lpb, .ref lpa])), (lkt, .inl (lt, 4, .inl (fun _ => 0))), (lku, .inl (lu, 5, .inl (fun _ => 0))), (lkn, .inl (ln, 99, .inl (fun _ => 0)))])) (va_Qv (fun (u : Unit) => True) (fun (u : Unit) (t : State) => va_P (dC, dI) vwCl [(h0, .inr (0, [.ref pl, .int 0, .long 0, .long 0, .int 0, .int (-1), .int 0, .ref h0t, .int 0, .ref h0u, .int 0, .ref h0n]))] t.heap ∧ va_K (dC, dI) vwCl [] t ∧ va_D (va_A [(h0, .inr (0, [.ref pl, .int 0, .long 0, .long 0, .int 0, .int (-1), .int 0, .ref h0t, .int 0, .ref h0u, .int 0, .ref h0n])), (pl, .inr (3, [.int 0, .int 0, .int 0, .int 0, .long 0, .ref plf, .ref plo, .ref plb, .ref pla])), (pla, .inl (ci, 100, .inl fa)), (h0t, .inl (ct, 4, .inl (fun _ => 0))), (h0u, .inl (cu, 5, .inl (fun _ => 0))), (h0n, .inl (cn, 99, .inl (fun _ => 0))), (lk, .inr (0, [.ref lp, .int 0, .long 0, .long 0, .int 0, .int (-1), .int 0, .ref lkt, .int 0, .ref lku, .int 0, .ref lkn])), (lp, .inr (3, [.int 0, .int 0, .int 0, .int 0, .long 0, .ref lpf, .ref lpo, .ref lpb, .ref lpa])), (lkt, .inl (lt, 4, .inl (fun _ => 0))), (lku, .inl (lu, 5, .inl (fun _ => 0))), (lkn, .inl (ln, 99, .inl (fun _ => 0)))] sz) [(h0, .inr (0, [.ref pl, .int 0, .long 0, .long 0, .int 0, .int (-1), .int 0, .ref h0t, .int 0, .ref h0u, .int 0, .ref h0n]))]) (va_A [(h0, .inr (0, [.ref pl, .int 0, .long 0, .long 0, .int 0, .int (-1), .int 0, .ref h0t, .int 0, .ref h0u, .int 0, .ref h0n])), (pl, .inr (3, [.int 0, .int 0, .int 0, .int 0, .long 0, .ref plf, .ref plo, .ref plb, .ref pla])), (pla, .inl (ci, 100, .inl fa)), (h0t, .inl (ct, 4, .inl (fun _ => 0))), (h0u, .inl (cu, 5, .inl (fun _ => 0))), (h0n, .inl (cn, 99, .inl (fun _ => 0))), (lk, .inr (0, [.ref lp, .int 0, .long 0, .long 0, .int 0, .int (-1), .int 0, .ref lkt, .int 0, .ref lku, .int 0, .ref lkn])), (lp, .inr (3, [.int 0, .int 0, .int 0, .int 0, .long 0, .ref lpf, .ref lpo, .ref lpb, .ref lpa])), (lkt, .inl (lt, 4, .inl (fun _ => 0))), (lku, .inl (lu, 5, .inl (fun _ => 0))), (lkn, .inl (ln, 99, .inl (fun _ => 0)))] sz)) 0 0 (va_A [(h0, .inr (0, [.ref pl, .int 0, .long 0, .long 0, .int 0, .int (-1), .int 0, .ref h0t, .int 0, .ref h0u, .int 0, .ref h0n])), (pl, .inr (3, [.int 0, .int 0, .int 0, .int 0, .long 0, .ref plf, .ref plo, .ref plb, .ref pla])), (pla, .inl (ci, 100, .inl fa)), (h0t, .inl (ct, 4, .inl (fun _ => 0))), (h0u, .inl (cu, 5, .inl (fun _ => 0))), (h0n, .inl (cn, 99, .inl (fun _ => 0))), (lk, .inr (0, [.ref lp, .int 0, .long 0, .long 0, .int 0, .int (-1), .int 0, .ref lkt, .int 0, .ref lku, .int 0, .ref lkn])), (lp, .inr (3, [.int 0, .int 0, .int 0, .int 0, .long 0, .ref lpf, .ref lpo, .ref lpb, .ref lpa])), (lkt, .inl (lt, 4, .inl (fun _ => 0))), (lku, .inl (lu, 5, .inl (fun _ => 0))), (lkn, .inl (ln, 99, .inl (fun _ => 0)))] sz) := by
  refine Met.ofW (cc := cX0_becomeLike) (maxL := 2) (ret := none) (by decide) rfl ?_
  intro p e s m args below meth c s₁ B hml hv
  obtain ⟨rfl, hsz, hP, hK, hD0⟩ := hv
  have hx := B.exec
  have hb := B.bytes
  have hr := B.returns
  have hts := atoms_spec (ws := wz_X0_becomeLike) B.pre
  have hown : s.vm.findClass RX0 = some m.cls := findClass_of_methodNamed B.named
  have hlocks := B.notSynchronized
  subst hsz
  have hD := hD0.self (sz := s.heap.size)
  generalize hAe : va_A [(h0, .inr (0, [.ref pl, .int 0, .long 0, .long 0, .int 0, .int (-1), .int 0, .ref h0t, .int 0, .ref h0u, .int 0, .ref h0n])), (pl, .inr (3, [.int 0, .int 0, .int 0, .int 0, .long 0, .ref plf, .ref plo, .ref plb, .ref pla])), (pla, .inl (ci, 100, .inl fa)), (h0t, .inl (ct, 4, .inl (fun _ => 0))), (h0u, .inl (cu, 5, .inl (fun _ => 0))), (h0n, .inl (cn, 99, .inl (fun _ => 0))), (lk, .inr (0, [.ref lp, .int 0, .long 0, .long 0, .int 0, .int (-1), .int 0, .ref lkt, .int 0, .ref lku, .int 0, .ref lkn])), (lp, .inr (3, [.int 0, .int 0, .int 0, .int 0, .long 0, .ref lpf, .ref lpo, .ref lpb, .ref lpa])), (lkt, .inl (lt, 4, .inl (fun _ => 0))), (lku, .inl (lu, 5, .inl (fun _ => 0))), (lkn, .inl (ln, 99, .inl (fun _ => 0)))] s.heap.size = A at hD ⊢
  have hA : ∀ q : Nat, s.heap.size ≤ q → A q := fun q h => by rw [← hAe]; exact Or.inr h
  have hS : va_S A s.heap s.heap [] := va_S.rf
  have hP : va_P (dC, dI) vwCl [(h0, .inr (0, [.ref pl, .int 0, .long 0, .long 0, .int 0, .int (-1), .int 0, .ref h0t, .int 0, .ref h0u, .int 0, .ref h0n])), (pl, .inr (3, [.int 0, .int 0, .int 0, .int 0, .long 0, .ref plf, .ref plo, .ref plb, .ref pla])), (pla, .inl (ci, 100, .inl fa)), (h0t, .inl (ct, 4, .inl (fun _ => 0))), (h0u, .inl (cu, 5, .inl (fun _ => 0))), (h0n, .inl (cn, 99, .inl (fun _ => 0))), (lk, .inr (0, [.ref lp, .int 0, .long 0, .long 0, .int 0, .int (-1), .int 0, .ref lkt, .int 0, .ref lku, .int 0, .ref lkn])), (lp, .inr (3, [.int 0, .int 0, .int 0, .int 0, .long 0, .ref lpf, .ref lpo, .ref lpb, .ref lpa])), (lkt, .inl (lt, 4, .inl (fun _ => 0))), (lku, .inl (lu, 5, .inl (fun _ => 0))), (lkn, .inl (ln, 99, .inl (fun _ => 0)))] s.heap := hP
  have hl := lv_entry ([.ref h0, .ref lk]) (n := 2) (Nat.le_of_ble_eq_true rfl)
  rw [lg_entry_eq]
  generalize (lg_sl ([.ref h0, .ref lk]) ++ List.replicate (2 - (lg_sl ([.ref h0, .ref lk])).length) Slot.unset).toArray = ls at hl ⊢
  have hl : lv_has ls 2 [(0, .ref h0), (1, .ref lk)] := hl
  refine lv_aload_n hx hb dX0_becomeLike_0 rfl (lv_at hl 0 rfl) ?_
  refine va_get (D := (dC, dI)) (ci := 0) (v := .ref pl) (C := RX0) (T := TX0) (N := 12) hx hb hts in_X0_becomeLike_X0 hown hK hP 0 rfl rfl 0 (by decide) (hts _ wd_X0_becomeLike_0) (fun _ h9 => h9) rfl dX0_becomeLike_1 ?_
  refine lv_aload_n hx hb dX0_becomeLike_4 rfl (lv_at hl 1 rfl) ?_
  refine va_get (D := (dC, dI)) (ci := 0) (v := .ref lp) (C := RX0) (T := TX0) (N := 12) hx hb hts in_X0_becomeLike_X0 hown hK hP 6 rfl rfl 0 (by decide) (hts _ wd_X0_becomeLike_0) (fun _ h9 => h9) rfl dX0_becomeLike_5 ?_
  refine va_get (D := (dC, dI)) (ci := 3) (v := .int 0) (C := RX3) (T := TX3) (N := 9) hx hb hts in_X0_becomeLike_X3 hown hK hP 7 rfl rfl 0 (by decide) (hts _ wd_X0_becomeLike_1) (fun _ h9 => h9) rfl dX0_becomeLike_8 ?_
  refine lv_aload_n hx hb dX0_becomeLike_11 rfl (lv_at hl 1 rfl) ?_
  refine va_get (D := (dC, dI)) (ci := 0) (v := .ref lp) (C := RX0) (T := TX0) (N := 12) hx hb hts in_X0_becomeLike_X0 hown hK hP 6 rfl rfl 0 (by decide) (hts _ wd_X0_becomeLike_0) (fun _ h9 => h9) rfl dX0_becomeLike_12 ?_
  refine va_get (D := (dC, dI)) (ci := 3) (v := .int 0) (C := RX3) (T := TX3) (N := 9) hx hb hts in_X0_becomeLike_X3 hown hK hP 7 rfl rfl 1 (by decide) (hts _ wd_X0_becomeLike_2) (fun _ h9 => h9) rfl dX0_becomeLike_15 ?_
  have hPc := hP.sub (ws' := [(pl, .inr (3, [.int 0, .int 0, .int 0, .int 0, .long 0, .ref plf, .ref plo, .ref plb, .ref pla])), (pla, .inl (ci, 100, .inl fa))]) [1, 2] rfl
  have hDc := hD.sub (ws' := [(pl, .inr (3, [.int 0, .int 0, .int 0, .int 0, .long 0, .ref plf, .ref plo, .ref plb, .ref pla])), (pla, .inl (ci, 100, .inl fa))]) [1, 2] (by decide) rfl
  have hKc := hK.sub (tys' := [(ci, .int)]) [0] rfl
  have hFc := va_free (wc := [(pl, .inr (3, [.int 0, .int 0, .int 0, .int 0, .long 0, .ref plf, .ref plo, .ref plb, .ref pla])), (pla, .inl (ci, 100, .inl fa))]) hD hS hA [1, 2] rfl
  refine va_callv (va_runV (As := [.int 0, .int 0]) (rest := []) ⟨hx, hb, hml, hown, hts⟩ (c_X3_lay l dC dI s.heap.size pl plf plo plb pla ci fa ) (cwV 2 hts g_X0_becomeLike_X3_lay rfl rfl rfl (by decide +kernel) ⟨Nat.le_of_ble_eq_true rfl, Nat.le_of_ble_eq_true rfl⟩) ⟨fun a U g mk q => by obtain ⟨q0, q1, qP, qK, qD⟩ := q; exact ⟨q0, q1, qP, va_K.moved (u := U) (U := U.calling g mk a) (Vm.Alike.refl U.vm) qK, qD⟩, va_recv hKc hPc (ci := 3) (q0 := 0) rfl rfl, fun U hU hW => ⟨rfl, by rw [hU], by rw [hU]; exact hPc, va_K.moved hW.alike hKc, hDc.weaken (fun _ _ _ _ => trivial)⟩⟩ rfl rfl hl.1 rfl (lv_room (Nat.le_of_ble_eq_true rfl)) dX0_becomeLike_18 ⟨Nat.le_of_ble_eq_true rfl, Nat.le_of_ble_eq_true rfl⟩) hS (fun q _ h => hFc q h) hFc (fun u t H1 locs ht hvm hw_1 hB hz1 hk1 hS => ?_)
  obtain ⟨f2_2, rfl⟩ : ∃ z, z = u := ⟨_, rfl⟩
  obtain ⟨hP1, hK1, hD1⟩ := hB
  have hP1 : va_P (dC, dI) vwCl [(pl, .inr (3, [.int 0, .int 0, .int 0, .int 0, .long 0, .ref plf, .ref plo, .ref plb, .ref pla])), (pla, .inl (ci, 100, .inl f2_2))] t.heap := hP1
  rw [ht] at hP1
  try dsimp only at hw_1
  obtain ⟨hP, hD⟩ := va_join (wr := [(h0, .inr (0, [.ref pl, .int 0, .long 0, .long 0, .int 0, .int (-1), .int 0, .ref h0t, .int 0, .ref h0u, .int 0, .ref h0n])), (h0t, .inl (ct, 4, .inl (fun _ => 0))), (h0u, .inl (cu, 5, .inl (fun _ => 0))), (h0n, .inl (cn, 99, .inl (fun _ => 0))), (lk, .inr (0, [.ref lp, .int 0, .long 0, .long 0, .int 0, .int (-1), .int 0, .ref lkt, .int 0, .ref lku, .int 0, .ref lkn])), (lp, .inr (3, [.int 0, .int 0, .int 0, .int 0, .long 0, .ref lpf, .ref lpo, .ref lpb, .ref lpa])), (lkt, .inl (lt, 4, .inl (fun _ => 0))), (lku, .inl (lu, 5, .inl (fun _ => 0))), (lkn, .inl (ln, 99, .inl (fun _ => 0)))]) (w1 := [(pl, .inr (3, [.int 0, .int 0, .int 0, .int 0, .long 0, .ref plf, .ref plo, .ref plb, .ref pla])), (pla, .inl (ci, 100, .inl f2_2))]) hP hD [1, 2] [0, 3, 4, 5, 6, 7, 8, 9, 10] rfl rfl (by decide) (by decide) hk1 hFc hP1 hD1
  generalize H1 = H at hP hS ⊢
  have hP : va_P (dC, dI) vwCl [(h0, .inr (0, [.ref pl, .int 0, .long 0, .long 0, .int 0, .int (-1), .int 0, .ref h0t, .int 0, .ref h0u, .int 0, .ref h0n])), (h0t, .inl (ct, 4, .inl (fun _ => 0))), (h0u, .inl (cu, 5, .inl (fun _ => 0))), (h0n, .inl (cn, 99, .inl (fun _ => 0))), (lk, .inr (0, [.ref lp, .int 0, .long 0, .long 0, .int 0, .int (-1), .int 0, .ref lkt, .int 0, .ref lku, .int 0, .ref lkn])), (lp, .inr (3, [.int 0, .int 0, .int 0, .int 0, .long 0, .ref lpf, .ref lpo, .ref lpb, .ref lpa])), (lkt, .inl (lt, 4, .inl (fun _ => 0))), (lku, .inl (lu, 5, .inl (fun _ => 0))), (lkn, .inl (ln, 99, .inl (fun _ => 0))), (pl, .inr (3, [.int 0, .int 0, .int 0, .int 0, .long 0, .ref plf, .ref plo, .ref plb, .ref pla])), (pla, .inl (ci, 100, .inl f2_2))] H := hP
  have hD : va_D A [(h0, .inr (0, [.ref pl, .int 0, .long 0, .long 0, .int 0, .int (-1), .int 0, .ref h0t, .int 0, .ref h0u, .int 0, .ref h0n])), (h0t, .inl (ct, 4, .inl (fun _ => 0))), (h0u, .inl (cu, 5, .inl (fun _ => 0))), (h0n, .inl (cn, 99, .inl (fun _ => 0))), (lk, .inr (0, [.ref lp, .int 0, .long 0, .long 0, .int 0, .int (-1), .int 0, .ref lkt, .int 0, .ref lku, .int 0, .ref lkn])), (lp, .inr (3, [.int 0, .int 0, .int 0, .int 0, .long 0, .ref lpf, .ref lpo, .ref lpb, .ref lpa])), (lkt, .inl (lt, 4, .inl (fun _ => 0))), (lku, .inl (lu, 5, .inl (fun _ => 0))), (lkn, .inl (ln, 99, .inl (fun _ => 0))), (pl, .inr (3, [.int 0, .int 0, .int 0, .int 0, .long 0, .ref plf, .ref plo, .ref plb, .ref pla])), (pla, .inl (ci, 100, .inl f2_2))] := hD
  refine lv_aload_n hx hb dX0_becomeLike_21 rfl (lv_at hl 0 rfl) ?_
  refine lv_aload_n hx hb dX0_becomeLike_22 rfl (lv_at hl 1 rfl) ?_
  refine va_get (D := (dC, dI)) (ci := 0) (v := .int 0) (C := RX0) (T := TX0) (N := 12) hx hb hts in_X0_becomeLike_X0 hown hK hP 4 rfl rfl 1 (by decide) (hts _ wd_X0_becomeLike_3) (fun _ h9 => h9) rfl dX0_becomeLike_23 ?_
  refine va_put (D := (dC, dI)) (ci := 0) (v := .int 0) (ty := .int) (C := RX0) (T := TX0) (N := 12) hx hb hts in_X0_becomeLike_X0 tyX0 tyX0_ok nmX0 hown hK hP hD hS 0 rfl rfl 1 (by decide) (hts _ wd_X0_becomeLike_3) (fun _ h9 => h9) rfl (by decide +kernel) rfl rfl (Nat.le_of_ble_eq_true rfl) dX0_becomeLike_26 (fun H locs hP hD hS => ?_)
  have hP : va_P (dC, dI) vwCl [(h0, .inr (0, [.ref pl, .int 0, .long 0, .long 0, .int 0, .int (-1), .int 0, .ref h0t, .int 0, .ref h0u, .int 0, .ref h0n])), (h0t, .inl (ct, 4, .inl (fun _ => 0))), (h0u, .inl (cu, 5, .inl (fun _ => 0))), (h0n, .inl (cn, 99, .inl (fun _ => 0))), (lk, .inr (0, [.ref lp, .int 0, .long 0, .long 0, .int 0, .int (-1), .int 0, .ref lkt, .int 0, .ref lku, .int 0, .ref lkn])), (lp, .inr (3, [.int 0, .int 0, .int 0, .int 0, .long 0, .ref lpf, .ref lpo, .ref lpb, .ref lpa])), (lkt, .inl (lt, 4, .inl (fun _ => 0))), (lku, .inl (lu, 5, .inl (fun _ => 0))), (lkn, .inl (ln, 99, .inl (fun _ => 0))), (pl, .inr (3, [.int 0, .int 0, .int 0, .int 0, .long 0, .ref plf, .ref plo, .ref plb, .ref pla])), (pla, .inl (ci, 100, .inl f2_2))] H := hP
  have hD : va_D A [(h0, .inr (0, [.ref pl, .int 0, .long 0, .long 0, .int 0, .int (-1), .int 0, .ref h0t, .int 0, .ref h0u, .int 0, .ref h0n])), (h0t, .inl (ct, 4, .inl (fun _ => 0))), (h0u, .inl (cu, 5, .inl (fun _ => 0))), (h0n, .inl (cn, 99, .inl (fun _ => 0))), (lk, .inr (0, [.ref lp, .int 0, .long 0, .long 0, .int 0, .int (-1), .int 0, .ref lkt, .int 0, .ref lku, .int 0, .ref lkn])), (lp, .inr (3, [.int 0, .int 0, .int 0, .int 0, .long 0, .ref lpf, .ref lpo, .ref lpb, .ref lpa])), (lkt, .inl (lt, 4, .inl (fun _ => 0))), (lku, .inl (lu, 5, .inl (fun _ => 0))), (lkn, .inl (ln, 99, .inl (fun _ => 0))), (pl, .inr (3, [.int 0, .int 0, .int 0, .int 0, .long 0, .ref plf, .ref plo, .ref plb, .ref pla])), (pla, .inl (ci, 100, .inl f2_2))] := hD
  refine lv_aload_n hx hb dX0_becomeLike_29 rfl (lv_at hl 0 rfl) ?_
  refine lv_aload_n hx hb dX0_becomeLike_30 rfl (lv_at hl 1 rfl) ?_
  refine va_get (D := (dC, dI)) (ci := 0) (v := .long 0) (C := RX0) (T := TX0) (N := 12) hx hb hts in_X0_becomeLike_X0 hown hK hP 4 rfl rfl 2 (by decide) (hts _ wd_X0_becomeLike_4) (fun _ h9 => h9) rfl dX0_becomeLike_31 ?_
  refine va_put (D := (dC, dI)) (ci := 0) (v := .long 0) (ty := .long) (C := RX0) (T := TX0) (N := 12) hx hb hts in_X0_becomeLike_X0 tyX0 tyX0_ok nmX0 hown hK hP hD hS 0 rfl rfl 2 (by decide) (hts _ wd_X0_becomeLike_4) (fun _ h9 => h9) rfl (by decide +kernel) rfl rfl (Nat.le_of_ble_eq_true rfl) dX0_becomeLike_34 (fun H locs hP hD hS => ?_)
  have hP : va_P (dC, dI) vwCl [(h0, .inr (0, [.ref pl, .int 0, .long 0, .long 0, .int 0, .int (-1), .int 0, .ref h0t, .int 0, .ref h0u, .int 0, .ref h0n])), (h0t, .inl (ct, 4, .inl (fun _ => 0))), (h0u, .inl (cu, 5, .inl (fun _ => 0))), (h0n, .inl (cn, 99, .inl (fun _ => 0))), (lk, .inr (0, [.ref lp, .int 0, .long 0, .long 0, .int 0, .int (-1), .int 0, .ref lkt, .int 0, .ref lku, .int 0, .ref lkn])), (lp, .inr (3, [.int 0, .int 0, .int 0, .int 0, .long 0, .ref lpf, .ref lpo, .ref lpb, .ref lpa])), (lkt, .inl (lt, 4, .inl (fun _ => 0))), (lku, .inl (lu, 5, .inl (fun _ => 0))), (lkn, .inl (ln, 99, .inl (fun _ => 0))), (pl, .inr (3, [.int 0, .int 0, .int 0, .int 0, .long 0, .ref plf, .ref plo, .ref plb, .ref pla])), (pla, .inl (ci, 100, .inl f2_2))] H := hP
  have hD : va_D A [(h0, .inr (0, [.ref pl, .int 0, .long 0, .long 0, .int 0, .int (-1), .int 0, .ref h0t, .int 0, .ref h0u, .int 0, .ref h0n])), (h0t, .inl (ct, 4, .inl (fun _ => 0))), (h0u, .inl (cu, 5, .inl (fun _ => 0))), (h0n, .inl (cn, 99, .inl (fun _ => 0))), (lk, .inr (0, [.ref lp, .int 0, .long 0, .long 0, .int 0, .int (-1), .int 0, .ref lkt, .int 0, .ref lku, .int 0, .ref lkn])), (lp, .inr (3, [.int 0, .int 0, .int 0, .int 0, .long 0, .ref lpf, .ref lpo, .ref lpb, .ref lpa])), (lkt, .inl (lt, 4, .inl (fun _ => 0))), (lku, .inl (lu, 5, .inl (fun _ => 0))), (lkn, .inl (ln, 99, .inl (fun _ => 0))), (pl, .inr (3, [.int 0, .int 0, .int 0, .int 0, .long 0, .ref plf, .ref plo, .ref plb, .ref pla])), (pla, .inl (ci, 100, .inl f2_2))] := hD
  refine lv_aload_n hx hb dX0_becomeLike_37 rfl (lv_at hl 0 rfl) ?_
  refine lv_aload_n hx hb dX0_becomeLike_38 rfl (lv_at hl 1 rfl) ?_
  refine va_get (D := (dC, dI)) (ci := 0) (v := .long 0) (C := RX0) (T := TX0) (N := 12) hx hb hts in_X0_becomeLike_X0 hown hK hP 4 rfl rfl 3 (by decide) (hts _ wd_X0_becomeLike_5) (fun _ h9 => h9) rfl dX0_becomeLike_39 ?_
  refine va_put (D := (dC, dI)) (ci := 0) (v := .long 0) (ty := .long) (C := RX0) (T := TX0) (N := 12) hx hb hts in_X0_becomeLike_X0 tyX0 tyX0_ok nmX0 hown hK hP hD hS 0 rfl rfl 3 (by decide) (hts _ wd_X0_becomeLike_5) (fun _ h9 => h9) rfl (by decide +kernel) rfl rfl (Nat.le_of_ble_eq_true rfl) dX0_becomeLike_42 (fun H locs hP hD hS => ?_)
  have hP : va_P (dC, dI) vwCl [(h0, .inr (0, [.ref pl, .int 0, .long 0, .long 0, .int 0, .int (-1), .int 0, .ref h0t, .int 0, .ref h0u, .int 0, .ref h0n])), (h0t, .inl (ct, 4, .inl (fun _ => 0))), (h0u, .inl (cu, 5, .inl (fun _ => 0))), (h0n, .inl (cn, 99, .inl (fun _ => 0))), (lk, .inr (0, [.ref lp, .int 0, .long 0, .long 0, .int 0, .int (-1), .int 0, .ref lkt, .int 0, .ref lku, .int 0, .ref lkn])), (lp, .inr (3, [.int 0, .int 0, .int 0, .int 0, .long 0, .ref lpf, .ref lpo, .ref lpb, .ref lpa])), (lkt, .inl (lt, 4, .inl (fun _ => 0))), (lku, .inl (lu, 5, .inl (fun _ => 0))), (lkn, .inl (ln, 99, .inl (fun _ => 0))), (pl, .inr (3, [.int 0, .int 0, .int 0, .int 0, .long 0, .ref plf, .ref plo, .ref plb, .ref pla])), (pla, .inl (ci, 100, .inl f2_2))] H := hP
  have hD : va_D A [(h0, .inr (0, [.ref pl, .int 0, .long 0, .long 0, .int 0, .int (-1), .int 0, .ref h0t, .int 0, .ref h0u, .int 0, .ref h0n])), (h0t, .inl (ct, 4, .inl (fun _ => 0))), (h0u, .inl (cu, 5, .inl (fun _ => 0))), (h0n, .inl (cn, 99, .inl (fun _ => 0))), (lk, .inr (0, [.ref lp, .int 0, .long 0, .long 0, .int 0, .int (-1), .int 0, .ref lkt, .int 0, .ref lku, .int 0, .ref lkn])), (lp, .inr (3, [.int 0, .int 0, .int 0, .int 0, .long 0, .ref lpf, .ref lpo, .ref lpb, .ref lpa])), (lkt, .inl (lt, 4, .inl (fun _ => 0))), (lku, .inl (lu, 5, .inl (fun _ => 0))), (lkn, .inl (ln, 99, .inl (fun _ => 0))), (pl, .inr (3, [.int 0, .int 0, .int 0, .int 0, .long 0, .ref plf, .ref plo, .ref plb, .ref pla])), (pla, .inl (ci, 100, .inl f2_2))] := hD
  refine lv_aload_n hx hb dX0_becomeLike_45 rfl (lv_at hl 0 rfl) ?_
  refine lv_aload_n hx hb dX0_becomeLike_46 rfl (lv_at hl 1 rfl) ?_
  refine va_get (D := (dC, dI)) (ci := 0) (v := .int 0) (C := RX0) (T := TX0) (N := 12) hx hb hts in_X0_becomeLike_X0 hown hK hP 4 rfl rfl 4 (by decide) (hts _ wd_X0_becomeLike_6) (fun _ h9 => h9) rfl dX0_becomeLike_47 ?_
  refine va_put (D := (dC, dI)) (ci := 0) (v := .int 0) (ty := .boolean) (C := RX0) (T := TX0) (N := 12) hx hb hts in_X0_becomeLike_X0 tyX0 tyX0_ok nmX0 hown hK hP hD hS 0 rfl rfl 4 (by decide) (hts _ wd_X0_becomeLike_6) (fun _ h9 => h9) rfl (by decide +kernel) (by decide) (by decide) (Nat.le_of_ble_eq_true rfl) dX0_becomeLike_50 (fun H locs hP hD hS => ?_)
  have hP : va_P (dC, dI) vwCl [(h0, .inr (0, [.ref pl, .int 0, .long 0, .long 0, .int 0, .int (-1), .int 0, .ref h0t, .int 0, .ref h0u, .int 0, .ref h0n])), (h0t, .inl (ct, 4, .inl (fun _ => 0))), (h0u, .inl (cu, 5, .inl (fun _ => 0))), (h0n, .inl (cn, 99, .inl (fun _ => 0))), (lk, .inr (0, [.ref lp, .int 0, .long 0, .long 0, .int 0, .int (-1), .int 0, .ref lkt, .int 0, .ref lku, .int 0, .ref lkn])), (lp, .inr (3, [.int 0, .int 0, .int 0, .int 0, .long 0, .ref lpf, .ref lpo, .ref lpb, .ref lpa])), (lkt, .inl (lt, 4, .inl (fun _ => 0))), (lku, .inl (lu, 5, .inl (fun _ => 0))), (lkn, .inl (ln, 99, .inl (fun _ => 0))), (pl, .inr (3, [.int 0, .int 0, .int 0, .int 0, .long 0, .ref plf, .ref plo, .ref plb, .ref pla])), (pla, .inl (ci, 100, .inl f2_2))] H := hP
  have hD : va_D A [(h0, .inr (0, [.ref pl, .int 0, .long 0, .long 0, .int 0, .int (-1), .int 0, .ref h0t, .int 0, .ref h0u, .int 0, .ref h0n])), (h0t, .inl (ct, 4, .inl (fun _ => 0))), (h0u, .inl (cu, 5, .inl (fun _ => 0))), (h0n, .inl (cn, 99, .inl (fun _ => 0))), (lk, .inr (0, [.ref lp, .int 0, .long 0, .long 0, .int 0, .int (-1), .int 0, .ref lkt, .int 0, .ref lku, .int 0, .ref lkn])), (lp, .inr (3, [.int 0, .int 0, .int 0, .int 0, .long 0, .ref lpf, .ref lpo, .ref lpb, .ref lpa])), (lkt, .inl (lt, 4, .inl (fun _ => 0))), (lku, .inl (lu, 5, .inl (fun _ => 0))), (lkn, .inl (ln, 99, .inl (fun _ => 0))), (pl, .inr (3, [.int 0, .int 0, .int 0, .int 0, .long 0, .ref plf, .ref plo, .ref plb, .ref pla])), (pla, .inl (ci, 100, .inl f2_2))] := hD
  refine lv_aload_n hx hb dX0_becomeLike_53 rfl (lv_at hl 0 rfl) ?_
  refine lv_aload_n hx hb dX0_becomeLike_54 rfl (lv_at hl 1 rfl) ?_
  refine va_get (D := (dC, dI)) (ci := 0) (v := .int (-1)) (C := RX0) (T := TX0) (N := 12) hx hb hts in_X0_becomeLike_X0 hown hK hP 4 rfl rfl 5 (by decide) (hts _ wd_X0_becomeLike_7) (fun _ h9 => h9) rfl dX0_becomeLike_55 ?_
  refine va_put (D := (dC, dI)) (ci := 0) (v := .int (-1)) (ty := .int) (C := RX0) (T := TX0) (N := 12) hx hb hts in_X0_becomeLike_X0 tyX0 tyX0_ok nmX0 hown hK hP hD hS 0 rfl rfl 5 (by decide) (hts _ wd_X0_becomeLike_7) (fun _ h9 => h9) rfl (by decide +kernel) rfl rfl (Nat.le_of_ble_eq_true rfl) dX0_becomeLike_58 (fun H locs hP hD hS => ?_)
  have hP : va_P (dC, dI) vwCl [(h0, .inr (0, [.ref pl, .int 0, .long 0, .long 0, .int 0, .int (-1), .int 0, .ref h0t, .int 0, .ref h0u, .int 0, .ref h0n])), (h0t, .inl (ct, 4, .inl (fun _ => 0))), (h0u, .inl (cu, 5, .inl (fun _ => 0))), (h0n, .inl (cn, 99, .inl (fun _ => 0))), (lk, .inr (0, [.ref lp, .int 0, .long 0, .long 0, .int 0, .int (-1), .int 0, .ref lkt, .int 0, .ref lku, .int 0, .ref lkn])), (lp, .inr (3, [.int 0, .int 0, .int 0, .int 0, .long 0, .ref lpf, .ref lpo, .ref lpb, .ref lpa])), (lkt, .inl (lt, 4, .inl (fun _ => 0))), (lku, .inl (lu, 5, .inl (fun _ => 0))), (lkn, .inl (ln, 99, .inl (fun _ => 0))), (pl, .inr (3, [.int 0, .int 0, .int 0, .int 0, .long 0, .ref plf, .ref plo, .ref plb, .ref pla])), (pla, .inl (ci, 100, .inl f2_2))] H := hP
  have hD : va_D A [(h0, .inr (0, [.ref pl, .int 0, .long 0, .long 0, .int 0, .int (-1), .int 0, .ref h0t, .int 0, .ref h0u, .int 0, .ref h0n])), (h0t, .inl (ct, 4, .inl (fun _ => 0))), (h0u, .inl (cu, 5, .inl (fun _ => 0))), (h0n, .inl (cn, 99, .inl (fun _ => 0))), (lk, .inr (0, [.ref lp, .int 0, .long 0, .long 0, .int 0, .int (-1), .int 0, .ref lkt, .int 0, .ref lku, .int 0, .ref lkn])), (lp, .inr (3, [.int 0, .int 0, .int 0, .int 0, .long 0, .ref lpf, .ref lpo, .ref lpb, .ref lpa])), (lkt, .inl (lt, 4, .inl (fun _ => 0))), (lku, .inl (lu, 5, .inl (fun _ => 0))), (lkn, .inl (ln, 99, .inl (fun _ => 0))), (pl, .inr (3, [.int 0, .int 0, .int 0, .int 0, .long 0, .ref plf, .ref plo, .ref plb, .ref pla])), (pla, .inl (ci, 100, .inl f2_2))] := hD
  refine lv_aload_n hx hb dX0_becomeLike_61 rfl (lv_at hl 0 rfl) ?_
  refine lv_aload_n hx hb dX0_becomeLike_62 rfl (lv_at hl 1 rfl) ?_
  refine va_get (D := (dC, dI)) (ci := 0) (v := .int 0) (C := RX0) (T := TX0) (N := 12) hx hb hts in_X0_becomeLike_X0 hown hK hP 4 rfl rfl 6 (by decide) (hts _ wd_X0_becomeLike_8) (fun _ h9 => h9) rfl dX0_becomeLike_63 ?_
  refine va_put (D := (dC, dI)) (ci := 0) (v := .int 0) (ty := .int) (C := RX0) (T := TX0) (N := 12) hx hb hts in_X0_becomeLike_X0 tyX0 tyX0_ok nmX0 hown hK hP hD hS 0 rfl rfl 6 (by decide) (hts _ wd_X0_becomeLike_8) (fun _ h9 => h9) rfl (by decide +kernel) rfl rfl (Nat.le_of_ble_eq_true rfl) dX0_becomeLike_66 (fun H locs hP hD hS => ?_)
  have hP : va_P (dC, dI) vwCl [(h0, .inr (0, [.ref pl, .int 0, .long 0, .long 0, .int 0, .int (-1), .int 0, .ref h0t, .int 0, .ref h0u, .int 0, .ref h0n])), (h0t, .inl (ct, 4, .inl (fun _ => 0))), (h0u, .inl (cu, 5, .inl (fun _ => 0))), (h0n, .inl (cn, 99, .inl (fun _ => 0))), (lk, .inr (0, [.ref lp, .int 0, .long 0, .long 0, .int 0, .int (-1), .int 0, .ref lkt, .int 0, .ref lku, .int 0, .ref lkn])), (lp, .inr (3, [.int 0, .int 0, .int 0, .int 0, .long 0, .ref lpf, .ref lpo, .ref lpb, .ref lpa])), (lkt, .inl (lt, 4, .inl (fun _ => 0))), (lku, .inl (lu, 5, .inl (fun _ => 0))), (lkn, .inl (ln, 99, .inl (fun _ => 0))), (pl, .inr (3, [.int 0, .int 0, .int 0, .int 0, .long 0, .ref plf, .ref plo, .ref plb, .ref pla])), (pla, .inl (ci, 100, .inl f2_2))] H := hP
  have hD : va_D A [(h0, .inr (0, [.ref pl, .int 0, .long 0, .long 0, .int 0, .int (-1), .int 0, .ref h0t, .int 0, .ref h0u, .int 0, .ref h0n])), (h0t, .inl (ct, 4, .inl (fun _ => 0))), (h0u, .inl (cu, 5, .inl (fun _ => 0))), (h0n, .inl (cn, 99, .inl (fun _ => 0))), (lk, .inr (0, [.ref lp, .int 0, .long 0, .long 0, .int 0, .int (-1), .int 0, .ref lkt, .int 0, .ref lku, .int 0, .ref lkn])), (lp, .inr (3, [.int 0, .int 0, .int 0, .int 0, .long 0, .ref lpf, .ref lpo, .ref lpb, .ref lpa])), (lkt, .inl (lt, 4, .inl (fun _ => 0))), (lku, .inl (lu, 5, .inl (fun _ => 0))), (lkn, .inl (ln, 99, .inl (fun _ => 0))), (pl, .inr (3, [.int 0, .int 0, .int 0, .int 0, .long 0, .ref plf, .ref plo, .ref plb, .ref pla])), (pla, .inl (ci, 100, .inl f2_2))] := hD
  refine lv_aload_n hx hb dX0_becomeLike_69 rfl (lv_at hl 0 rfl) ?_
  refine lv_aload_n hx hb dX0_becomeLike_70 rfl (lv_at hl 1 rfl) ?_
  refine va_get (D := (dC, dI)) (ci := 0) (v := .int 0) (C := RX0) (T := TX0) (N := 12) hx hb hts in_X0_becomeLike_X0 hown hK hP 4 rfl rfl 8 (by decide) (hts _ wd_X0_becomeLike_9) (fun _ h9 => h9) rfl dX0_becomeLike_71 ?_
  refine va_put (D := (dC, dI)) (ci := 0) (v := .int 0) (ty := .int) (C := RX0) (T := TX0) (N := 12) hx hb hts in_X0_becomeLike_X0 tyX0 tyX0_ok nmX0 hown hK hP hD hS 0 rfl rfl 8 (by decide) (hts _ wd_X0_becomeLike_9) (fun _ h9 => h9) rfl (by decide +kernel) rfl rfl (Nat.le_of_ble_eq_true rfl) dX0_becomeLike_74 (fun H locs hP hD hS => ?_)
  have hP : va_P (dC, dI) vwCl [(h0, .inr (0, [.ref pl, .int 0, .long 0, .long 0, .int 0, .int (-1), .int 0, .ref h0t, .int 0, .ref h0u, .int 0, .ref h0n])), (h0t, .inl (ct, 4, .inl (fun _ => 0))), (h0u, .inl (cu, 5, .inl (fun _ => 0))), (h0n, .inl (cn, 99, .inl (fun _ => 0))), (lk, .inr (0, [.ref lp, .int 0, .long 0, .long 0, .int 0, .int (-1), .int 0, .ref lkt, .int 0, .ref lku, .int 0, .ref lkn])), (lp, .inr (3, [.int 0, .int 0, .int 0, .int 0, .long 0, .ref lpf, .ref lpo, .ref lpb, .ref lpa])), (lkt, .inl (lt, 4, .inl (fun _ => 0))), (lku, .inl (lu, 5, .inl (fun _ => 0))), (lkn, .inl (ln, 99, .inl (fun _ => 0))), (pl, .inr (3, [.int 0, .int 0, .int 0, .int 0, .long 0, .ref plf, .ref plo, .ref plb, .ref pla])), (pla, .inl (ci, 100, .inl f2_2))] H := hP
  have hD : va_D A [(h0, .inr (0, [.ref pl, .int 0, .long 0, .long 0, .int 0, .int (-1), .int 0, .ref h0t, .int 0, .ref h0u, .int 0, .ref h0n])), (h0t, .inl (ct, 4, .inl (fun _ => 0))), (h0u, .inl (cu, 5, .inl (fun _ => 0))), (h0n, .inl (cn, 99, .inl (fun _ => 0))), (lk, .inr (0, [.ref lp, .int 0, .long 0, .long 0, .int 0, .int (-1), .int 0, .ref lkt, .int 0, .ref lku, .int 0, .ref lkn])), (lp, .inr (3, [.int 0, .int 0, .int 0, .int 0, .long 0, .ref lpf, .ref lpo, .ref lpb, .ref lpa])), (lkt, .inl (lt, 4, .inl (fun _ => 0))), (lku, .inl (lu, 5, .inl (fun _ => 0))), (lkn, .inl (ln, 99, .inl (fun _ => 0))), (pl, .inr (3, [.int 0, .int 0, .int 0, .int 0, .long 0, .ref plf, .ref plo, .ref plb, .ref pla])), (pla, .inl (ci, 100, .inl f2_2))] := hD
  refine lv_aload_n hx hb dX0_becomeLike_77 rfl (lv_at hl 0 rfl) ?_
  refine lv_aload_n hx hb dX0_becomeLike_78 rfl (lv_at hl 1 rfl) ?_
  refine va_get (D := (dC, dI)) (ci := 0) (v := .int 0) (C := RX0) (T := TX0) (N := 12) hx hb hts in_X0_becomeLike_X0 hown hK hP 4 rfl rfl 10 (by decide) (hts _ wd_X0_becomeLike_10) (fun _ h9 => h9) rfl dX0_becomeLike_79 ?_
  refine va_put (D := (dC, dI)) (ci := 0) (v := .int 0) (ty := .int) (C := RX0) (T := TX0) (N := 12) hx hb hts in_X0_becomeLike_X0 tyX0 tyX0_ok nmX0 hown hK hP hD hS 0 rfl rfl 10 (by decide) (hts _ wd_X0_becomeLike_10) (fun _ h9 => h9) rfl (by decide +kernel) rfl rfl (Nat.le_of_ble_eq_true rfl) dX0_becomeLike_82 (fun H locs hP hD hS => ?_)
  have hP : va_P (dC, dI) vwCl [(h0, .inr (0, [.ref pl, .int 0, .long 0, .long 0, .int 0, .int (-1), .int 0, .ref h0t, .int 0, .ref h0u, .int 0, .ref h0n])), (h0t, .inl (ct, 4, .inl (fun _ => 0))), (h0u, .inl (cu, 5, .inl (fun _ => 0))), (h0n, .inl (cn, 99, .inl (fun _ => 0))), (lk, .inr (0, [.ref lp, .int 0, .long 0, .long 0, .int 0, .int (-1), .int 0, .ref lkt, .int 0, .ref lku, .int 0, .ref lkn])), (lp, .inr (3, [.int 0, .int 0, .int 0, .int 0, .long 0, .ref lpf, .ref lpo, .ref lpb, .ref lpa])), (lkt, .inl (lt, 4, .inl (fun _ => 0))), (lku, .inl (lu, 5, .inl (fun _ => 0))), (lkn, .inl (ln, 99, .inl (fun _ => 0))), (pl, .inr (3, [.int 0, .int 0, .int 0, .int 0, .long 0, .ref plf, .ref plo, .ref plb, .ref pla])), (pla, .inl (ci, 100, .inl f2_2))] H := hP
  have hD : va_D A [(h0, .inr (0, [.ref pl, .int 0, .long 0, .long 0, .int 0, .int (-1), .int 0, .ref h0t, .int 0, .ref h0u, .int 0, .ref h0n])), (h0t, .inl (ct, 4, .inl (fun _ => 0))), (h0u, .inl (cu, 5, .inl (fun _ => 0))), (h0n, .inl (cn, 99, .inl (fun _ => 0))), (lk, .inr (0, [.ref lp, .int 0, .long 0, .long 0, .int 0, .int (-1), .int 0, .ref lkt, .int 0, .ref lku, .int 0, .ref lkn])), (lp, .inr (3, [.int 0, .int 0, .int 0, .int 0, .long 0, .ref lpf, .ref lpo, .ref lpb, .ref lpa])), (lkt, .inl (lt, 4, .inl (fun _ => 0))), (lku, .inl (lu, 5, .inl (fun _ => 0))), (lkn, .inl (ln, 99, .inl (fun _ => 0))), (pl, .inr (3, [.int 0, .int 0, .int 0, .int 0, .long 0, .ref plf, .ref plo, .ref plb, .ref pla])), (pla, .inl (ci, 100, .inl f2_2))] := hD
  refine lv_aload_n hx hb dX0_becomeLike_85 rfl (lv_at hl 1 rfl) ?_
  refine va_get (D := (dC, dI)) (ci := 0) (v := .ref lkt) (C := RX0) (T := TX0) (N := 12) hx hb hts in_X0_becomeLike_X0 hown hK hP 4 rfl rfl 7 (by decide) (hts _ wd_X0_becomeLike_11) (fun _ h9 => h9) rfl dX0_becomeLike_86 ?_
  refine lv_iconst (v := 0) hx hb dX0_becomeLike_89 (by decide) ?_
  refine lv_aload_n hx hb dX0_becomeLike_90 rfl (lv_at hl 0 rfl) ?_
  refine va_get (D := (dC, dI)) (ci := 0) (v := .ref h0t) (C := RX0) (T := TX0) (N := 12) hx hb hts in_X0_becomeLike_X0 hown hK hP 0 rfl rfl 7 (by decide) (hts _ wd_X0_becomeLike_11) (fun _ h9 => h9) rfl dX0_becomeLike_91 ?_
  refine lv_iconst (v := 0) hx hb dX0_becomeLike_94 (by decide) ?_
  refine lv_iconst (v := 4) hx hb dX0_becomeLike_95 (by decide) ?_
  refine va_copyi hx hb (hml.trans hl.1.symm) hown (hts _ wd_X0_becomeLike_12) (hts _ wd_X0_becomeLike_13) (hts _ wd_X0_becomeLike_14) (hts _ wd_X0_becomeLike_15) hK hP hD hS 6 1 4 1 rfl rfl rfl rfl rfl (by decide) (by decide) (by decide) (by decide) (by decide) (fun _ _ => rfl) (Nat.le_of_ble_eq_true rfl) (Nat.le_of_ble_eq_true rfl) dX0_becomeLike_96 (fun H locs hP hD hS => ?_)
  have hP : va_P (dC, dI) vwCl [(h0, .inr (0, [.ref pl, .int 0, .long 0, .long 0, .int 0, .int (-1), .int 0, .ref h0t, .int 0, .ref h0u, .int 0, .ref h0n])), (h0t, .inl (ct, 4, .inl (va_cpy (fun _ => 0) (fun _ => 0) ((0 : Int32)).toNatClampNeg ((0 : Int32)).toNatClampNeg ((4 : Int32)).toNatClampNeg))), (h0u, .inl (cu, 5, .inl (fun _ => 0))), (h0n, .inl (cn, 99, .inl (fun _ => 0))), (lk, .inr (0, [.ref lp, .int 0, .long 0, .long 0, .int 0, .int (-1), .int 0, .ref lkt, .int 0, .ref lku, .int 0, .ref lkn])), (lp, .inr (3, [.int 0, .int 0, .int 0, .int 0, .long 0, .ref lpf, .ref lpo, .ref lpb, .ref lpa])), (lkt, .inl (lt, 4, .inl (fun _ => 0))), (lku, .inl (lu, 5, .inl (fun _ => 0))), (lkn, .inl (ln, 99, .inl (fun _ => 0))), (pl, .inr (3, [.int 0, .int 0, .int 0, .int 0, .long 0, .ref plf, .ref plo, .ref plb, .ref pla])), (pla, .inl (ci, 100, .inl f2_2))] H := hP
  have hD : va_D A [(h0, .inr (0, [.ref pl, .int 0, .long 0, .long 0, .int 0, .int (-1), .int 0, .ref h0t, .int 0, .ref h0u, .int 0, .ref h0n])), (h0t, .inl (ct, 4, .inl (va_cpy (fun _ => 0) (fun _ => 0) ((0 : Int32)).toNatClampNeg ((0 : Int32)).toNatClampNeg ((4 : Int32)).toNatClampNeg))), (h0u, .inl (cu, 5, .inl (fun _ => 0))), (h0n, .inl (cn, 99, .inl (fun _ => 0))), (lk, .inr (0, [.ref lp, .int 0, .long 0, .long 0, .int 0, .int (-1), .int 0, .ref lkt, .int 0, .ref lku, .int 0, .ref lkn])), (lp, .inr (3, [.int 0, .int 0, .int 0, .int 0, .long 0, .ref lpf, .ref lpo, .ref lpb, .ref lpa])), (lkt, .inl (lt, 4, .inl (fun _ => 0))), (lku, .inl (lu, 5, .inl (fun _ => 0))), (lkn, .inl (ln, 99, .inl (fun _ => 0))), (pl, .inr (3, [.int 0, .int 0, .int 0, .int 0, .long 0, .ref plf, .ref plo, .ref plb, .ref pla])), (pla, .inl (ci, 100, .inl f2_2))] := hD
  refine lv_aload_n hx hb dX0_becomeLike_99 rfl (lv_at hl 1 rfl) ?_
  refine va_get (D := (dC, dI)) (ci := 0) (v := .ref lku) (C := RX0) (T := TX0) (N := 12) hx hb hts in_X0_becomeLike_X0 hown hK hP 4 rfl rfl 9 (by decide) (hts _ wd_X0_becomeLike_16) (fun _ h9 => h9) rfl dX0_becomeLike_100 ?_
  refine lv_iconst (v := 0) hx hb dX0_becomeLike_103 (by decide) ?_
  refine lv_aload_n hx hb dX0_becomeLike_104 rfl (lv_at hl 0 rfl) ?_
  refine va_get (D := (dC, dI)) (ci := 0) (v := .ref h0u) (C := RX0) (T := TX0) (N := 12) hx hb hts in_X0_becomeLike_X0 hown hK hP 0 rfl rfl 9 (by decide) (hts _ wd_X0_becomeLike_16) (fun _ h9 => h9) rfl dX0_becomeLike_105 ?_
  refine lv_iconst (v := 0) hx hb dX0_becomeLike_108 (by decide) ?_
  refine lv_iconst (v := 5) hx hb dX0_becomeLike_109 (by decide) ?_
  refine va_copyi hx hb (hml.trans hl.1.symm) hown (hts _ wd_X0_becomeLike_12) (hts _ wd_X0_becomeLike_13) (hts _ wd_X0_becomeLike_14) (hts _ wd_X0_becomeLike_15) hK hP hD hS 7 2 5 2 rfl rfl rfl rfl rfl (by decide) (by decide) (by decide) (by decide) (by decide) (fun _ _ => rfl) (Nat.le_of_ble_eq_true rfl) (Nat.le_of_ble_eq_true rfl) dX0_becomeLike_110 (fun H locs hP hD hS => ?_)
  have hP : va_P (dC, dI) vwCl [(h0, .inr (0, [.ref pl, .int 0, .long 0, .long 0, .int 0, .int (-1), .int 0, .ref h0t, .int 0, .ref h0u, .int 0, .ref h0n])), (h0t, .inl (ct, 4, .inl (va_cpy (fun _ => 0) (fun _ => 0) ((0 : Int32)).toNatClampNeg ((0 : Int32)).toNatClampNeg ((4 : Int32)).toNatClampNeg))), (h0u, .inl (cu, 5, .inl (va_cpy (fun _ => 0) (fun _ => 0) ((0 : Int32)).toNatClampNeg ((0 : Int32)).toNatClampNeg ((5 : Int32)).toNatClampNeg))), (h0n, .inl (cn, 99, .inl (fun _ => 0))), (lk, .inr (0, [.ref lp, .int 0, .long 0, .long 0, .int 0, .int (-1), .int 0, .ref lkt, .int 0, .ref lku, .int 0, .ref lkn])), (lp, .inr (3, [.int 0, .int 0, .int 0, .int 0, .long 0, .ref lpf, .ref lpo, .ref lpb, .ref lpa])), (lkt, .inl (lt, 4, .inl (fun _ => 0))), (lku, .inl (lu, 5, .inl (fun _ => 0))), (lkn, .inl (ln, 99, .inl (fun _ => 0))), (pl, .inr (3, [.int 0, .int 0, .int 0, .int 0, .long 0, .ref plf, .ref plo, .ref plb, .ref pla])), (pla, .inl (ci, 100, .inl f2_2))] H := hP
  have hD : va_D A [(h0, .inr (0, [.ref pl, .int 0, .long 0, .long 0, .int 0, .int (-1), .int 0, .ref h0t, .int 0, .ref h0u, .int 0, .ref h0n])), (h0t, .inl (ct, 4, .inl (va_cpy (fun _ => 0) (fun _ => 0) ((0 : Int32)).toNatClampNeg ((0 : Int32)).toNatClampNeg ((4 : Int32)).toNatClampNeg))), (h0u, .inl (cu, 5, .inl (va_cpy (fun _ => 0) (fun _ => 0) ((0 : Int32)).toNatClampNeg ((0 : Int32)).toNatClampNeg ((5 : Int32)).toNatClampNeg))), (h0n, .inl (cn, 99, .inl (fun _ => 0))), (lk, .inr (0, [.ref lp, .int 0, .long 0, .long 0, .int 0, .int (-1), .int 0, .ref lkt, .int 0, .ref lku, .int 0, .ref lkn])), (lp, .inr (3, [.int 0, .int 0, .int 0, .int 0, .long 0, .ref lpf, .ref lpo, .ref lpb, .ref lpa])), (lkt, .inl (lt, 4, .inl (fun _ => 0))), (lku, .inl (lu, 5, .inl (fun _ => 0))), (lkn, .inl (ln, 99, .inl (fun _ => 0))), (pl, .inr (3, [.int 0, .int 0, .int 0, .int 0, .long 0, .ref plf, .ref plo, .ref plb, .ref pla])), (pla, .inl (ci, 100, .inl f2_2))] := hD
  refine lv_aload_n hx hb dX0_becomeLike_113 rfl (lv_at hl 1 rfl) ?_
  refine va_get (D := (dC, dI)) (ci := 0) (v := .ref lkn) (C := RX0) (T := TX0) (N := 12) hx hb hts in_X0_becomeLike_X0 hown hK hP 4 rfl rfl 11 (by decide) (hts _ wd_X0_becomeLike_17) (fun _ h9 => h9) rfl dX0_becomeLike_114 ?_
  refine lv_iconst (v := 0) hx hb dX0_becomeLike_117 (by decide) ?_
  refine lv_aload_n hx hb dX0_becomeLike_118 rfl (lv_at hl 0 rfl) ?_
  refine va_get (D := (dC, dI)) (ci := 0) (v := .ref h0n) (C := RX0) (T := TX0) (N := 12) hx hb hts in_X0_becomeLike_X0 hown hK hP 0 rfl rfl 11 (by decide) (hts _ wd_X0_becomeLike_17) (fun _ h9 => h9) rfl dX0_becomeLike_119 ?_
  refine lv_iconst (v := 0) hx hb dX0_becomeLike_122 (by decide) ?_
  refine lv_bipush (v := 99) hx hb dX0_becomeLike_123 (by decide) ?_
  refine va_copyi hx hb (hml.trans hl.1.symm) hown (hts _ wd_X0_becomeLike_12) (hts _ wd_X0_becomeLike_13) (hts _ wd_X0_becomeLike_14) (hts _ wd_X0_becomeLike_15) hK hP hD hS 8 3 6 3 rfl rfl rfl rfl rfl (by decide) (by decide) (by decide) (by decide) (by decide) (fun _ _ => rfl) (Nat.le_of_ble_eq_true rfl) (Nat.le_of_ble_eq_true rfl) dX0_becomeLike_125 (fun H locs hP hD hS => ?_)
  have hP : va_P (dC, dI) vwCl [(h0, .inr (0, [.ref pl, .int 0, .long 0, .long 0, .int 0, .int (-1), .int 0, .ref h0t, .int 0, .ref h0u, .int 0, .ref h0n])), (h0t, .inl (ct, 4, .inl (va_cpy (fun _ => 0) (fun _ => 0) ((0 : Int32)).toNatClampNeg ((0 : Int32)).toNatClampNeg ((4 : Int32)).toNatClampNeg))), (h0u, .inl (cu, 5, .inl (va_cpy (fun _ => 0) (fun _ => 0) ((0 : Int32)).toNatClampNeg ((0 : Int32)).toNatClampNeg ((5 : Int32)).toNatClampNeg))), (h0n, .inl (cn, 99, .inl (va_cpy (fun _ => 0) (fun _ => 0) ((0 : Int32)).toNatClampNeg ((0 : Int32)).toNatClampNeg ((99 : Int32)).toNatClampNeg))), (lk, .inr (0, [.ref lp, .int 0, .long 0, .long 0, .int 0, .int (-1), .int 0, .ref lkt, .int 0, .ref lku, .int 0, .ref lkn])), (lp, .inr (3, [.int 0, .int 0, .int 0, .int 0, .long 0, .ref lpf, .ref lpo, .ref lpb, .ref lpa])), (lkt, .inl (lt, 4, .inl (fun _ => 0))), (lku, .inl (lu, 5, .inl (fun _ => 0))), (lkn, .inl (ln, 99, .inl (fun _ => 0))), (pl, .inr (3, [.int 0, .int 0, .int 0, .int 0, .long 0, .ref plf, .ref plo, .ref plb, .ref pla])), (pla, .inl (ci, 100, .inl f2_2))] H := hP
  have hD : va_D A [(h0, .inr (0, [.ref pl, .int 0, .long 0, .long 0, .int 0, .int (-1), .int 0, .ref h0t, .int 0, .ref h0u, .int 0, .ref h0n])), (h0t, .inl (ct, 4, .inl (va_cpy (fun _ => 0) (fun _ => 0) ((0 : Int32)).toNatClampNeg ((0 : Int32)).toNatClampNeg ((4 : Int32)).toNatClampNeg))), (h0u, .inl (cu, 5, .inl (va_cpy (fun _ => 0) (fun _ => 0) ((0 : Int32)).toNatClampNeg ((0 : Int32)).toNatClampNeg ((5 : Int32)).toNatClampNeg))), (h0n, .inl (cn, 99, .inl (va_cpy (fun _ => 0) (fun _ => 0) ((0 : Int32)).toNatClampNeg ((0 : Int32)).toNatClampNeg ((99 : Int32)).toNatClampNeg))), (lk, .inr (0, [.ref lp, .int 0, .long 0, .long 0, .int 0, .int (-1), .int 0, .ref lkt, .int 0, .ref lku, .int 0, .ref lkn])), (lp, .inr (3, [.int 0, .int 0, .int 0, .int 0, .long 0, .ref lpf, .ref lpo, .ref lpb, .ref lpa])), (lkt, .inl (lt, 4, .inl (fun _ => 0))), (lku, .inl (lu, 5, .inl (fun _ => 0))), (lkn, .inl (ln, 99, .inl (fun _ => 0))), (pl, .inr (3, [.int 0, .int 0, .int 0, .int 0, .long 0, .ref plf, .ref plo, .ref plb, .ref pla])), (pla, .inl (ci, 100, .inl f2_2))] := hD
  have hP9 := hP.sub (ws' := [(h0, .inr (0, [.ref pl, .int 0, .long 0, .long 0, .int 0, .int (-1), .int 0, .ref h0t, .int 0, .ref h0u, .int 0, .ref h0n]))]) [0] rfl
  have hD9 := hD.sub (ws' := [(h0, .inr (0, [.ref pl, .int 0, .long 0, .long 0, .int 0, .int (-1), .int 0, .ref h0t, .int 0, .ref h0u, .int 0, .ref h0n]))]) [0] (by decide) rfl
  have hK9 := hK.sub (tys' := []) [] rfl
  refine W.widen (k := 0) (n := 0) (by omega) (by omega) ?_
  exact W.vret hx hb hr (fun t ht hW => ⟨⟨(), rfl, trivial, by rw [ht]; exact hP9, va_K.moved hW.alike hK9, hD9⟩, hS.F ht⟩) hS.2.2 dX0_becomeLike_128

theorem dX6_keep_0 : decode cX6_keep 0 = .ok (.iload_n 1, 1) := by decide +kernel
theorem dX6_keep_1 : decode cX6_keep 1 = .ok (.ifCond .lt 8, 3) := by decide +kernel
theorem dX6_keep_4 : decode cX6_keep 4 = .ok (.iload_n 1, 1) := by decide +kernel
theorem dX6_keep_5 : decode cX6_keep 5 = .ok (.iconst 3, 1) := by decide +kernel
theorem dX6_keep_6 : decode cX6_keep 6 = .ok (.if_icmp .lt 6, 3) := by decide +kernel
theorem dX6_keep_9 : decode cX6_keep 9 = .ok (.bipush (-2), 2) := by decide +kernel
theorem dX6_keep_11 : decode cX6_keep 11 = .ok (.ireturn, 1) := by decide +kernel
theorem dX6_keep_12 : decode cX6_keep 12 = .ok (.aload_n 0, 1) := by decide +kernel
theorem dX6_keep_13 : decode cX6_keep 13 = .ok (.getfield 37, 3) := by decide +kernel
theorem dX6_keep_16 : decode cX6_keep 16 = .ok (.iload_n 1, 1) := by decide +kernel
theorem dX6_keep_17 : decode cX6_keep 17 = .ok (.aaload, 1) := by decide +kernel
theorem dX6_keep_18 : decode cX6_keep 18 = .ok (.astore_n 2, 1) := by decide +kernel
theorem dX6_keep_19 : decode cX6_keep 19 = .ok (.aload_n 2, 1) := by decide +kernel
theorem dX6_keep_20 : decode cX6_keep 20 = .ok (.ifnonnull 18, 3) := by decide +kernel
theorem dX6_keep_23 : decode cX6_keep 23 = .ok (.new 30, 3) := by decide +kernel
theorem dX6_keep_26 : decode cX6_keep 26 = .ok (.dup, 1) := by decide +kernel
theorem dX6_keep_27 : decode cX6_keep 27 = .ok (.invokespecial 32, 3) := by decide +kernel
theorem dX6_keep_30 : decode cX6_keep 30 = .ok (.astore_n 2, 1) := by decide +kernel
theorem dX6_keep_31 : decode cX6_keep 31 = .ok (.aload_n 0, 1) := by decide +kernel
theorem dX6_keep_32 : decode cX6_keep 32 = .ok (.getfield 37, 3) := by decide +kernel
theorem dX6_keep_35 : decode cX6_keep 35 = .ok (.iload_n 1, 1) := by decide +kernel
theorem dX6_keep_36 : decode cX6_keep 36 = .ok (.aload_n 2, 1) := by decide +kernel
theorem dX6_keep_37 : decode cX6_keep 37 = .ok (.aastore, 1) := by decide +kernel
theorem dX6_keep_38 : decode cX6_keep 38 = .ok (.aload_n 2, 1) := by decide +kernel
theorem dX6_keep_39 : decode cX6_keep 39 = .ok (.aload_n 0, 1) := by decide +kernel
theorem dX6_keep_40 : decode cX6_keep 40 = .ok (.getfield 33, 3) := by decide +kernel
theorem dX6_keep_43 : decode cX6_keep 43 = .ok (.invokevirtual 79, 3) := by decide +kernel
theorem dX6_keep_46 : decode cX6_keep 46 = .ok (.iconst 0, 1) := by decide +kernel
theorem dX6_keep_47 : decode cX6_keep 47 = .ok (.ireturn, 1) := by decide +kernel
def wz_X6_keep : List Cond := .code yX6_keep cX6_keep 3 (some .int) :: ([Cond.fieldLink RX6 37 "HedgeMaze" "images" "[LHedgeMaze$Garden;", Cond.classLink RX6 30 RX0, Cond.instantiable RX0 12, Cond.initialized RX0, Cond.instanceMethod yX0_init, Cond.fieldLink RX6 33 "HedgeMaze" "garden" "LHedgeMaze$Garden;", Cond.code yX0_init cX0_init 1 none, Cond.methodLink RX0 3 objectInit, Cond.instanceMethod objectInit, Cond.code objectInit ⟨#[0xb1]⟩ 1 none, Cond.classLink RX0 9 RX3, Cond.instantiable RX3 9, Cond.initialized RX3, Cond.instanceMethod yX3_init, Cond.fieldLink RX0 12 "HedgeMaze$Garden" "plan" "LHedgeMaze$Plan;", Cond.fieldLink RX0 18 "HedgeMaze$Garden" "lines" "I", Cond.fieldLink RX0 22 "HedgeMaze$Garden" "hedges" "J", Cond.fieldLink RX0 26 "HedgeMaze$Garden" "walls" "J", Cond.fieldLink RX0 29 "HedgeMaze$Garden" "isNear" "Z", Cond.fieldLink RX0 33 "HedgeMaze$Garden" "letterCell" "I", Cond.fieldLink RX0 36 "HedgeMaze$Garden" "gateCount" "I", Cond.arrayClass .int, Cond.fieldLink RX0 39 "HedgeMaze$Garden" "gates" "[I", Cond.fieldLink RX0 43 "HedgeMaze$Garden" "guestCount" "I", Cond.fieldLink RX0 46 "HedgeMaze$Garden" "guests" "[I", Cond.fieldLink RX0 49 "HedgeMaze$Garden" "goneCount" "I", Cond.fieldLink RX0 52 "HedgeMaze$Garden" "goneNights" "[I", Cond.code yX3_init cX3_init 1 none, Cond.methodLink RX3 3 objectInit, Cond.fieldLink RX3 9 "HedgeMaze$Plan" "wide" "I", Cond.fieldLink RX3 15 "HedgeMaze$Plan" "deep" "I", Cond.fieldLink RX3 18 "HedgeMaze$Plan" "cellCount" "I", Cond.fieldLink RX3 21 "HedgeMaze$Plan" "sideCount" "I", Cond.fieldLink RX3 24 "HedgeMaze$Plan" "allSides" "J", Cond.fieldLink RX3 28 "HedgeMaze$Plan" "first" "[I", Cond.fieldLink RX3 32 "HedgeMaze$Plan" "other" "[I", Cond.arrayClass .long, Cond.fieldLink RX3 35 "HedgeMaze$Plan" "bits" "[J", Cond.fieldLink RX3 39 "HedgeMaze$Plan" "around" "[I", Cond.methodLink RX6 79 yX0_becomeLike, Cond.instanceMethod yX0_becomeLike, Cond.selects RX0 yX0_becomeLike yX0_becomeLike, Cond.code yX0_becomeLike cX0_becomeLike 2 none, Cond.fieldLink RX0 59 "HedgeMaze$Plan" "wide" "I", Cond.fieldLink RX0 62 "HedgeMaze$Plan" "deep" "I", Cond.methodLink RX0 65 arraycopyName, Cond.native arraycopyName, Cond.static arraycopyName, Cond.initialized "java/lang/System", Cond.methodLink RX0 55 yX3_lay, Cond.instanceMethod yX3_lay, Cond.selects RX3 yX3_lay yX3_lay, Cond.code yX3_lay cX3_lay 6 none, Cond.methodLink RX3 42 Lib.Math.min.name, Cond.static Lib.Math.min.name, Cond.initialized "java/lang/Math", Cond.code Lib.Math.min.name Lib.Math.min.code 2 (some .int), Cond.methodLink RX3 48 yJ7_fill_53178, Cond.static yJ7_fill_53178, Cond.initialized RJ7, Cond.code yJ7_fill_53178 cJ7_fill_53178 4 none] ++ wsX60 ++ wsX00 ++ wsX30)
theorem wd_X6_keep_0 : Cond.fieldLink RX6 37 "HedgeMaze" "images" "[LHedgeMaze$Garden;" ∈ wz_X6_keep := List.mem_of_getElem? (i := 1) rfl
theorem wd_X6_keep_1 : Cond.classLink RX6 30 RX0 ∈ wz_X6_keep := List.mem_of_getElem? (i := 2) rfl
theorem wd_X6_keep_2 : Cond.instantiable RX0 12 ∈ wz_X6_keep := List.mem_of_getElem? (i := 3) rfl
theorem wd_X6_keep_3 : Cond.initialized RX0 ∈ wz_X6_keep := List.mem_of_getElem? (i := 4) rfl
theorem wd_X6_keep_4 : Cond.instanceMethod yX0_init ∈ wz_X6_keep := List.mem_of_getElem? (i := 5) rfl
theorem wd_X6_keep_5 : Cond.fieldLink RX6 33 "HedgeMaze" "garden" "LHedgeMaze$Garden;" ∈ wz_X6_keep := List.mem_of_getElem? (i := 6) rfl
theorem in_X6_keep_X6 : ∀ w ∈ wsX60, w ∈ wz_X6_keep := fun _ h => List.mem_cons_of_mem _ (List.mem_append_left _ (List.mem_append_left _ (List.mem_append_right _ h)))
theorem in_X6_keep_X0 : ∀ w ∈ wsX00, w ∈ wz_X6_keep := fun _ h => List.mem_cons_of_mem _ (List.mem_append_left _ (List.mem_append_right _ h))
set_option maxRecDepth 20000 in
theorem g_X6_keep_X0_init_n32 : GoodIn wz_X6_keep wz_X0_init := goodIn_r _ [7, 8, 9, 10, 11, 12, 13, 14, 15, 16, 17, 18, 19, 20, 21, 22, 23, 24, 25, 26, 27, 28, 29, 30, 31, 32, 33, 34, 35, 36, 37, 38, 39, 85, 86, 87, 88, 89, 90, 91, 92, 93, 73, 74, 75, 76, 77, 78, 79, 80, 81, 82, 83, 84] rfl (by decide +kernel)
set_option maxRecDepth 20000 in
theorem g_X6_keep_X0_becomeLike : GoodIn wz_X6_keep (wsV RX6 79 RX0 yX0_becomeLike wz_X0_becomeLike) := goodIn_r _ [40, 41, 42, 4, 43, 15, 44, 45, 16, 17, 18, 19, 20, 21, 24, 26, 23, 46, 47, 48, 49, 25, 27, 50, 51, 52, 13, 53, 54, 55, 56, 57, 30, 31, 32, 33, 34, 39, 58, 59, 60, 61, 73, 74, 75, 76, 77, 78, 79, 80, 81, 82, 83, 84, 85, 86, 87, 88, 89, 90, 91, 92, 93] rfl (by decide +kernel)
set_option maxHeartbeats 4000000 in
set_option maxRecDepth 100000 in
theorem c_X6_keep (l : Launch) (dC : Nat → ClassId) (dI : Nat → Nat → Nat) (sz : Nat) (h0 : Nat) (tp : Nat) (rd : Nat) (gd : Nat) (im : Nat) (rw : Nat) (gn : Nat) (ho : Nat) (sq : Nat) (pl : Nat) (gdt : Nat) (gdu : Nat) (gdn : Nat) (plf : Nat) (plo : Nat) (plb : Nat) (pla : Nat) (ct : ClassId) (cu : ClassId) (cn : ClassId) (cg : ClassId) (p0 : Int32)  : Met l yX6_keep wz_X6_keep ({ frames := 3, cells := 9, slots := 349, locals := 86 }) (va_Pc [.ref h0, .int p0] (fun U => U.heap.size = sz ∧ va_P (dC, dI) vwCl [(h0, .inr (6, [.ref tp, .int 0, .int 0, .int (-1), .ref rd, .ref gd, .ref im, .ref rw, .ref gn, .ref ho, .ref sq])), (gd, .inr (0, [.ref pl, .int 0, .long 0, .long 0, .int 0, .int (-1), .int 0, .ref gdt, .int 0, .ref gdu, .int 0, .ref gdn])), (pl, .inr (3, [.int 0, .int 0, .int 0, .int 0, .long 0, .ref plf, .ref plo, .ref plb, .ref pla])), (gdt, .inl (ct, 4, .inl (fun _ => 0))), (gdu, .inl (cu, 5, .inl (fun _ => 0))), (gdn, .inl (cn, 99, .inl (fun _ => 0))), (im, .inl (cg, 3, .inr (.inr (.inr (.inr (fun _ => none))))))] U.heap ∧ va_K (dC, dI) vwCl [(ct, .int), (cu, .int), (cn, .int), (cg, .object RX0)] U ∧ va_D (fun _ => True) [(h0, .inr (6, [.ref tp, .int 0, .int 0, .int (-1), .ref rd, .ref gd, .ref im, .ref rw, .ref gn, .ref ho, .ref sq])), (gd, .inr (0, [.ref pl, .int 0, .long 0, .long 0, .int 0, .int (-1), .int 0, .ref gdt, .int 0, .ref gdu, .int 0, .ref gdn])), (pl, .inr (3, [.int 0, .int 0, .int 0, .int 0, .long 0, .ref plf, .ref plo, .ref plb, .ref pla])), (gdt, .inl (ct, 4, .inl (fun _ => 0))), (gdu, .inl (cu, 5, .inl (fun _ => 0))), (gdn, .inl (cn, 99, .inl (fun _ => 0))), (im, .inl (cg, 3, .inr (.inr (.inr (.inr (fun _ => none))))))] ∧ Kx U)) (va_Qi (fun (r : Int32) (u : Unit) => r = if 0 ≤ p0.toInt ∧ p0.toInt ≤ 2 then 0 else -2) (fun (_ : Unit) (_ : State) => True) (va_A [(h0, .inr (6, [.ref tp, .int 0, .int 0, .int (-1), .ref rd, .ref gd, .ref im, .ref rw, .ref gn, .ref ho, .ref sq])), (gd, .inr (0, [.ref pl, .int 0, .long 0, .long 0, .int 0, .int (-1), .int 0, .ref gdt, .int 0, .ref gdu, .int 0, .ref gdn])), (pl, .inr (3, [.int 0, .int 0, .int 0, .int 0, .long 0, .ref plf, .ref plo, .ref plb, .ref pla])), (gdt, .inl (ct, 4, .inl (fun _ => 0))), (gdu, .inl (cu, 5, .inl (fun _ => 0))), (gdn, .inl (cn, 99, .inl (fun _ => 0))), (im, .inl (cg, 3, .inr (.inr (.inr (.inr (fun _ => none))))))] sz)) 9 349 (va_A [(h0, .inr (6, [.ref tp, .int 0, .int 0, .int (-1), .ref rd, .ref gd, .ref im, .ref rw, .ref gn, .ref ho, .ref sq])), (gd, .inr (0, [.ref pl, .int 0, .long 0, .long 0, .int 0, .int (-1), .int 0, .ref gdt, .int 0, .ref gdu, .int 0, .ref gdn])), (pl, .inr (3, [.int 0, .int 0, .int 0, .int 0, .long 0, .ref plf, .ref plo, .ref plb, .ref pla])), (gdt, .inl (ct, 4, .inl (fun _ => 0))), (gdu, .inl (cu, 5, .inl (fun _ => 0))), (gdn, .inl (cn, 99, .inl (fun _ => 0))), (im, .inl (cg, 3, .inr (.inr (.inr (.inr (fun _ => none))))))] sz) := by
  refine Met.ofW (cc := cX6_keep) (maxL := 3) (ret := (some .int)) (by decide) rfl ?_
  intro p e s m args below meth c s₁ B hml hv
  obtain ⟨rfl, hsz, hP, hK, hD0, hE0⟩ := hv
  have hx := B.exec
  have hb := B.bytes
  have hr := B.returns
  have hts := atoms_spec (ws := wz_X6_keep) B.pre
  have hown : s.vm.findClass RX6 = some m.cls := findClass_of_methodNamed B.named
  have hlocks := B.notSynchronized
  subst hsz
  have hD := hD0.self (sz := s.heap.size)
  generalize hAe : va_A [(h0, .inr (6, [.ref tp, .int 0, .int 0, .int (-1), .ref rd, .ref gd, .ref im, .ref rw, .ref gn, .ref ho, .ref sq])), (gd, .inr (0, [.ref pl, .int 0, .long 0, .long 0, .int 0, .int (-1), .int 0, .ref gdt, .int 0, .ref gdu, .int 0, .ref gdn])), (pl, .inr (3, [.int 0, .int 0, .int 0, .int 0, .long 0, .ref plf, .ref plo, .ref plb, .ref pla])), (gdt, .inl (ct, 4, .inl (fun _ => 0))), (gdu, .inl (cu, 5, .inl (fun _ => 0))), (gdn, .inl (cn, 99, .inl (fun _ => 0))), (im, .inl (cg, 3, .inr (.inr (.inr (.inr (fun _ => none))))))] s.heap.size = A at hD ⊢
  have hA : ∀ q : Nat, s.heap.size ≤ q → A q := fun q h => by rw [← hAe]; exact Or.inr h
  have hS : va_S A s.heap s.heap [] := va_S.rf
  have hP : va_P (dC, dI) vwCl [(h0, .inr (6, [.ref tp, .int 0, .int 0, .int (-1), .ref rd, .ref gd, .ref im, .ref rw, .ref gn, .ref ho, .ref sq])), (gd, .inr (0, [.ref pl, .int 0, .long 0, .long 0, .int 0, .int (-1), .int 0, .ref gdt, .int 0, .ref gdu, .int 0, .ref gdn])), (pl, .inr (3, [.int 0, .int 0, .int 0, .int 0, .long 0, .ref plf, .ref plo, .ref plb, .ref pla])), (gdt, .inl (ct, 4, .inl (fun _ => 0))), (gdu, .inl (cu, 5, .inl (fun _ => 0))), (gdn, .inl (cn, 99, .inl (fun _ => 0))), (im, .inl (cg, 3, .inr (.inr (.inr (.inr (fun _ => none))))))] s.heap := hP
  have hl := lv_entry ([.ref h0, .int p0]) (n := 3) (Nat.le_of_ble_eq_true rfl)
  rw [lg_entry_eq]
  generalize (lg_sl ([.ref h0, .int p0]) ++ List.replicate (3 - (lg_sl ([.ref h0, .int p0])).length) Slot.unset).toArray = ls at hl ⊢
  have hl : lv_has ls 3 [(0, .ref h0), (1, .int p0)] := hl
  refine lv_iload_n hx hb dX6_keep_0 rfl (lv_at hl 1 rfl) ?_
  refine lv_if_lt (tgt := 9) hx hb dX6_keep_1 (by decide) (fun c_1 => ?_) (fun c_1 => ?_)
  · have c_1 : p0.toInt < 0 := i_lt (a := p0) (b := 0) rfl (by decide) c_1
    refine lv_bipush (v := -2) hx hb dX6_keep_9 (by decide) ?_
    refine W.widen (k := 9) (n := 349) (by omega) (by omega) ?_
    exact W.iret (v := -2) hx hb hr (fun t ht hW => ⟨⟨(-2), (), rfl, (by first | rfl | ((repeat' split) <;> (first | rfl | (exfalso; omega)))), trivial⟩, hS.F ht⟩) hS.2.2 dX6_keep_11
  · have c_1 : 0 ≤ p0.toInt := i_nlt (a := p0) (b := 0) rfl (by decide) c_1
    refine lv_iload_n hx hb dX6_keep_4 rfl (lv_at hl 1 rfl) ?_
    refine lv_iconst (v := 3) hx hb dX6_keep_5 (by decide) ?_
    refine lv_icmp_lt (tgt := 12) hx hb dX6_keep_6 (by decide) (fun c_2 => ?_) (fun c_2 => ?_)
    · have c_2 : p0.toInt < 3 := i_lt (a := p0) (b := 3) rfl (by decide) c_2
      rcases (i_three (a := p0) (by omega) (by omega) : p0 = 0 ∨ p0 = 1 ∨ p0 = 2) with rfl | rfl | rfl
      · refine lv_aload_n hx hb dX6_keep_12 rfl (lv_at hl 0 rfl) ?_
        refine va_get (D := (dC, dI)) (ci := 6) (v := .ref im) (C := RX6) (T := TX6) (N := 11) hx hb hts in_X6_keep_X6 hown hK hP 0 rfl rfl 6 (by decide) (hts _ wd_X6_keep_0) (fun _ h9 => h9) rfl dX6_keep_13 ?_
        refine lv_iload_n hx hb dX6_keep_16 rfl (lv_at hl 1 rfl) ?_
        refine va_aldq hx hb hK hP 6 3 rfl rfl (vp_in_iff.mpr ⟨by decide, by decide⟩) dX6_keep_17 ?_
        refine W.eq (g2 := F0 m 18 ls (.null :: [])) rfl ?_
        refine lv_astore_nN (lv' := [(2, .null), (0, .ref h0), (1, .int 0)]) hx hb dX6_keep_18 rfl hl (by decide) rfl (fun ls hl => ?_)
        refine lv_aload_nN hx hb dX6_keep_19 rfl (lv_at hl 0 rfl) ?_
        refine lv_ifnonnullN hx hb dX6_keep_20 ?_
        refine va_new (ci := 0) (fs := [.null, .int 0, .long 0, .long 0, .int 0, .int 0, .int 0, .null, .int 0, .null, .int 0, .null]) (C := RX0) (T := TX0) (N := 12) hx hb hts in_X6_keep_X0 tyX0 tyX0_ok hown (hts _ wd_X6_keep_1) (hts _ wd_X6_keep_2) (hts _ wd_X6_keep_3) hK hP hD hS hA rfl (fun j hj => by rcases (show j = 0 ∨ j = 1 ∨ j = 2 ∨ j = 3 ∨ j = 4 ∨ j = 5 ∨ j = 6 ∨ j = 7 ∨ j = 8 ∨ j = 9 ∨ j = 10 ∨ j = 11 by omega) with rfl | rfl | rfl | rfl | rfl | rfl | rfl | rfl | rfl | rfl | rfl | rfl <;> rfl) (Nat.le_of_ble_eq_true rfl) (Nat.le_of_ble_eq_true rfl) dX6_keep_23 (fun q_3 H hP hD hS => ?_)
        have hP : va_P (dC, dI) vwCl [(h0, .inr (6, [.ref tp, .int 0, .int 0, .int (-1), .ref rd, .ref gd, .ref im, .ref rw, .ref gn, .ref ho, .ref sq])), (gd, .inr (0, [.ref pl, .int 0, .long 0, .long 0, .int 0, .int (-1), .int 0, .ref gdt, .int 0, .ref gdu, .int 0, .ref gdn])), (pl, .inr (3, [.int 0, .int 0, .int 0, .int 0, .long 0, .ref plf, .ref plo, .ref plb, .ref pla])), (gdt, .inl (ct, 4, .inl (fun _ => 0))), (gdu, .inl (cu, 5, .inl (fun _ => 0))), (gdn, .inl (cn, 99, .inl (fun _ => 0))), (im, .inl (cg, 3, .inr (.inr (.inr (.inr (fun _ => none)))))), (q_3, .inr (0, [.null, .int 0, .long 0, .long 0, .int 0, .int 0, .int 0, .null, .int 0, .null, .int 0, .null]))] H := hP
        have hD : va_D A [(h0, .inr (6, [.ref tp, .int 0, .int 0, .int (-1), .ref rd, .ref gd, .ref im, .ref rw, .ref gn, .ref ho, .ref sq])), (gd, .inr (0, [.ref pl, .int 0, .long 0, .long 0, .int 0, .int (-1), .int 0, .ref gdt, .int 0, .ref gdu, .int 0, .ref gdn])), (pl, .inr (3, [.int 0, .int 0, .int 0, .int 0, .long 0, .ref plf, .ref plo, .ref plb, .ref pla])), (gdt, .inl (ct, 4, .inl (fun _ => 0))), (gdu, .inl (cu, 5, .inl (fun _ => 0))), (gdn, .inl (cn, 99, .inl (fun _ => 0))), (im, .inl (cg, 3, .inr (.inr (.inr (.inr (fun _ => none)))))), (q_3, .inr (0, [.null, .int 0, .long 0, .long 0, .int 0, .int 0, .int 0, .null, .int 0, .null, .int 0, .null]))] := hD
        refine W.widen (k := 1) (n := 12) (by omega) (by omega) ?_
        refine lv_dup hx hb dX6_keep_26 rfl ?_
        have hPc := hP.sub (ws' := [(q_3, .inr (0, [.null, .int 0, .long 0, .long 0, .int 0, .int 0, .int 0, .null, .int 0, .null, .int 0, .null]))]) [7] rfl
        have hDc := hD.sub (ws' := [(q_3, .inr (0, [.null, .int 0, .long 0, .long 0, .int 0, .int 0, .int 0, .null, .int 0, .null, .int 0, .null]))]) [7] (by decide) rfl
        have hKc := hK.sub (tys' := []) [] rfl
        have hFc := va_free (wc := [(q_3, .inr (0, [.null, .int 0, .long 0, .long 0, .int 0, .int 0, .int 0, .null, .int 0, .null, .int 0, .null]))]) hD hS hA [7] rfl
        refine va_callv (va_runIN (As := []) (rest := [.ref q_3]) ⟨hx, hb, hml, hown, hts⟩ (c_X0_init l dC dI H.size q_3 ) ⟨va_cnB 0 hts g_X6_keep_X0_init_n32 rfl rfl rfl hE0.2.2.2.1 (hts _ wd_X6_keep_3) (by decide +kernel) ⟨Nat.le_of_ble_eq_true rfl, Nat.le_of_ble_eq_true rfl⟩, rfl, (hts _ wd_X6_keep_4)⟩ ⟨fun a U g mk q => by obtain ⟨q0, q1, qP, qK, qD, qE0⟩ := q; exact ⟨q0, q1, qP, va_K.moved (u := U) (U := U.calling g mk a) (Vm.Alike.refl U.vm) qK, qD, Kx.same rfl qE0⟩, fun U hU hW => ⟨rfl, by rw [hU], by rw [hU]; exact hPc, va_K.moved hW.alike hKc, hDc.weaken (fun _ _ _ _ => trivial), Kx.warm hW hE0⟩⟩ rfl rfl hl.1 rfl (lv_room (Nat.le_of_ble_eq_true rfl)) dX6_keep_27 ⟨Nat.le_of_ble_eq_true rfl, Nat.le_of_ble_eq_true rfl⟩) hS (fun q _ h => hFc q h) hFc (fun u t H1 locs ht hvm hw_4 hB hz1 hk1 hS => ?_)
        obtain ⟨pl_5, h0t_6, h0u_7, h0n_8, plf_9, plo_10, plb_11, pla_12, ci_13, ct_14, cu_15, cn_16⟩ := u
        obtain ⟨hP1, hK1, hD1⟩ := hB
        have hP1 : va_P (dC, dI) vwCl [(q_3, .inr (0, [.ref pl_5, .int 0, .long 0, .long 0, .int 0, .int (-1), .int 0, .ref h0t_6, .int 0, .ref h0u_7, .int 0, .ref h0n_8])), (pl_5, .inr (3, [.int 0, .int 0, .int 0, .int 0, .long 0, .ref plf_9, .ref plo_10, .ref plb_11, .ref pla_12])), (pla_12, .inl (ci_13, 100, .inl (fun _ => 0))), (h0t_6, .inl (ct_14, 4, .inl (fun _ => 0))), (h0u_7, .inl (cu_15, 5, .inl (fun _ => 0))), (h0n_8, .inl (cn_16, 99, .inl (fun _ => 0)))] t.heap := hP1
        rw [ht] at hP1
        have hK1 : va_K (dC, dI) vwCl [(ci_13, .int), (ct_14, .int), (cu_15, .int), (cn_16, .int)] s := va_K.moved hvm.symm hK1
        try dsimp only at hw_4
        obtain ⟨hP, hD⟩ := va_join (wr := [(h0, .inr (6, [.ref tp, .int 0, .int 0, .int (-1), .ref rd, .ref gd, .ref im, .ref rw, .ref gn, .ref ho, .ref sq])), (gd, .inr (0, [.ref pl, .int 0, .long 0, .long 0, .int 0, .int (-1), .int 0, .ref gdt, .int 0, .ref gdu, .int 0, .ref gdn])), (pl, .inr (3, [.int 0, .int 0, .int 0, .int 0, .long 0, .ref plf, .ref plo, .ref plb, .ref pla])), (gdt, .inl (ct, 4, .inl (fun _ => 0))), (gdu, .inl (cu, 5, .inl (fun _ => 0))), (gdn, .inl (cn, 99, .inl (fun _ => 0))), (im, .inl (cg, 3, .inr (.inr (.inr (.inr (fun _ => none))))))]) (w1 := [(q_3, .inr (0, [.ref pl_5, .int 0, .long 0, .long 0, .int 0, .int (-1), .int 0, .ref h0t_6, .int 0, .ref h0u_7, .int 0, .ref h0n_8])), (pl_5, .inr (3, [.int 0, .int 0, .int 0, .int 0, .long 0, .ref plf_9, .ref plo_10, .ref plb_11, .ref pla_12])), (pla_12, .inl (ci_13, 100, .inl (fun _ => 0))), (h0t_6, .inl (ct_14, 4, .inl (fun _ => 0))), (h0u_7, .inl (cu_15, 5, .inl (fun _ => 0))), (h0n_8, .inl (cn_16, 99, .inl (fun _ => 0)))]) hP hD [7] [0, 1, 2, 3, 4, 5, 6] rfl rfl (by decide) (by decide) hk1 hFc hP1 hD1
        generalize H1 = H at hP hS ⊢
        have hK := hK.app hK1
        have hP : va_P (dC, dI) vwCl [(h0, .inr (6, [.ref tp, .int 0, .int 0, .int (-1), .ref rd, .ref gd, .ref im, .ref rw, .ref gn, .ref ho, .ref sq])), (gd, .inr (0, [.ref pl, .int 0, .long 0, .long 0, .int 0, .int (-1), .int 0, .ref gdt, .int 0, .ref gdu, .int 0, .ref gdn])), (pl, .inr (3, [.int 0, .int 0, .int 0, .int 0, .long 0, .ref plf, .ref plo, .ref plb, .ref pla])), (gdt, .inl (ct, 4, .inl (fun _ => 0))), (gdu, .inl (cu, 5, .inl (fun _ => 0))), (gdn, .inl (cn, 99, .inl (fun _ => 0))), (im, .inl (cg, 3, .inr (.inr (.inr (.inr (fun _ => none)))))), (q_3, .inr (0, [.ref pl_5, .int 0, .long 0, .long 0, .int 0, .int (-1), .int 0, .ref h0t_6, .int 0, .ref h0u_7, .int 0, .ref h0n_8])), (pl_5, .inr (3, [.int 0, .int 0, .int 0, .int 0, .long 0, .ref plf_9, .ref plo_10, .ref plb_11, .ref pla_12])), (pla_12, .inl (ci_13, 100, .inl (fun _ => 0))), (h0t_6, .inl (ct_14, 4, .inl (fun _ => 0))), (h0u_7, .inl (cu_15, 5, .inl (fun _ => 0))), (h0n_8, .inl (cn_16, 99, .inl (fun _ => 0)))] H := hP
        have hD : va_D A [(h0, .inr (6, [.ref tp, .int 0, .int 0, .int (-1), .ref rd, .ref gd, .ref im, .ref rw, .ref gn, .ref ho, .ref sq])), (gd, .inr (0, [.ref pl, .int 0, .long 0, .long 0, .int 0, .int (-1), .int 0, .ref gdt, .int 0, .ref gdu, .int 0, .ref gdn])), (pl, .inr (3, [.int 0, .int 0, .int 0, .int 0, .long 0, .ref plf, .ref plo, .ref plb, .ref pla])), (gdt, .inl (ct, 4, .inl (fun _ => 0))), (gdu, .inl (cu, 5, .inl (fun _ => 0))), (gdn, .inl (cn, 99, .inl (fun _ => 0))), (im, .inl (cg, 3, .inr (.inr (.inr (.inr (fun _ => none)))))), (q_3, .inr (0, [.ref pl_5, .int 0, .long 0, .long 0, .int 0, .int (-1), .int 0, .ref h0t_6, .int 0, .ref h0u_7, .int 0, .ref h0n_8])), (pl_5, .inr (3, [.int 0, .int 0, .int 0, .int 0, .long 0, .ref plf_9, .ref plo_10, .ref plb_11, .ref pla_12])), (pla_12, .inl (ci_13, 100, .inl (fun _ => 0))), (h0t_6, .inl (ct_14, 4, .inl (fun _ => 0))), (h0u_7, .inl (cu_15, 5, .inl (fun _ => 0))), (h0n_8, .inl (cn_16, 99, .inl (fun _ => 0)))] := hD
        have hK : va_K (dC, dI) vwCl [(ct, .int), (cu, .int), (cn, .int), (cg, .object RX0), (ci_13, .int), (ct_14, .int), (cu_15, .int), (cn_16, .int)] s := hK
        refine W.widen (k := 9) (n := 349) (by omega) (by omega) ?_
        refine lv_astore_n (lv' := [(2, .ref q_3), (0, .ref h0), (1, .int 0)]) hx hb dX6_keep_30 rfl hl (by decide) rfl (fun ls hl => ?_)
        refine lv_aload_n hx hb dX6_keep_31 rfl (lv_at hl 1 rfl) ?_
        refine va_get (D := (dC, dI)) (ci := 6) (v := .ref im) (C := RX6) (T := TX6) (N := 11) hx hb hts in_X6_keep_X6 hown hK hP 0 rfl rfl 6 (by decide) (hts _ wd_X6_keep_0) (fun _ h9 => h9) rfl dX6_keep_32 ?_
        refine lv_iload_n hx hb dX6_keep_35 rfl (lv_at hl 2 rfl) ?_
        refine lv_aload_n hx hb dX6_keep_36 rfl (lv_at hl 0 rfl) ?_
        refine va_astq hx hb hK hP hD hS 6 3 7 0 rfl rfl rfl rfl (vp_in_iff.mpr ⟨by decide, by decide⟩) dX6_keep_37 (fun H locs hP hD hS => ?_)
        have hP : va_P (dC, dI) vwCl [(h0, .inr (6, [.ref tp, .int 0, .int 0, .int (-1), .ref rd, .ref gd, .ref im, .ref rw, .ref gn, .ref ho, .ref sq])), (gd, .inr (0, [.ref pl, .int 0, .long 0, .long 0, .int 0, .int (-1), .int 0, .ref gdt, .int 0, .ref gdu, .int 0, .ref gdn])), (pl, .inr (3, [.int 0, .int 0, .int 0, .int 0, .long 0, .ref plf, .ref plo, .ref plb, .ref pla])), (gdt, .inl (ct, 4, .inl (fun _ => 0))), (gdu, .inl (cu, 5, .inl (fun _ => 0))), (gdn, .inl (cn, 99, .inl (fun _ => 0))), (im, .inl (cg, 3, .inr (.inr (.inr (.inr (va_up (fun _ => none) ((0 : Int32)).toNatClampNeg (some q_3))))))), (q_3, .inr (0, [.ref pl_5, .int 0, .long 0, .long 0, .int 0, .int (-1), .int 0, .ref h0t_6, .int 0, .ref h0u_7, .int 0, .ref h0n_8])), (pl_5, .inr (3, [.int 0, .int 0, .int 0, .int 0, .long 0, .ref plf_9, .ref plo_10, .ref plb_11, .ref pla_12])), (pla_12, .inl (ci_13, 100, .inl (fun _ => 0))), (h0t_6, .inl (ct_14, 4, .inl (fun _ => 0))), (h0u_7, .inl (cu_15, 5, .inl (fun _ => 0))), (h0n_8, .inl (cn_16, 99, .inl (fun _ => 0)))] H := hP
        have hD : va_D A [(h0, .inr (6, [.ref tp, .int 0, .int 0, .int (-1), .ref rd, .ref gd, .ref im, .ref rw, .ref gn, .ref ho, .ref sq])), (gd, .inr (0, [.ref pl, .int 0, .long 0, .long 0, .int 0, .int (-1), .int 0, .ref gdt, .int 0, .ref gdu, .int 0, .ref gdn])), (pl, .inr (3, [.int 0, .int 0, .int 0, .int 0, .long 0, .ref plf, .ref plo, .ref plb, .ref pla])), (gdt, .inl (ct, 4, .inl (fun _ => 0))), (gdu, .inl (cu, 5, .inl (fun _ => 0))), (gdn, .inl (cn, 99, .inl (fun _ => 0))), (im, .inl (cg, 3, .inr (.inr (.inr (.inr (va_up (fun _ => none) ((0 : Int32)).toNatClampNeg (some q_3))))))), (q_3, .inr (0, [.ref pl_5, .int 0, .long 0, .long 0, .int 0, .int (-1), .int 0, .ref h0t_6, .int 0, .ref h0u_7, .int 0, .ref h0n_8])), (pl_5, .inr (3, [.int 0, .int 0, .int 0, .int 0, .long 0, .ref plf_9, .ref plo_10, .ref plb_11, .ref pla_12])), (pla_12, .inl (ci_13, 100, .inl (fun _ => 0))), (h0t_6, .inl (ct_14, 4, .inl (fun _ => 0))), (h0u_7, .inl (cu_15, 5, .inl (fun _ => 0))), (h0n_8, .inl (cn_16, 99, .inl (fun _ => 0)))] := hD
        refine lv_aload_n hx hb dX6_keep_38 rfl (lv_at hl 0 rfl) ?_
        refine lv_aload_n hx hb dX6_keep_39 rfl (lv_at hl 1 rfl) ?_
        refine va_get (D := (dC, dI)) (ci := 6) (v := .ref gd) (C := RX6) (T := TX6) (N := 11) hx hb hts in_X6_keep_X6 hown hK hP 0 rfl rfl 5 (by decide) (hts _ wd_X6_keep_5) (fun _ h9 => h9) rfl dX6_keep_40 ?_
        have hPc := hP.sub (ws' := [(q_3, .inr (0, [.ref pl_5, .int 0, .long 0, .long 0, .int 0, .int (-1), .int 0, .ref h0t_6, .int 0, .ref h0u_7, .int 0, .ref h0n_8])), (pl_5, .inr (3, [.int 0, .int 0, .int 0, .int 0, .long 0, .ref plf_9, .ref plo_10, .ref plb_11, .ref pla_12])), (pla_12, .inl (ci_13, 100, .inl (fun _ => 0))), (h0t_6, .inl (ct_14, 4, .inl (fun _ => 0))), (h0u_7, .inl (cu_15, 5, .inl (fun _ => 0))), (h0n_8, .inl (cn_16, 99, .inl (fun _ => 0))), (gd, .inr (0, [.ref pl, .int 0, .long 0, .long 0, .int 0, .int (-1), .int 0, .ref gdt, .int 0, .ref gdu, .int 0, .ref gdn])), (pl, .inr (3, [.int 0, .int 0, .int 0, .int 0, .long 0, .ref plf, .ref plo, .ref plb, .ref pla])), (gdt, .inl (ct, 4, .inl (fun _ => 0))), (gdu, .inl (cu, 5, .inl (fun _ => 0))), (gdn, .inl (cn, 99, .inl (fun _ => 0)))]) [7, 8, 9, 10, 11, 12, 1, 2, 3, 4, 5] rfl
        have hDc := hD.sub (ws' := [(q_3, .inr (0, [.ref pl_5, .int 0, .long 0, .long 0, .int 0, .int (-1), .int 0, .ref h0t_6, .int 0, .ref h0u_7, .int 0, .ref h0n_8])), (pl_5, .inr (3, [.int 0, .int 0, .int 0, .int 0, .long 0, .ref plf_9, .ref plo_10, .ref plb_11, .ref pla_12])), (pla_12, .inl (ci_13, 100, .inl (fun _ => 0))), (h0t_6, .inl (ct_14, 4, .inl (fun _ => 0))), (h0u_7, .inl (cu_15, 5, .inl (fun _ => 0))), (h0n_8, .inl (cn_16, 99, .inl (fun _ => 0))), (gd, .inr (0, [.ref pl, .int 0, .long 0, .long 0, .int 0, .int (-1), .int 0, .ref gdt, .int 0, .ref gdu, .int 0, .ref gdn])), (pl, .inr (3, [.int 0, .int 0, .int 0, .int 0, .long 0, .ref plf, .ref plo, .ref plb, .ref pla])), (gdt, .inl (ct, 4, .inl (fun _ => 0))), (gdu, .inl (cu, 5, .inl (fun _ => 0))), (gdn, .inl (cn, 99, .inl (fun _ => 0)))]) [7, 8, 9, 10, 11, 12, 1, 2, 3, 4, 5] (by decide) rfl
        have hKc := hK.sub (tys' := [(ci_13, .int), (ct_14, .int), (cu_15, .int), (cn_16, .int), (ct, .int), (cu, .int), (cn, .int)]) [4, 5, 6, 7, 0, 1, 2] rfl
        have hFc := va_free (wc := [(q_3, .inr (0, [.ref pl_5, .int 0, .long 0, .long 0, .int 0, .int (-1), .int 0, .ref h0t_6, .int 0, .ref h0u_7, .int 0, .ref h0n_8])), (pl_5, .inr (3, [.int 0, .int 0, .int 0, .int 0, .long 0, .ref plf_9, .ref plo_10, .ref plb_11, .ref pla_12])), (pla_12, .inl (ci_13, 100, .inl (fun _ => 0))), (h0t_6, .inl (ct_14, 4, .inl (fun _ => 0))), (h0u_7, .inl (cu_15, 5, .inl (fun _ => 0))), (h0n_8, .inl (cn_16, 99, .inl (fun _ => 0))), (gd, .inr (0, [.ref pl, .int 0, .long 0, .long 0, .int 0, .int (-1), .int 0, .ref gdt, .int 0, .ref gdu, .int 0, .ref gdn])), (pl, .inr (3, [.int 0, .int 0, .int 0, .int 0, .long 0, .ref plf, .ref plo, .ref plb, .ref pla])), (gdt, .inl (ct, 4, .inl (fun _ => 0))), (gdu, .inl (cu, 5, .inl (fun _ => 0))), (gdn, .inl (cn, 99, .inl (fun _ => 0)))]) hD hS hA [7, 8, 9, 10, 11, 12, 1, 2, 3, 4, 5] rfl
        refine va_callv (va_runV (As := [.ref gd]) (rest := []) ⟨hx, hb, hml, hown, hts⟩ (c_X0_becomeLike l dC dI H.size q_3 pl_5 h0t_6 h0u_7 h0n_8 plf_9 plo_10 plb_11 pla_12 ci_13 ct_14 cu_15 cn_16 ((fun _ => 0 : Nat → Int32)) gd pl gdt gdu gdn plf plo plb pla ct cu cn ) (cwV 1 hts g_X6_keep_X0_becomeLike rfl rfl rfl (by decide +kernel) ⟨Nat.le_of_ble_eq_true rfl, Nat.le_of_ble_eq_true rfl⟩) ⟨fun a U g mk q => by obtain ⟨q0, q1, qP, qK, qD⟩ := q; exact ⟨q0, q1, qP, va_K.moved (u := U) (U := U.calling g mk a) (Vm.Alike.refl U.vm) qK, qD⟩, va_recv hKc hPc (ci := 0) (q0 := 0) rfl rfl, fun U hU hW => ⟨rfl, by rw [hU], by rw [hU]; exact hPc, va_K.moved hW.alike hKc, hDc.weaken (fun _ _ _ _ => trivial)⟩⟩ rfl rfl hl.1 rfl (lv_room (Nat.le_of_ble_eq_true rfl)) dX6_keep_43 ⟨Nat.le_of_ble_eq_true rfl, Nat.le_of_ble_eq_true rfl⟩) hS (fun q _ h => hFc q h) hFc (fun u t H1 locs ht hvm hw_17 hB hz1 hk1 hS => ?_)
        obtain ⟨hP1, hK1, hD1⟩ := hB
        have hP1 : va_P (dC, dI) vwCl [(q_3, .inr (0, [.ref pl_5, .int 0, .long 0, .long 0, .int 0, .int (-1), .int 0, .ref h0t_6, .int 0, .ref h0u_7, .int 0, .ref h0n_8]))] t.heap := hP1
        rw [ht] at hP1
        try dsimp only at hw_17
        obtain ⟨hP, hD⟩ := va_join (wr := [(h0, .inr (6, [.ref tp, .int 0, .int 0, .int (-1), .ref rd, .ref gd, .ref im, .ref rw, .ref gn, .ref ho, .ref sq])), (im, .inl (cg, 3, .inr (.inr (.inr (.inr (va_up (fun _ => none) ((0 : Int32)).toNatClampNeg (some q_3)))))))]) (w1 := [(q_3, .inr (0, [.ref pl_5, .int 0, .long 0, .long 0, .int 0, .int (-1), .int 0, .ref h0t_6, .int 0, .ref h0u_7, .int 0, .ref h0n_8]))]) hP hD [7, 8, 9, 10, 11, 12, 1, 2, 3, 4, 5] [0, 6] rfl rfl (by decide) (by decide) hk1 hFc hP1 hD1
        generalize H1 = H at hP hS ⊢
        have hP : va_P (dC, dI) vwCl [(h0, .inr (6, [.ref tp, .int 0, .int 0, .int (-1), .ref rd, .ref gd, .ref im, .ref rw, .ref gn, .ref ho, .ref sq])), (im, .inl (cg, 3, .inr (.inr (.inr (.inr (va_up (fun _ => none) ((0 : Int32)).toNatClampNeg (some q_3))))))), (q_3, .inr (0, [.ref pl_5, .int 0, .long 0, .long 0, .int 0, .int (-1), .int 0, .ref h0t_6, .int 0, .ref h0u_7, .int 0, .ref h0n_8]))] H := hP
        have hD : va_D A [(h0, .inr (6, [.ref tp, .int 0, .int 0, .int (-1), .ref rd, .ref gd, .ref im, .ref rw, .ref gn, .ref ho, .ref sq])), (im, .inl (cg, 3, .inr (.inr (.inr (.inr (va_up (fun _ => none) ((0 : Int32)).toNatClampNeg (some q_3))))))), (q_3, .inr (0, [.ref pl_5, .int 0, .long 0, .long 0, .int 0, .int (-1), .int 0, .ref h0t_6, .int 0, .ref h0u_7, .int 0, .ref h0n_8]))] := hD
        refine lv_iconst (v := 0) hx hb dX6_keep_46 (by decide) ?_
        refine W.widen (k := 9) (n := 349) (by omega) (by omega) ?_
        exact W.iret (v := 0) hx hb hr (fun t ht hW => ⟨⟨0, (), rfl, (by first | rfl | ((repeat' split) <;> (first | rfl | (exfalso; omega)))), trivial⟩, hS.F ht⟩) hS.2.2 dX6_keep_47
      · refine lv_aload_n hx hb dX6_keep_12 rfl (lv_at hl 0 rfl) ?_
        refine va_get (D := (dC, dI)) (ci := 6) (v := .ref im) (C := RX6) (T := TX6) (N := 11) hx hb hts in_X6_keep_X6 hown hK hP 0 rfl rfl 6 (by decide) (hts _ wd_X6_keep_0) (fun _ h9 => h9) rfl dX6_keep_13 ?_
        refine lv_iload_n hx hb dX6_keep_16 rfl (lv_at hl 1 rfl) ?_
        refine va_aldq hx hb hK hP 6 3 rfl rfl (vp_in_iff.mpr ⟨by decide, by decide⟩) dX6_keep_17 ?_
        refine W.eq (g2 := F0 m 18 ls (.null :: [])) rfl ?_
        refine lv_astore_nN (lv' := [(2, .null), (0, .ref h0), (1, .int 1)]) hx hb dX6_keep_18 rfl hl (by decide) rfl (fun ls hl => ?_)
        refine lv_aload_nN hx hb dX6_keep_19 rfl (lv_at hl 0 rfl) ?_
        refine lv_ifnonnullN hx hb dX6_keep_20 ?_
        refine va_new (ci := 0) (fs := [.null, .int 0, .long 0, .long 0, .int 0, .int 0, .int 0, .null, .int 0, .null, .int 0, .null]) (C := RX0) (T := TX0) (N := 12) hx hb hts in_X6_keep_X0 tyX0 tyX0_ok hown (hts _ wd_X6_keep_1) (hts _ wd_X6_keep_2) (hts _ wd_X6_keep_3) hK hP hD hS hA rfl (fun j hj => by rcases (show j = 0 ∨ j = 1 ∨ j = 2 ∨ j = 3 ∨ j = 4 ∨ j = 5 ∨ j = 6 ∨ j = 7 ∨ j = 8 ∨ j = 9 ∨ j = 10 ∨ j = 11 by omega) with rfl | rfl | rfl | rfl | rfl | rfl | rfl | rfl | rfl | rfl | rfl | rfl <;> rfl) (Nat.le_of_ble_eq_true rfl) (Nat.le_of_ble_eq_true rfl) dX6_keep_23 (fun q_18 H hP hD hS => ?_)
        have hP : va_P (dC, dI) vwCl [(h0, .inr (6, [.ref tp, .int 0, .int 0, .int (-1), .ref rd, .ref gd, .ref im, .ref rw, .ref gn, .ref ho, .ref sq])), (gd, .inr (0, [.ref pl, .int 0, .long 0, .long 0, .int 0, .int (-1), .int 0, .ref gdt, .int 0, .ref gdu, .int 0, .ref gdn])), (pl, .inr (3, [.int 0, .int 0, .int 0, .int 0, .long 0, .ref plf, .ref plo, .ref plb, .ref pla])), (gdt, .inl (ct, 4, .inl (fun _ => 0))), (gdu, .inl (cu, 5, .inl (fun _ => 0))), (gdn, .inl (cn, 99, .inl (fun _ => 0))), (im, .inl (cg, 3, .inr (.inr (.inr (.inr (fun _ => none)))))), (q_18, .inr (0, [.null, .int 0, .long 0, .long 0, .int 0, .int 0, .int 0, .null, .int 0, .null, .int 0, .null]))] H := hP
        have hD : va_D A [(h0, .inr (6, [.ref tp, .int 0, .int 0, .int (-1), .ref rd, .ref gd, .ref im, .ref rw, .ref gn, .ref ho, .ref sq])), (gd, .inr (0, [.ref pl, .int 0, .long 0, .long 0, .int 0, .int (-1), .int 0, .ref gdt, .int 0, .ref gdu, .int 0, .ref gdn])), (pl, .inr (3, [.int 0, .int 0, .int 0, .int 0, .long 0, .ref plf, .ref plo, .ref plb, .ref pla])), (gdt, .inl (ct, 4, .inl (fun _ => 0))), (gdu, .inl (cu, 5, .inl (fun _ => 0))), (gdn, .inl (cn, 99, .inl (fun _ => 0))), (im, .inl (cg, 3, .inr (.inr (.inr (.inr (fun _ => none)))))), (q_18, .inr (0, [.null, .int 0, .long 0, .long 0, .int 0, .int 0, .int 0, .null, .int 0, .null, .int 0, .null]))] := hD
        refine W.widen (k := 1) (n := 12) (by omega) (by omega) ?_
        refine lv_dup hx hb dX6_keep_26 rfl ?_
        have hPc := hP.sub (ws' := [(q_18, .inr (0, [.null, .int 0, .long 0, .long 0, .int 0, .int 0, .int 0, .null, .int 0, .null, .int 0, .null]))]) [7] rfl
        have hDc := hD.sub (ws' := [(q_18, .inr (0, [.null, .int 0, .long 0, .long 0, .int 0, .int 0, .int 0, .null, .int 0, .null, .int 0, .null]))]) [7] (by decide) rfl
        have hKc := hK.sub (tys' := []) [] rfl
        have hFc := va_free (wc := [(q_18, .inr (0, [.null, .int 0, .long 0, .long 0, .int 0, .int 0, .int 0, .null, .int 0, .null, .int 0, .null]))]) hD hS hA [7] rfl
        refine va_callv (va_runIN (As := []) (rest := [.ref q_18]) ⟨hx, hb, hml, hown, hts⟩ (c_X0_init l dC dI H.size q_18 ) ⟨va_cnB 0 hts g_X6_keep_X0_init_n32 rfl rfl rfl hE0.2.2.2.1 (hts _ wd_X6_keep_3) (by decide +kernel) ⟨Nat.le_of_ble_eq_true rfl, Nat.le_of_ble_eq_true rfl⟩, rfl, (hts _ wd_X6_keep_4)⟩ ⟨fun a U g mk q => by obtain ⟨q0, q1, qP, qK, qD, qE0⟩ := q; exact ⟨q0, q1, qP, va_K.moved (u := U) (U := U.calling g mk a) (Vm.Alike.refl U.vm) qK, qD, Kx.same rfl qE0⟩, fun U hU hW => ⟨rfl, by rw [hU], by rw [hU]; exact hPc, va_K.moved hW.alike hKc, hDc.weaken (fun _ _ _ _ => trivial), Kx.warm hW hE0⟩⟩ rfl rfl hl.1 rfl (lv_room (Nat.le_of_ble_eq_true rfl)) dX6_keep_27 ⟨Nat.le_of_ble_eq_true rfl, Nat.le_of_ble_eq_true rfl⟩) hS (fun q _ h => hFc q h) hFc (fun u t H1 locs ht hvm hw_19 hB hz1 hk1 hS => ?_)
        obtain ⟨pl_20, h0t_21, h0u_22, h0n_23, plf_24, plo_25, plb_26, pla_27, ci_28, ct_29, cu_30, cn_31⟩ := u
        obtain ⟨hP1, hK1, hD1⟩ := hB
        have hP1 : va_P (dC, dI) vwCl [(q_18, .inr (0, [.ref pl_20, .int 0, .long 0, .long 0, .int 0, .int (-1), .int 0, .ref h0t_21, .int 0, .ref h0u_22, .int 0, .ref h0n_23])), (pl_20, .inr (3, [.int 0, .int 0, .int 0, .int 0, .long 0, .ref plf_24, .ref plo_25, .ref plb_26, .ref pla_27])), (pla_27, .inl (ci_28, 100, .inl (fun _ => 0))), (h0t_21, .inl (ct_29, 4, .inl (fun _ => 0))), (h0u_22, .inl (cu_30, 5, .inl (fun _ => 0))), (h0n_23, .inl (cn_31, 99, .inl (fun _ => 0)))] t.heap := hP1
        rw [ht] at hP1
        have hK1 : va_K (dC, dI) vwCl [(ci_28, .int), (ct_29, .int), (cu_30, .int), (cn_31, .int)] s := va_K.moved hvm.symm hK1
        try dsimp only at hw_19
        obtain ⟨hP, hD⟩ := va_join (wr := [(h0, .inr (6, [.ref tp, .int 0, .int 0, .int (-1), .ref rd, .ref gd, .ref im, .ref rw, .ref gn, .ref ho, .ref sq])), (gd, .inr (0, [.ref pl, .int 0, .long 0, .long 0, .int 0, .int (-1), .int 0, .ref gdt, .int 0, .ref gdu, .int 0, .ref gdn])), (pl, .inr (3, [.int 0, .int 0, .int 0, .int 0, .long 0, .ref plf, .ref plo, .ref plb, .ref pla])), (gdt, .inl (ct, 4, .inl (fun _ => 0))), (gdu, .inl (cu, 5, .inl (fun _ => 0))), (gdn, .inl (cn, 99, .inl (fun _ => 0))), (im, .inl (cg, 3, .inr (.inr (.inr (.inr (fun _ => none))))))]) (w1 := [(q_18, .inr (0, [.ref pl_20, .int 0, .long 0, .long 0, .int 0, .int (-1), .int 0, .ref h0t_21, .int 0, .ref h0u_22, .int 0, .ref h0n_23])), (pl_20, .inr (3, [.int 0, .int 0, .int 0, .int 0, .long 0, .ref plf_24, .ref plo_25, .ref plb_26, .ref pla_27])), (pla_27, .inl (ci_28, 100, .inl (fun _ => 0))), (h0t_21, .inl (ct_29, 4, .inl (fun _ => 0))), (h0u_22, .inl (cu_30, 5, .inl (fun _ => 0))), (h0n_23, .inl (cn_31, 99, .inl (fun _ => 0)))]) hP hD [7] [0, 1, 2, 3, 4, 5, 6] rfl rfl (by decide) (by decide) hk1 hFc hP1 hD1
        generalize H1 = H at hP hS ⊢
        have hK := hK.app hK1
        have hP : va_P (dC, dI) vwCl [(h0, .inr (6, [.ref tp, .int 0, .int 0, .int (-1), .ref rd, .ref gd, .ref im, .ref rw, .ref gn, .ref ho, .ref sq])), (gd, .inr (0, [.ref pl, .int 0, .long 0, .long 0, .int 0, .int (-1), .int 0, .ref gdt, .int 0, .ref gdu, .int 0, .ref gdn])), (pl, .inr (3, [.int 0, .int 0, .int 0, .int 0, .long 0, .ref plf, .ref plo, .ref plb, .ref pla])), (gdt, .inl (ct, 4, .inl (fun _ => 0))), (gdu, .inl (cu, 5, .inl (fun _ => 0))), (gdn, .inl (cn, 99, .inl (fun _ => 0))), (im, .inl (cg, 3, .inr (.inr (.inr (.inr (fun _ => none)))))), (q_18, .inr (0, [.ref pl_20, .int 0, .long 0, .long 0, .int 0, .int (-1), .int 0, .ref h0t_21, .int 0, .ref h0u_22, .int 0, .ref h0n_23])), (pl_20, .inr (3, [.int 0, .int 0, .int 0, .int 0, .long 0, .ref plf_24, .ref plo_25, .ref plb_26, .ref pla_27])), (pla_27, .inl (ci_28, 100, .inl (fun _ => 0))), (h0t_21, .inl (ct_29, 4, .inl (fun _ => 0))), (h0u_22, .inl (cu_30, 5, .inl (fun _ => 0))), (h0n_23, .inl (cn_31, 99, .inl (fun _ => 0)))] H := hP
        have hD : va_D A [(h0, .inr (6, [.ref tp, .int 0, .int 0, .int (-1), .ref rd, .ref gd, .ref im, .ref rw, .ref gn, .ref ho, .ref sq])), (gd, .inr (0, [.ref pl, .int 0, .long 0, .long 0, .int 0, .int (-1), .int 0, .ref gdt, .int 0, .ref gdu, .int 0, .ref gdn])), (pl, .inr (3, [.int 0, .int 0, .int 0, .int 0, .long 0, .ref plf, .ref plo, .ref plb, .ref pla])), (gdt, .inl (ct, 4, .inl (fun _ => 0))), (gdu, .inl (cu, 5, .inl (fun _ => 0))), (gdn, .inl (cn, 99, .inl (fun _ => 0))), (im, .inl (cg, 3, .inr (.inr (.inr (.inr (fun _ => none)))))), (q_18, .inr (0, [.ref pl_20, .int 0, .long 0, .long 0, .int 0, .int (-1), .int 0, .ref h0t_21, .int 0, .ref h0u_22, .int 0, .ref h0n_23])), (pl_20, .inr (3, [.int 0, .int 0, .int 0, .int 0, .long 0, .ref plf_24, .ref plo_25, .ref plb_26, .ref pla_27])), (pla_27, .inl (ci_28, 100, .inl (fun _ => 0))), (h0t_21, .inl (ct_29, 4, .inl (fun _ => 0))), (h0u_22, .inl (cu_30, 5, .inl (fun _ => 0))), (h0n_23, .inl (cn_31, 99, .inl (fun _ => 0)))] := hD
        have hK : va_K (dC, dI) vwCl [(ct, .int), (cu, .int), (cn, .int), (cg, .object RX0), (ci_28, .int), (ct_29, .int), (cu_30, .int), (cn_31, .int)] s := hK
        refine W.widen (k := 9) (n := 349) (by omega) (by omega) ?_
        refine lv_astore_n (lv' := [(2, .ref q_18), (0, .ref h0), (1, .int 1)]) hx hb dX6_keep_30 rfl hl (by decide) rfl (fun ls hl => ?_)
        refine lv_aload_n hx hb dX6_keep_31 rfl (lv_at hl 1 rfl) ?_
        refine va_get (D := (dC, dI)) (ci := 6) (v := .ref im) (C := RX6) (T := TX6) (N := 11) hx hb hts in_X6_keep_X6 hown hK hP 0 rfl rfl 6 (by decide) (hts _ wd_X6_keep_0) (fun _ h9 => h9) rfl dX6_keep_32 ?_
        refine lv_iload_n hx hb dX6_keep_35 rfl (lv_at hl 2 rfl) ?_
        refine lv_aload_n hx hb dX6_keep_36 rfl (lv_at hl 0 rfl) ?_
        refine va_astq hx hb hK hP hD hS 6 3 7 0 rfl rfl rfl rfl (vp_in_iff.mpr ⟨by decide, by decide⟩) dX6_keep_37 (fun H locs hP hD hS => ?_)
        have hP : va_P (dC, dI) vwCl [(h0, .inr (6, [.ref tp, .int 0, .int 0, .int (-1), .ref rd, .ref gd, .ref im, .ref rw, .ref gn, .ref ho, .ref sq])), (gd, .inr (0, [.ref pl, .int 0, .long 0, .long 0, .int 0, .int (-1), .int 0, .ref gdt, .int 0, .ref gdu, .int 0, .ref gdn])), (pl, .inr (3, [.int 0, .int 0, .int 0, .int 0, .long 0, .ref plf, .ref plo, .ref plb, .ref pla])), (gdt, .inl (ct, 4, .inl (fun _ => 0))), (gdu, .inl (cu, 5, .inl (fun _ => 0))), (gdn, .inl (cn, 99, .inl (fun _ => 0))), (im, .inl (cg, 3, .inr (.inr (.inr (.inr (va_up (fun _ => none) ((1 : Int32)).toNatClampNeg (some q_18))))))), (q_18, .inr (0, [.ref pl_20, .int 0, .long 0, .long 0, .int 0, .int (-1), .int 0, .ref h0t_21, .int 0, .ref h0u_22, .int 0, .ref h0n_23])), (pl_20, .inr (3, [.int 0, .int 0, .int 0, .int 0, .long 0, .ref plf_24, .ref plo_25, .ref plb_26, .ref pla_27])), (pla_27, .inl (ci_28, 100, .inl (fun _ => 0))), (h0t_21, .inl (ct_29, 4, .inl (fun _ => 0))), (h0u_22, .inl (cu_30, 5, .inl (fun _ => 0))), (h0n_23, .inl (cn_31, 99, .inl (fun _ => 0)))] H := hP
        have hD : va_D A [(h0, .inr (6, [.ref tp, .int 0, .int 0, .int (-1), .ref rd, .ref gd, .ref im, .ref rw, .ref gn, .ref ho, .ref sq])), (gd, .inr (0, [.ref pl, .int 0, .long 0, .long 0, .int 0, .int (-1), .int 0, .ref gdt, .int 0, .ref gdu, .int 0, .ref gdn])), (pl, .inr (3, [.int 0, .int 0, .int 0, .int 0, .long 0, .ref plf, .ref plo, .ref plb, .ref pla])), (gdt, .inl (ct, 4, .inl (fun _ => 0))), (gdu, .inl (cu, 5, .inl (fun _ => 0))), (gdn, .inl (cn, 99, .inl (fun _ => 0))), (im, .inl (cg, 3, .inr (.inr (.inr (.inr (va_up (fun _ => none) ((1 : Int32)).toNatClampNeg (some q_18))))))), (q_18, .inr (0, [.ref pl_20, .int 0, .long 0, .long 0, .int 0, .int (-1), .int 0, .ref h0t_21, .int 0, .ref h0u_22, .int 0, .ref h0n_23])), (pl_20, .inr (3, [.int 0, .int 0, .int 0, .int 0, .long 0, .ref plf_24, .ref plo_25, .ref plb_26, .ref pla_27])), (pla_27, .inl (ci_28, 100, .inl (fun _ => 0))), (h0t_21, .inl (ct_29, 4, .inl (fun _ => 0))), (h0u_22, .inl (cu_30, 5, .inl (fun _ => 0))), (h0n_23, .inl (cn_31, 99, .inl (fun _ => 0)))] := hD
        refine lv_aload_n hx hb dX6_keep_38 rfl (lv_at hl 0 rfl) ?_
        refine lv_aload_n hx hb dX6_keep_39 rfl (lv_at hl 1 rfl) ?_
        refine va_get (D := (dC, dI)) (ci := 6) (v := .ref gd) (C := RX6) (T := TX6) (N := 11) hx hb hts in_X6_keep_X6 hown hK hP 0 rfl rfl 5 (by decide) (hts _ wd_X6_keep_5) (fun _ h9 => h9) rfl dX6_keep_40 ?_
        have hPc := hP.sub (ws' := [(q_18, .inr (0, [.ref pl_20, .int 0, .long 0, .long 0, .int 0, .int (-1), .int 0, .ref h0t_21, .int 0, .ref h0u_22, .int 0, .ref h0n_23])), (pl_20, .inr (3, [.int 0, .int 0, .int 0, .int 0, .long 0, .ref plf_24, .ref plo_25, .ref plb_26, .ref pla_27])), (pla_27, .inl (ci_28, 100, .inl (fun _ => 0))), (h0t_21, .inl (ct_29, 4, .inl (fun _ => 0))), (h0u_22, .inl (cu_30, 5, .inl (fun _ => 0))), (h0n_23, .inl (cn_31, 99, .inl (fun _ => 0))), (gd, .inr (0, [.ref pl, .int 0, .long 0, .long 0, .int 0, .int (-1), .int 0, .ref gdt, .int 0, .ref gdu, .int 0, .ref gdn])), (pl, .inr (3, [.int 0, .int 0, .int 0, .int 0, .long 0, .ref plf, .ref plo, .ref plb, .ref pla])), (gdt, .inl (ct, 4, .inl (fun _ => 0))), (gdu, .inl (cu, 5, .inl (fun _ => 0))), (gdn, .inl (cn, 99, .inl (fun _ => 0)))]) [7, 8, 9, 10, 11, 12, 1, 2, 3, 4, 5] rfl
        have hDc := hD.sub (ws' := [(q_18, .inr (0, [.ref pl_20, .int 0, .long 0, .long 0, .int 0, .int (-1), .int 0, .ref h0t_21, .int 0, .ref h0u_22, .int 0, .ref h0n_23])), (pl_20, .inr (3, [.int 0, .int 0, .int 0, .int 0, .long 0, .ref plf_24, .ref plo_25, .ref plb_26, .ref pla_27])), (pla_27, .inl (ci_28, 100, .inl (fun _ => 0))), (h0t_21, .inl (ct_29, 4, .inl (fun _ => 0))), (h0u_22, .inl (cu_30, 5, .inl (fun _ => 0))), (h0n_23, .inl (cn_31, 99, .inl (fun _ => 0))), (gd, .inr (0, [.ref pl, .int 0, .long 0, .long 0, .int 0, .int (-1), .int 0, .ref gdt, .int 0, .ref gdu, .int 0, .ref gdn])), (pl, .inr (3, [.int 0, .int 0, .int 0, .int 0, .long 0, .ref plf, .ref plo, .ref plb, .ref pla])), (gdt, .inl (ct, 4, .inl (fun _ => 0))), (gdu, .inl (cu, 5, .inl (fun _ => 0))), (gdn, .inl (cn, 99, .inl (fun _ => 0)))]) [7, 8, 9, 10, 11, 12, 1, 2, 3, 4, 5] (by decide) rfl
        have hKc := hK.sub (tys' := [(ci_28, .int), (ct_29, .int), (cu_30, .int), (cn_31, .int), (ct, .int), (cu, .int), (cn, .int)]) [4, 5, 6, 7, 0, 1, 2] rfl
        have hFc := va_free (wc := [(q_18, .inr (0, [.ref pl_20, .int 0, .long 0, .long 0, .int 0, .int (-1), .int 0, .ref h0t_21, .int 0, .ref h0u_22, .int 0, .ref h0n_23])), (pl_20, .inr (3, [.int 0, .int 0, .int 0, .int 0, .long 0, .ref plf_24, .ref plo_25, .ref plb_26, .ref pla_27])), (pla_27, .inl (ci_28, 100, .inl (fun _ => 0))), (h0t_21, .inl (ct_29, 4, .inl (fun _ => 0))), (h0u_22, .inl (cu_30, 5, .inl (fun _ => 0))), (h0n_23, .inl (cn_31, 99, .inl (fun _ => 0))), (gd, .inr (0, [.ref pl, .int 0, .long 0, .long 0, .int 0, .int (-1), .int 0, .ref gdt, .int 0, .ref gdu, .int 0, .ref gdn])), (pl, .inr (3, [.int 0, .int 0, .int 0, .int 0, .long 0, .ref plf, .ref plo, .ref plb, .ref pla])), (gdt, .inl (ct, 4, .inl (fun _ => 0))), (gdu, .inl (cu, 5, .inl (fun _ => 0))), (gdn, .inl (cn, 99, .inl (fun _ => 0)))]) hD hS hA [7, 8, 9, 10, 11, 12, 1, 2, 3, 4, 5] rfl
        refine va_callv (va_runV (As := [.ref gd]) (rest := []) ⟨hx, hb, hml, hown, hts⟩ (c_X0_becomeLike l dC dI H.size q_18 pl_20 h0t_21 h0u_22 h0n_23 plf_24 plo_25 plb_26 pla_27 ci_28 ct_29 cu_30 cn_31 ((fun _ => 0 : Nat → Int32)) gd pl gdt gdu gdn plf plo plb pla ct cu cn ) (cwV 1 hts g_X6_keep_X0_becomeLike rfl rfl rfl (by decide +kernel) ⟨Nat.le_of_ble_eq_true rfl, Nat.le_of_ble_eq_true rfl⟩) ⟨fun a U g mk q => by obtain ⟨q0, q1, qP, qK, qD⟩ := q; exact ⟨q0, q1, qP, va_K.moved (u := U) (U := U.calling g mk a) (Vm.Alike.refl U.vm) qK, qD⟩, va_recv hKc hPc (ci := 0) (q0 := 0) rfl rfl, fun U hU hW => ⟨rfl, by rw [hU], by rw [hU]; exact hPc, va_K.moved hW.alike hKc, hDc.weaken (fun _ _ _ _ => trivial)⟩⟩ rfl rfl hl.1 rfl (lv_room (Nat.le_of_ble_eq_true rfl)) dX6_keep_43 ⟨Nat.le_of_ble_eq_true rfl, Nat.le_of_ble_eq_true rfl⟩) hS (fun q _ h => hFc q h) hFc (fun u t H1 locs ht hvm hw_32 hB hz1 hk1 hS => ?_)
        obtain ⟨hP1, hK1, hD1⟩ := hB
        have hP1 : va_P (dC, dI) vwCl [(q_18, .inr (0, [.ref pl_20, .int 0, .long 0, .long 0, .int 0, .int (-1), .int 0, .ref h0t_21, .int 0, .ref h0u_22, .int 0, .ref h0n_23]))] t.heap := hP1
        rw [ht] at hP1
        try dsimp only at hw_32
        obtain ⟨hP, hD⟩ := va_join (wr := [(h0, .inr (6, [.ref tp, .int 0, .int 0, .int (-1), .ref rd, .ref gd, .ref im, .ref rw, .ref gn, .ref ho, .ref sq])), (im, .inl (cg, 3, .inr (.inr (.inr (.inr (va_up (fun _ => none) ((1 : Int32)).toNatClampNeg (some q_18)))))))]) (w1 := [(q_18, .inr (0, [.ref pl_20, .int 0, .long 0, .long 0, .int 0, .int (-1), .int 0, .ref h0t_21, .int 0, .ref h0u_22, .int 0, .ref h0n_23]))]) hP hD [7, 8, 9, 10, 11, 12, 1, 2, 3, 4, 5] [0, 6] rfl rfl (by decide) (by decide) hk1 hFc hP1 hD1
        generalize H1 = H at hP hS ⊢
        have hP : va_P (dC, dI) vwCl [(h0, .inr (6, [.ref tp, .int 0, .int 0, .int (-1), .ref rd, .ref gd, .ref im, .ref rw, .ref gn, .ref ho, .ref sq])), (im, .inl (cg, 3, .inr (.inr (.inr (.inr (va_up (fun _ => none) ((1 : Int32)).toNatClampNeg (some q_18))))))), (q_18, .inr (0, [.ref pl_20, .int 0, .long 0, .long 0, .int 0, .int (-1), .int 0, .ref h0t_21, .int 0, .ref h0u_22, .int 0, .ref h0n_23]))] H := hP
        have hD : va_D A [(h0, .inr (6, [.ref tp, .int 0, .int 0, .int (-1), .ref rd, .ref gd, .ref im, .ref rw, .ref gn, .ref ho, .ref sq])), (im, .inl (cg, 3, .inr (.inr (.inr (.inr (va_up (fun _ => none) ((1 : Int32)).toNatClampNeg (some q_18))))))), (q_18, .inr (0, [.ref pl_20, .int 0, .long 0, .long 0, .int 0, .int (-1), .int 0, .ref h0t_21, .int 0, .ref h0u_22, .int 0, .ref h0n_23]))] := hD
        refine lv_iconst (v := 0) hx hb dX6_keep_46 (by decide) ?_
        refine W.widen (k := 9) (n := 349) (by omega) (by omega) ?_
        exact W.iret (v := 0) hx hb hr (fun t ht hW => ⟨⟨0, (), rfl, (by first | rfl | ((repeat' split) <;> (first | rfl | (exfalso; omega)))), trivial⟩, hS.F ht⟩) hS.2.2 dX6_keep_47
      · refine lv_aload_n hx hb dX6_keep_12 rfl (lv_at hl 0 rfl) ?_
        refine va_get (D := (dC, dI)) (ci := 6) (v := .ref im) (C := RX6) (T := TX6) (N := 11) hx hb hts in_X6_keep_X6 hown hK hP 0 rfl rfl 6 (by decide) (hts _ wd_X6_keep_0) (fun _ h9 => h9) rfl dX6_keep_13 ?_
        refine lv_iload_n hx hb dX6_keep_16 rfl (lv_at hl 1 rfl) ?_
        refine va_aldq hx hb hK hP 6 3 rfl rfl (vp_in_iff.mpr ⟨by decide, by decide⟩) dX6_keep_17 ?_
        refine W.eq (g2 := F0 m 18 ls (.null :: [])) rfl ?_
        refine lv_astore_nN (lv' := [(2, .null), (0, .ref h0), (1, .int 2)]) hx hb dX6_keep_18 rfl hl (by decide) rfl (fun ls hl => ?_)
        refine lv_aload_nN hx hb dX6_keep_19 rfl (lv_at hl 0 rfl) ?_
        refine lv_ifnonnullN hx hb dX6_keep_20 ?_
        refine va_new (ci := 0) (fs := [.null, .int 0, .long 0, .long 0, .int 0, .int 0, .int 0, .null, .int 0, .null, .int 0, .null]) (C := RX0) (T := TX0) (N := 12) hx hb hts in_X6_keep_X0 tyX0 tyX0_ok hown (hts _ wd_X6_keep_1) (hts _ wd_X6_keep_2) (hts _ wd_X6_keep_3) hK hP hD hS hA rfl (fun j hj => by rcases (show j = 0 ∨ j = 1 ∨ j = 2 ∨ j = 3 ∨ j = 4 ∨ j = 5 ∨ j = 6 ∨ j = 7 ∨ j = 8 ∨ j = 9 ∨ j = 10 ∨ j = 11 by omega) with rfl | rfl | rfl | rfl | rfl | rfl | rfl | rfl | rfl | rfl | rfl | rfl <;> rfl) (Nat.le_of_ble_eq_true rfl) (Nat.le_of_ble_eq_true rfl) dX6_keep_23 (fun q_33 H hP hD hS => ?_)
        have hP : va_P (dC, dI) vwCl [(h0, .inr (6, [.ref tp, .int 0, .int 0, .int (-1), .ref rd, .ref gd, .ref im, .ref rw, .ref gn, .ref ho, .ref sq])), (gd, .inr (0, [.ref pl, .int 0, .long 0, .long 0, .int 0, .int (-1), .int 0, .ref gdt, .int 0, .ref gdu, .int 0, .ref gdn])), (pl, .inr (3, [.int 0, .int 0, .int 0, .int 0, .long 0, .ref plf, .ref plo, .ref plb, .ref pla])), (gdt, .inl (ct, 4, .inl (fun _ => 0))), (gdu, .inl (cu, 5, .inl (fun _ => 0))), (gdn, .inl (cn, 99, .inl (fun _ => 0))), (im, .inl (cg, 3, .inr (.inr (.inr (.inr (fun _ => none)))))), (q_33, .inr (0, [.null, .int 0, .long 0, .long 0, .int 0, .int 0, .int 0, .null, .int 0, .null, .int 0, .null]))] H := hP
        have hD : va_D A [(h0, .inr (6, [.ref tp, .int 0, .int 0, .int (-1), .ref rd, .ref gd, .ref im, .ref rw, .ref gn, .ref ho, .ref sq])), (gd, .inr (0, [.ref pl, .int 0, .long 0, .long 0, .int 0, .int (-1), .int 0, .ref gdt, .int 0, .ref gdu, .int 0, .ref gdn])), (pl, .inr (3, [.int 0, .int 0, .int 0, .int 0, .long 0, .ref plf, .ref plo, .ref plb, .ref pla])), (gdt, .inl (ct, 4, .inl (fun _ => 0))), (gdu, .inl (cu, 5, .inl (fun _ => 0))), (gdn, .inl (cn, 99, .inl (fun _ => 0))), (im, .inl (cg, 3, .inr (.inr (.inr (.inr (fun _ => none)))))), (q_33, .inr (0, [.null, .int 0, .long 0, .long 0, .int 0, .int 0, .int 0, .null, .int 0, .null, .int 0, .null]))] := hD
        refine W.widen (k := 1) (n := 12) (by omega) (by omega) ?_
        refine lv_dup hx hb dX6_keep_26 rfl ?_
        have hPc := hP.sub (ws' := [(q_33, .inr (0, [.null, .int 0, .long 0, .long 0, .int 0, .int 0, .int 0, .null, .int 0, .null, .int 0, .null]))]) [7] rfl
        have hDc := hD.sub (ws' := [(q_33, .inr (0, [.null, .int 0, .long 0, .long 0, .int 0, .int 0, .int 0, .null, .int 0, .null, .int 0, .null]))]) [7] (by decide) rfl
        have hKc := hK.sub (tys' := []) [] rfl
        have hFc := va_free (wc := [(q_33, .inr (0, [.null, .int 0, .long 0, .long 0, .int 0, .int 0, .int 0, .null, .int 0, .null, .int 0, .null]))]) hD hS hA [7] rfl
        refine va_callv (va_runIN (As := []) (rest := [.ref q_33]) ⟨hx, hb, hml, hown, hts⟩ (c_X0_init l dC dI H.size q_33 ) ⟨va_cnB 0 hts g_X6_keep_X0_init_n32 rfl rfl rfl hE0.2.2.2.1 (hts _ wd_X6_keep_3) (by decide +kernel) ⟨Nat.le_of_ble_eq_true rfl, Nat.le_of_ble_eq_true rfl⟩, rfl, (hts _ wd_X6_keep_4)⟩ ⟨fun a U g mk q => by obtain ⟨q0, q1, qP, qK, qD, qE0⟩ := q; exact ⟨q0, q1, qP, va_K.moved (u := U) (U := U.calling g mk a) (Vm.Alike.refl U.vm) qK, qD, Kx.same rfl qE0⟩, fun U hU hW => ⟨rfl, by rw [hU], by rw [hU]; exact hPc, va_K.moved hW.alike hKc, hDc.weaken (fun _ _ _ _ => trivial), Kx.warm hW hE0⟩⟩ rfl rfl hl.1 rfl (lv_room (Nat.le_of_ble_eq_true rfl)) dX6_keep_27 ⟨Nat.le_of_ble_eq_true rfl, Nat.le_of_ble_eq_true rfl⟩) hS (fun q _ h => hFc q h) hFc (fun u t H1 locs ht hvm hw_34 hB hz1 hk1 hS => ?_)
        obtain ⟨pl_35, h0t_36, h0u_37, h0n_38, plf_39, plo_40, plb_41, pla_42, ci_43, ct_44, cu_45, cn_46⟩ := u
        obtain ⟨hP1, hK1, hD1⟩ := hB
        have hP1 : va_P (dC, dI) vwCl [(q_33, .inr (0, [.ref pl_35, .int 0, .long 0, .long 0, .int 0, .int (-1), .int 0, .ref h0t_36, .int 0, .ref h0u_37, .int 0, .ref h0n_38])), (pl_35, .inr (3, [.int 0, .int 0, .int 0, .int 0, .long 0, .ref plf_39, .ref plo_40, .ref plb_41, .ref pla_42])), (pla_42, .inl (ci_43, 100, .inl (fun _ => 0))), (h0t_36, .inl (ct_44, 4, .inl (fun _ => 0))), (h0u_37, .inl (cu_45, 5, .inl (fun _ => 0))), (h0n_38, .inl (cn_46, 99, .inl (fun _ => 0)))] t.heap := hP1
        rw [ht] at hP1
        have hK1 : va_K (dC, dI) vwCl [(ci_43, .int), (ct_44, .int), (cu_45, .int), (cn_46, .int)] s := va_K.moved hvm.symm hK1
        try dsimp only at hw_34
        obtain ⟨hP, hD⟩ := va_join (wr := [(h0, .inr (6, [.ref tp, .int 0, .int 0, .int (-1), .ref rd, .ref gd, .ref im, .ref rw, .ref gn, .ref ho, .ref sq])), (gd, .inr (0, [.ref pl, .int 0, .long 0, .long 0, .int 0, .int (-1), .int 0, .ref gdt, .int 0, .ref gdu, .int 0, .ref gdn])), (pl, .inr (3, [.int 0, .int 0, .int 0, .int 0, .long 0, .ref plf, .ref plo, .ref plb, .ref pla])), (gdt, .inl (ct, 4, .inl (fun _ => 0))), (gdu, .inl (cu, 5, .inl (fun _ => 0))), (gdn, .inl (cn, 99, .inl (fun _ => 0))), (im, .inl (cg, 3, .inr (.inr (.inr (.inr (fun _ => none))))))]) (w1 := [(q_33, .inr (0, [.ref pl_35, .int 0, .long 0, .long 0, .int 0, .int (-1), .int 0, .ref h0t_36, .int 0, .ref h0u_37, .int 0, .ref h0n_38])), (pl_35, .inr (3, [.int 0, .int 0, .int 0, .int 0, .long 0, .ref plf_39, .ref plo_40, .ref plb_41, .ref pla_42])), (pla_42, .inl (ci_43, 100, .inl (fun _ => 0))), (h0t_36, .inl (ct_44, 4, .inl (fun _ => 0))), (h0u_37, .inl (cu_45, 5, .inl (fun _ => 0))), (h0n_38, .inl (cn_46, 99, .inl (fun _ => 0)))]) hP hD [7] [0, 1, 2, 3, 4, 5, 6] rfl rfl (by decide) (by decide) hk1 hFc hP1 hD1
        generalize H1 = H at hP hS ⊢
        have hK := hK.app hK1
        have hP : va_P (dC, dI) vwCl [(h0, .inr (6, [.ref tp, .int 0, .int 0, .int (-1), .ref rd, .ref gd, .ref im, .ref rw, .ref gn, .ref ho, .ref sq])), (gd, .inr (0, [.ref pl, .int 0, .long 0, .long 0, .int 0, .int (-1), .int 0, .ref gdt, .int 0, .ref gdu, .int 0, .ref gdn])), (pl, .inr (3, [.int 0, .int 0, .int 0, .int 0, .long 0, .ref plf, .ref plo, .ref plb, .ref pla])), (gdt, .inl (ct, 4, .inl (fun _ => 0))), (gdu, .inl (cu, 5, .inl (fun _ => 0))), (gdn, .inl (cn, 99, .inl (fun _ => 0))), (im, .inl (cg, 3, .inr (.inr (.inr (.inr (fun _ => none)))))), (q_33, .inr (0, [.ref pl_35, .int 0, .long 0, .long 0, .int 0, .int (-1), .int 0, .ref h0t_36, .int 0, .ref h0u_37, .int 0, .ref h0n_38])), (pl_35, .inr (3, [.int 0, .int 0, .int 0, .int 0, .long 0, .ref plf_39, .ref plo_40, .ref plb_41, .ref pla_42])), (pla_42, .inl (ci_43, 100, .inl (fun _ => 0))), (h0t_36, .inl (ct_44, 4, .inl (fun _ => 0))), (h0u_37, .inl (cu_45, 5, .inl (fun _ => 0))), (h0n_38, .inl (cn_46, 99, .inl (fun _ => 0)))] H := hP
        have hD : va_D A [(h0, .inr (6, [.ref tp, .int 0, .int 0, .int (-1), .ref rd, .ref gd, .ref im, .ref rw, .ref gn, .ref ho, .ref sq])), (gd, .inr (0, [.ref pl, .int 0, .long 0, .long 0, .int 0, .int (-1), .int 0, .ref gdt, .int 0, .ref gdu, .int 0, .ref gdn])), (pl, .inr (3, [.int 0, .int 0, .int 0, .int 0, .long 0, .ref plf, .ref plo, .ref plb, .ref pla])), (gdt, .inl (ct, 4, .inl (fun _ => 0))), (gdu, .inl (cu, 5, .inl (fun _ => 0))), (gdn, .inl (cn, 99, .inl (fun _ => 0))), (im, .inl (cg, 3, .inr (.inr (.inr (.inr (fun _ => none)))))), (q_33, .inr (0, [.ref pl_35, .int 0, .long 0, .long 0, .int 0, .int (-1), .int 0, .ref h0t_36, .int 0, .ref h0u_37, .int 0, .ref h0n_38])), (pl_35, .inr (3, [.int 0, .int 0, .int 0, .int 0, .long 0, .ref plf_39, .ref plo_40, .ref plb_41, .ref pla_42])), (pla_42, .inl (ci_43, 100, .inl (fun _ => 0))), (h0t_36, .inl (ct_44, 4, .inl (fun _ => 0))), (h0u_37, .inl (cu_45, 5, .inl (fun _ => 0))), (h0n_38, .inl (cn_46, 99, .inl (fun _ => 0)))] := hD
        have hK : va_K (dC, dI) vwCl [(ct, .int), (cu, .int), (cn, .int), (cg, .object RX0), (ci_43, .int), (ct_44, .int), (cu_45, .int), (cn_46, .int)] s := hK
        refine W.widen (k := 9) (n := 349) (by omega) (by omega) ?_
        refine lv_astore_n (lv' := [(2, .ref q_33), (0, .ref h0), (1, .int 2)]) hx hb dX6_keep_30 rfl hl (by decide) rfl (fun ls hl => ?_)
        refine lv_aload_n hx hb dX6_keep_31 rfl (lv_at hl 1 rfl) ?_
        refine va_get (D := (dC, dI)) (ci := 6) (v := .ref im) (C := RX6) (T := TX6) (N := 11) hx hb hts in_X6_keep_X6 hown hK hP 0 rfl rfl 6 (by decide) (hts _ wd_X6_keep_0) (fun _ h9 => h9) rfl dX6_keep_32 ?_
        refine lv_iload_n hx hb dX6_keep_35 rfl (lv_at hl 2 rfl) ?_
        refine lv_aload_n hx hb dX6_keep_36 rfl (lv_at hl 0 rfl) ?_
        refine va_astq hx hb hK hP hD hS 6 3 7 0 rfl rfl rfl rfl (vp_in_iff.mpr ⟨by decide, by decide⟩) dX6_keep_37 (fun H locs hP hD hS => ?_)
        have hP : va_P (dC, dI) vwCl [(h0, .inr (6, [.ref tp, .int 0, .int 0, .int (-1), .ref rd, .ref gd, .ref im, .ref rw, .ref gn, .ref ho, .ref sq])), (gd, .inr (0, [.ref pl, .int 0, .long 0, .long 0, .int 0, .int (-1), .int 0, .ref gdt, .int 0, .ref gdu, .int 0, .ref gdn])), (pl, .inr (3, [.int 0, .int 0, .int 0, .int 0, .long 0, .ref plf, .ref plo, .ref plb, .ref pla])), (gdt, .inl (ct, 4, .inl (fun _ => 0))), (gdu, .inl (cu, 5, .inl (fun _ => 0))), (gdn, .inl (cn, 99, .inl (fun _ => 0))), (im, .inl (cg, 3, .inr (.inr (.inr (.inr (va_up (fun _ => none) ((2 : Int32)).toNatClampNeg (some q_33))))))), (q_33, .inr (0, [.ref pl_35, .int 0, .long 0, .long 0, .int 0, .int (-1), .int 0, .ref h0t_36, .int 0, .ref h0u_37, .int 0, .ref h0n_38])), (pl_35, .inr (3, [.int 0, .int 0, .int 0, .int 0, .long 0, .ref plf_39, .ref plo_40, .ref plb_41, .ref pla_42])), (pla_42, .inl (ci_43, 100, .inl (fun _ => 0))), (h0t_36, .inl (ct_44, 4, .inl (fun _ => 0))), (h0u_37, .inl (cu_45, 5, .inl (fun _ => 0))), (h0n_38, .inl (cn_46, 99, .inl (fun _ => 0)))] H := hP
        have hD : va_D A [(h0, .inr (6, [.ref tp, .int 0, .int 0, .int (-1), .ref rd, .ref gd, .ref im, .ref rw, .ref gn, .ref ho, .ref sq])), (gd, .inr (0, [.ref pl, .int 0, .long 0, .long 0, .int 0, .int (-1), .int 0, .ref gdt, .int 0, .ref gdu, .int 0, .ref gdn])), (pl, .inr (3, [.int 0, .int 0, .int 0, .int 0, .long 0, .ref plf, .ref plo, .ref plb, .ref pla])), (gdt, .inl (ct, 4, .inl (fun _ => 0))), (gdu, .inl (cu, 5, .inl (fun _ => 0))), (gdn, .inl (cn, 99, .inl (fun _ => 0))), (im, .inl (cg, 3, .inr (.inr (.inr (.inr (va_up (fun _ => none) ((2 : Int32)).toNatClampNeg (some q_33))))))), (q_33, .inr (0, [.ref pl_35, .int 0, .long 0, .long 0, .int 0, .int (-1), .int 0, .ref h0t_36, .int 0, .ref h0u_37, .int 0, .ref h0n_38])), (pl_35, .inr (3, [.int 0, .int 0, .int 0, .int 0, .long 0, .ref plf_39, .ref plo_40, .ref plb_41, .ref pla_42])), (pla_42, .inl (ci_43, 100, .inl (fun _ => 0))), (h0t_36, .inl (ct_44, 4, .inl (fun _ => 0))), (h0u_37, .inl (cu_45, 5, .inl (fun _ => 0))), (h0n_38, .inl (cn_46, 99, .inl (fun _ => 0)))] := hD
        refine lv_aload_n hx hb dX6_keep_38 rfl (lv_at hl 0 rfl) ?_
        refine lv_aload_n hx hb dX6_keep_39 rfl (lv_at hl 1 rfl) ?_
        refine va_get (D := (dC, dI)) (ci := 6) (v := .ref gd) (C := RX6) (T := TX6) (N := 11) hx hb hts in_X6_keep_X6 hown hK hP 0 rfl rfl 5 (by decide) (hts _ wd_X6_keep_5) (fun _ h9 => h9) rfl dX6_keep_40 ?_
        have hPc := hP.sub (ws' := [(q_33, .inr (0, [.ref pl_35, .int 0, .long 0, .long 0, .int 0, .int (-1), .int 0, .ref h0t_36, .int 0, .ref h0u_37, .int 0, .ref h0n_38])), (pl_35, .inr (3, [.int 0, .int 0, .int 0, .int 0, .long 0, .ref plf_39, .ref plo_40, .ref plb_41, .ref pla_42])), (pla_42, .inl (ci_43, 100, .inl (fun _ => 0))), (h0t_36, .inl (ct_44, 4, .inl (fun _ => 0))), (h0u_37, .inl (cu_45, 5, .inl (fun _ => 0))), (h0n_38, .inl (cn_46, 99, .inl (fun _ => 0))), (gd, .inr (0, [.ref pl, .int 0, .long 0, .long 0, .int 0, .int (-1), .int 0, .ref gdt, .int 0, .ref gdu, .int 0, .ref gdn])), (pl, .inr (3, [.int 0, .int 0, .int 0, .int 0, .long 0, .ref plf, .ref plo, .ref plb, .ref pla])), (gdt, .inl (ct, 4, .inl (fun _ => 0))), (gdu, .inl (cu, 5, .inl (fun _ => 0))), (gdn, .inl (cn, 99, .inl (fun _ => 0)))]) [7, 8, 9, 10, 11, 12, 1, 2, 3, 4, 5] rfl
        have hDc := hD.sub (ws' := [(q_33, .inr (0, [.ref pl_35, .int 0, .long 0, .long 0, .int 0, .int (-1), .int 0, .ref h0t_36, .int 0, .ref h0u_37, .int 0, .ref h0n_38])), (pl_35, .inr (3, [.int 0, .int 0, .int 0, .int 0, .long 0, .ref plf_39, .ref plo_40, .ref plb_41, .ref pla_42])), (pla_42, .inl (ci_43, 100, .inl (fun _ => 0))), (h0t_36, .inl (ct_44, 4, .inl (fun _ => 0))), (h0u_37, .inl (cu_45, 5, .inl (fun _ => 0))), (h0n_38, .inl (cn_46, 99, .inl (fun _ => 0))), (gd, .inr (0, [.ref pl, .int 0, .long 0, .long 0, .int 0, .int (-1), .int 0, .ref gdt, .int 0, .ref gdu, .int 0, .ref gdn])), (pl, .inr (3, [.int 0, .int 0, .int 0, .int 0, .long 0, .ref plf, .ref plo, .ref plb, .ref pla])), (gdt, .inl (ct, 4, .inl (fun _ => 0))), (gdu, .inl (cu, 5, .inl (fun _ => 0))), (gdn, .inl (cn, 99, .inl (fun _ => 0)))]) [7, 8, 9, 10, 11, 12, 1, 2, 3, 4, 5] (by decide) rfl
        have hKc := hK.sub (tys' := [(ci_43, .int), (ct_44, .int), (cu_45, .int), (cn_46, .int), (ct, .int), (cu, .int), (cn, .int)]) [4, 5, 6, 7, 0, 1, 2] rfl
        have hFc := va_free (wc := [(q_33, .inr (0, [.ref pl_35, .int 0, .long 0, .long 0, .int 0, .int (-1), .int 0, .ref h0t_36, .int 0, .ref h0u_37, .int 0, .ref h0n_38])), (pl_35, .inr (3, [.int 0, .int 0, .int 0, .int 0, .long 0, .ref plf_39, .ref plo_40, .ref plb_41, .ref pla_42])), (pla_42, .inl (ci_43, 100, .inl (fun _ => 0))), (h0t_36, .inl (ct_44, 4, .inl (fun _ => 0))), (h0u_37, .inl (cu_45, 5, .inl (fun _ => 0))), (h0n_38, .inl (cn_46, 99, .inl (fun _ => 0))), (gd, .inr (0, [.ref pl, .int 0, .long 0, .long 0, .int 0, .int (-1), .int 0, .ref gdt, .int 0, .ref gdu, .int 0, .ref gdn])), (pl, .inr (3, [.int 0, .int 0, .int 0, .int 0, .long 0, .ref plf, .ref plo, .ref plb, .ref pla])), (gdt, .inl (ct, 4, .inl (fun _ => 0))), (gdu, .inl (cu, 5, .inl (fun _ => 0))), (gdn, .inl (cn, 99, .inl (fun _ => 0)))]) hD hS hA [7, 8, 9, 10, 11, 12, 1, 2, 3, 4, 5] rfl
        refine va_callv (va_runV (As := [.ref gd]) (rest := []) ⟨hx, hb, hml, hown, hts⟩ (c_X0_becomeLike l dC dI H.size q_33 pl_35 h0t_36 h0u_37 h0n_38 plf_39 plo_40 plb_41 pla_42 ci_43 ct_44 cu_45 cn_46 ((fun _ => 0 : Nat → Int32)) gd pl gdt gdu gdn plf plo plb pla ct cu cn ) (cwV 1 hts g_X6_keep_X0_becomeLike rfl rfl rfl (by decide +kernel) ⟨Nat.le_of_ble_eq_true rfl, Nat.le_of_ble_eq_true rfl⟩) ⟨fun a U g mk q => by obtain ⟨q0, q1, qP, qK, qD⟩ := q; exact ⟨q0, q1, qP, va_K.moved (u := U) (U := U.calling g mk a) (Vm.Alike.refl U.vm) qK, qD⟩, va_recv hKc hPc (ci := 0) (q0 := 0) rfl rfl, fun U hU hW => ⟨rfl, by rw [hU], by rw [hU]; exact hPc, va_K.moved hW.alike hKc, hDc.weaken (fun _ _ _ _ => trivial)⟩⟩ rfl rfl hl.1 rfl (lv_room (Nat.le_of_ble_eq_true rfl)) dX6_keep_43 ⟨Nat.le_of_ble_eq_true rfl, Nat.le_of_ble_eq_true rfl⟩) hS (fun q _ h => hFc q h) hFc (fun u t H1 locs ht hvm hw_47 hB hz1 hk1 hS => ?_)
        obtain ⟨hP1, hK1, hD1⟩ := hB
        have hP1 : va_P (dC, dI) vwCl [(q_33, .inr (0, [.ref pl_35, .int 0, .long 0, .long 0, .int 0, .int (-1), .int 0, .ref h0t_36, .int 0, .ref h0u_37, .int 0, .ref h0n_38]))] t.heap := hP1
        rw [ht] at hP1
        try dsimp only at hw_47
        obtain ⟨hP, hD⟩ := va_join (wr := [(h0, .inr (6, [.ref tp, .int 0, .int 0, .int (-1), .ref rd, .ref gd, .ref im, .ref rw, .ref gn, .ref ho, .ref sq])), (im, .inl (cg, 3, .inr (.inr (.inr (.inr (va_up (fun _ => none) ((2 : Int32)).toNatClampNeg (some q_33)))))))]) (w1 := [(q_33, .inr (0, [.ref pl_35, .int 0, .long 0, .long 0, .int 0, .int (-1), .int 0, .ref h0t_36, .int 0, .ref h0u_37, .int 0, .ref h0n_38]))]) hP hD [7, 8, 9, 10, 11, 12, 1, 2, 3, 4, 5] [0, 6] rfl rfl (by decide) (by decide) hk1 hFc hP1 hD1
        generalize H1 = H at hP hS ⊢
        have hP : va_P (dC, dI) vwCl [(h0, .inr (6, [.ref tp, .int 0, .int 0, .int (-1), .ref rd, .ref gd, .ref im, .ref rw, .ref gn, .ref ho, .ref sq])), (im, .inl (cg, 3, .inr (.inr (.inr (.inr (va_up (fun _ => none) ((2 : Int32)).toNatClampNeg (some q_33))))))), (q_33, .inr (0, [.ref pl_35, .int 0, .long 0, .long 0, .int 0, .int (-1), .int 0, .ref h0t_36, .int 0, .ref h0u_37, .int 0, .ref h0n_38]))] H := hP
        have hD : va_D A [(h0, .inr (6, [.ref tp, .int 0, .int 0, .int (-1), .ref rd, .ref gd, .ref im, .ref rw, .ref gn, .ref ho, .ref sq])), (im, .inl (cg, 3, .inr (.inr (.inr (.inr (va_up (fun _ => none) ((2 : Int32)).toNatClampNeg (some q_33))))))), (q_33, .inr (0, [.ref pl_35, .int 0, .long 0, .long 0, .int 0, .int (-1), .int 0, .ref h0t_36, .int 0, .ref h0u_37, .int 0, .ref h0n_38]))] := hD
        refine lv_iconst (v := 0) hx hb dX6_keep_46 (by decide) ?_
        refine W.widen (k := 9) (n := 349) (by omega) (by omega) ?_
        exact W.iret (v := 0) hx hb hr (fun t ht hW => ⟨⟨0, (), rfl, (by first | rfl | ((repeat' split) <;> (first | rfl | (exfalso; omega)))), trivial⟩, hS.F ht⟩) hS.2.2 dX6_keep_47
    · have c_2 : 3 ≤ p0.toInt := i_nlt (a := p0) (b := 3) rfl (by decide) c_2
      refine lv_bipush (v := -2) hx hb dX6_keep_9 (by decide) ?_
      refine W.widen (k := 9) (n := 349) (by omega) (by omega) ?_
      exact W.iret (v := -2) hx hb hr (fun t ht hW => ⟨⟨(-2), (), rfl, (by first | rfl | ((repeat' split) <;> (first | rfl | (exfalso; omega)))), trivial⟩, hS.F ht⟩) hS.2.2 dX6_keep_11

theorem dX6_back_0 : decode cX6_back 0 = .ok (.iload_n 1, 1) := by decide +kernel
theorem dX6_back_1 : decode cX6_back 1 = .ok (.ifCond .lt 8, 3) := by decide +kernel
theorem dX6_back_4 : decode cX6_back 4 = .ok (.iload_n 1, 1) := by decide +kernel
theorem dX6_back_5 : decode cX6_back 5 = .ok (.iconst 3, 1) := by decide +kernel
theorem dX6_back_6 : decode cX6_back 6 = .ok (.if_icmp .lt 6, 3) := by decide +kernel
theorem dX6_back_9 : decode cX6_back 9 = .ok (.bipush (-2), 2) := by decide +kernel
theorem dX6_back_11 : decode cX6_back 11 = .ok (.ireturn, 1) := by decide +kernel
theorem dX6_back_12 : decode cX6_back 12 = .ok (.aload_n 0, 1) := by decide +kernel
theorem dX6_back_13 : decode cX6_back 13 = .ok (.getfield 37, 3) := by decide +kernel
theorem dX6_back_16 : decode cX6_back 16 = .ok (.iload_n 1, 1) := by decide +kernel
theorem dX6_back_17 : decode cX6_back 17 = .ok (.aaload, 1) := by decide +kernel
theorem dX6_back_18 : decode cX6_back 18 = .ok (.astore_n 2, 1) := by decide +kernel
theorem dX6_back_19 : decode cX6_back 19 = .ok (.aload_n 2, 1) := by decide +kernel
theorem dX6_back_20 : decode cX6_back 20 = .ok (.ifnonnull 6, 3) := by decide +kernel
theorem dX6_back_23 : decode cX6_back 23 = .ok (.bipush (-6), 2) := by decide +kernel
theorem dX6_back_25 : decode cX6_back 25 = .ok (.ireturn, 1) := by decide +kernel
def wz_X6_back : List Cond := .code yX6_back cX6_back 3 (some .int) :: ([Cond.fieldLink RX6 37 "HedgeMaze" "images" "[LHedgeMaze$Garden;"] ++ wsX60)
theorem wd_X6_back_0 : Cond.fieldLink RX6 37 "HedgeMaze" "images" "[LHedgeMaze$Garden;" ∈ wz_X6_back := List.mem_of_getElem? (i := 1) rfl
theorem in_X6_back_X6 : ∀ w ∈ wsX60, w ∈ wz_X6_back := fun _ h => List.mem_cons_of_mem _ (List.mem_append_right _ h)
set_option maxHeartbeats 4000000 in
set_option maxRecDepth 100000 in
theorem c_X6_back (l : Launch) (dC : Nat → ClassId) (dI : Nat → Nat → Nat) (sz : Nat) (h0 : Nat) (tp : Nat) (rd : Nat) (gd : Nat) (im : Nat) (rw : Nat) (gn : Nat) (ho : Nat) (sq : Nat) (cg : ClassId) (p0 : Int32)  : Met l yX6_back wz_X6_back ({ frames := 0, cells := 0, slots := 0, locals := 0 }) (va_Pc [.ref h0, .int p0] (fun U => U.heap.size = sz ∧ va_P (dC, dI) vwCl [(h0, .inr (6, [.ref tp, .int 0, .int 0, .int (-1), .ref rd, .ref gd, .ref im, .ref rw, .ref gn, .ref ho, .ref sq])), (im, .inl (cg, 3, .inr (.inr (.inr (.inr (fun _ => none))))))] U.heap ∧ va_K (dC, dI) vwCl [(cg, .object RX0)] U ∧ va_D (fun _ => True) [(h0, .inr (6, [.ref tp, .int 0, .int 0, .int (-1), .ref rd, .ref gd, .ref im, .ref rw, .ref gn, .ref ho, .ref sq])), (im, .inl (cg, 3, .inr (.inr (.inr (.inr (fun _ => none))))))])) (va_Qi (fun (r : Int32) (u : Unit) => r = if 0 ≤ p0.toInt ∧ p0.toInt ≤ 2 then -6 else -2) (fun (_ : Unit) (_ : State) => True) (va_A [(h0, .inr (6, [.ref tp, .int 0, .int 0, .int (-1), .ref rd, .ref gd, .ref im, .ref rw, .ref gn, .ref ho, .ref sq])), (im, .inl (cg, 3, .inr (.inr (.inr (.inr (fun _ => none))))))] sz)) 0 0 (va_A [(h0, .inr (6, [.ref tp, .int 0, .int 0, .int (-1), .ref rd, .ref gd, .ref im, .ref rw, .ref gn, .ref ho, .ref sq])), (im, .inl (cg, 3, .inr (.inr (.inr (.inr (fun _ => none))))))] sz) := by
  refine Met.ofW (cc := cX6_back) (maxL := 3) (ret := (some .int)) (by decide) rfl ?_
  intro p e s m args below meth c s₁ B hml hv
  obtain ⟨rfl, hsz, hP, hK, hD0⟩ := hv
  have hx := B.exec
  have hb := B.bytes
  have hr := B.returns
  have hts := atoms_spec (ws := wz_X6_back) B.pre
  have hown : s.vm.findClass RX6 = some m.cls := findClass_of_methodNamed B.named
  have hlocks := B.notSynchronized
  subst hsz
  have hD := hD0.self (sz := s.heap.size)
  generalize hAe : va_A [(h0, .inr (6, [.ref tp, .int 0, .int 0, .int (-1), .ref rd, .ref gd, .ref im, .ref rw, .ref gn, .ref ho, .ref sq])), (im, .inl (cg, 3, .inr (.inr (.inr (.inr (fun _ => none))))))] s.heap.size = A at hD ⊢
  have hA : ∀ q : Nat, s.heap.size ≤ q → A q := fun q h => by rw [← hAe]; exact Or.inr h
  have hS : va_S A s.heap s.heap [] := va_S.rf
  have hP : va_P (dC, dI) vwCl [(h0, .inr (6, [.ref tp, .int 0, .int 0, .int (-1), .ref rd, .ref gd, .ref im, .ref rw, .ref gn, .ref ho, .ref sq])), (im, .inl (cg, 3, .inr (.inr (.inr (.inr (fun _ => none))))))] s.heap := hP
  have hl := lv_entry ([.ref h0, .int p0]) (n := 3) (Nat.le_of_ble_eq_true rfl)
  rw [lg_entry_eq]
  generalize (lg_sl ([.ref h0, .int p0]) ++ List.replicate (3 - (lg_sl ([.ref h0, .int p0])).length) Slot.unset).toArray = ls at hl ⊢
  have hl : lv_has ls 3 [(0, .ref h0), (1, .int p0)] := hl
  refine lv_iload_n hx hb dX6_back_0 rfl (lv_at hl 1 rfl) ?_
  refine lv_if_lt (tgt := 9) hx hb dX6_back_1 (by decide) (fun c_1 => ?_) (fun c_1 => ?_)
  · have c_1 : p0.toInt < 0 := i_lt (a := p0) (b := 0) rfl (by decide) c_1
    refine lv_bipush (v := -2) hx hb dX6_back_9 (by decide) ?_
    refine W.widen (k := 0) (n := 0) (by omega) (by omega) ?_
    exact W.iret (v := -2) hx hb hr (fun t ht hW => ⟨⟨(-2), (), rfl, (by first | rfl | ((repeat' split) <;> (first | rfl | (exfalso; omega)))), trivial⟩, hS.F ht⟩) hS.2.2 dX6_back_11
  · have c_1 : 0 ≤ p0.toInt := i_nlt (a := p0) (b := 0) rfl (by decide) c_1
    refine lv_iload_n hx hb dX6_back_4 rfl (lv_at hl 1 rfl) ?_
    refine lv_iconst (v := 3) hx hb dX6_back_5 (by decide) ?_
    refine lv_icmp_lt (tgt := 12) hx hb dX6_back_6 (by decide) (fun c_2 => ?_) (fun c_2 => ?_)
    · have c_2 : p0.toInt < 3 := i_lt (a := p0) (b := 3) rfl (by decide) c_2
      refine lv_aload_n hx hb dX6_back_12 rfl (lv_at hl 0 rfl) ?_
      refine va_get (D := (dC, dI)) (ci := 6) (v := .ref im) (C := RX6) (T := TX6) (N := 11) hx hb hts in_X6_back_X6 hown hK hP 0 rfl rfl 6 (by decide) (hts _ wd_X6_back_0) (fun _ h9 => h9) rfl dX6_back_13 ?_
      refine lv_iload_n hx hb dX6_back_16 rfl (lv_at hl 1 rfl) ?_
      refine va_aldq hx hb hK hP 1 0 rfl rfl (i_in rfl (by omega) (by omega)) dX6_back_17 ?_
      refine W.eq (g2 := F0 m 18 ls (.null :: [])) rfl ?_
      refine lv_astore_nN (lv' := [(2, .null), (0, .ref h0), (1, .int p0)]) hx hb dX6_back_18 rfl hl (by decide) rfl (fun ls hl => ?_)
      refine lv_aload_nN hx hb dX6_back_19 rfl (lv_at hl 0 rfl) ?_
      refine lv_ifnonnullN hx hb dX6_back_20 ?_
      refine lv_bipush (v := -6) hx hb dX6_back_23 (by decide) ?_
      refine W.widen (k := 0) (n := 0) (by omega) (by omega) ?_
      exact W.iret (v := -6) hx hb hr (fun t ht hW => ⟨⟨(-6), (), rfl, (by first | rfl | ((repeat' split) <;> (first | rfl | (exfalso; omega)))), trivial⟩, hS.F ht⟩) hS.2.2 dX6_back_25
    · have c_2 : 3 ≤ p0.toInt := i_nlt (a := p0) (b := 3) rfl (by decide) c_2
      refine lv_bipush (v := -2) hx hb dX6_back_9 (by decide) ?_
      refine W.widen (k := 0) (n := 0) (by omega) (by omega) ?_
      exact W.iret (v := -2) hx hb hr (fun t ht hW => ⟨⟨(-2), (), rfl, (by first | rfl | ((repeat' split) <;> (first | rfl | (exfalso; omega)))), trivial⟩, hS.F ht⟩) hS.2.2 dX6_back_11

theorem dX4_advance_0 : decode cX4_advance 0 = .ok (.aload_n 0, 1) := by decide +kernel
theorem dX4_advance_1 : decode cX4_advance 1 = .ok (.getfield 38, 3) := by decide +kernel
theorem dX4_advance_4 : decode cX4_advance 4 = .ok (.istore_n 1, 1) := by decide +kernel
theorem dX4_advance_5 : decode cX4_advance 5 = .ok (.iload_n 1, 1) := by decide +kernel
theorem dX4_advance_6 : decode cX4_advance 6 = .ok (.aload_n 0, 1) := by decide +kernel
theorem dX4_advance_7 : decode cX4_advance 7 = .ok (.getfield 29, 3) := by decide +kernel
theorem dX4_advance_10 : decode cX4_advance 10 = .ok (.if_icmp .ge 21, 3) := by decide +kernel
theorem dX4_advance_31 : decode cX4_advance 31 = .ok (.aload_n 0, 1) := by decide +kernel
theorem dX4_advance_32 : decode cX4_advance 32 = .ok (.iload_n 1, 1) := by decide +kernel
theorem dX4_advance_33 : decode cX4_advance 33 = .ok (.putfield 35, 3) := by decide +kernel
theorem dX4_advance_36 : decode cX4_advance 36 = .ok (.aload_n 0, 1) := by decide +kernel
theorem dX4_advance_37 : decode cX4_advance 37 = .ok (.iload_n 1, 1) := by decide +kernel
theorem dX4_advance_38 : decode cX4_advance 38 = .ok (.aload_n 0, 1) := by decide +kernel
theorem dX4_advance_39 : decode cX4_advance 39 = .ok (.getfield 29, 3) := by decide +kernel
theorem dX4_advance_42 : decode cX4_advance 42 = .ok (.if_icmp .ge 14, 3) := by decide +kernel
theorem dX4_advance_56 : decode cX4_advance 56 = .ok (.iconst 0, 1) := by decide +kernel
theorem dX4_advance_57 : decode cX4_advance 57 = .ok (.putfield 32, 3) := by decide +kernel
theorem dX4_advance_60 : decode cX4_advance 60 = .ok (.aload_n 0, 1) := by decide +kernel
theorem dX4_advance_61 : decode cX4_advance 61 = .ok (.getfield 32, 3) := by decide +kernel
theorem dX4_advance_64 : decode cX4_advance 64 = .ok (.iconst 1, 1) := by decide +kernel
theorem dX4_advance_65 : decode cX4_advance 65 = .ok (.if_icmp .eq 11, 3) := by decide +kernel
theorem dX4_advance_68 : decode cX4_advance 68 = .ok (.aload_n 0, 1) := by decide +kernel
theorem dX4_advance_69 : decode cX4_advance 69 = .ok (.getfield 32, 3) := by decide +kernel
theorem dX4_advance_72 : decode cX4_advance 72 = .ok (.iconst 2, 1) := by decide +kernel
theorem dX4_advance_73 : decode cX4_advance 73 = .ok (.if_icmp .ne 7, 3) := by decide +kernel
theorem dX4_advance_80 : decode cX4_advance 80 = .ok (.iconst 0, 1) := by decide +kernel
theorem dX4_advance_81 : decode cX4_advance 81 = .ok (.istore_n 2, 1) := by decide +kernel
theorem dX4_advance_82 : decode cX4_advance 82 = .ok (.iload_n 2, 1) := by decide +kernel
theorem dX4_advance_83 : decode cX4_advance 83 = .ok (.ifCond .eq 10, 3) := by decide +kernel
theorem dX4_advance_93 : decode cX4_advance 93 = .ok (.iload_n 1, 1) := by decide +kernel
theorem dX4_advance_94 : decode cX4_advance 94 = .ok (.iconst 1, 1) := by decide +kernel
theorem dX4_advance_95 : decode cX4_advance 95 = .ok (.iadd, 1) := by decide +kernel
theorem dX4_advance_96 : decode cX4_advance 96 = .ok (.aload_n 0, 1) := by decide +kernel
theorem dX4_advance_97 : decode cX4_advance 97 = .ok (.getfield 29, 3) := by decide +kernel
theorem dX4_advance_100 : decode cX4_advance 100 = .ok (.invokestatic 48, 3) := by decide +kernel
theorem dX4_advance_103 : decode cX4_advance 103 = .ok (.istore_n 3, 1) := by decide +kernel
theorem dX4_advance_104 : decode cX4_advance 104 = .ok (.iload_n 1, 1) := by decide +kernel
theorem dX4_advance_105 : decode cX4_advance 105 = .ok (.iload_n 3, 1) := by decide +kernel
theorem dX4_advance_106 : decode cX4_advance 106 = .ok (.if_icmp .ge 24, 3) := by decide +kernel
theorem dX4_advance_130 : decode cX4_advance 130 = .ok (.aload_n 0, 1) := by decide +kernel
theorem dX4_advance_131 : decode cX4_advance 131 = .ok (.iload_n 1, 1) := by decide +kernel
theorem dX4_advance_132 : decode cX4_advance 132 = .ok (.putfield 38, 3) := by decide +kernel
theorem dX4_advance_135 : decode cX4_advance 135 = .ok (.return_, 1) := by decide +kernel
def wz_X4_advance : List Cond := .code yX4_advance cX4_advance 4 none :: ([Cond.fieldLink RX4 38 "HedgeMaze$Reader" "tokenEnd" "I", Cond.fieldLink RX4 29 "HedgeMaze$Reader" "tapeSize" "I", Cond.fieldLink RX4 35 "HedgeMaze$Reader" "tokenStart" "I", Cond.fieldLink RX4 32 "HedgeMaze$Reader" "kind" "I", Cond.methodLink RX4 48 Lib.Math.min.name, Cond.static Lib.Math.min.name, Cond.initialized "java/lang/Math", Cond.code Lib.Math.min.name Lib.Math.min.code 2 (some .int)] ++ wsX40)
theorem wd_X4_advance_0 : Cond.fieldLink RX4 38 "HedgeMaze$Reader" "tokenEnd" "I" ∈ wz_X4_advance := List.mem_of_getElem? (i := 1) rfl
theorem wd_X4_advance_1 : Cond.fieldLink RX4 29 "HedgeMaze$Reader" "tapeSize" "I" ∈ wz_X4_advance := List.mem_of_getElem? (i := 2) rfl
theorem wd_X4_advance_2 : Cond.fieldLink RX4 35 "HedgeMaze$Reader" "tokenStart" "I" ∈ wz_X4_advance := List.mem_of_getElem? (i := 3) rfl
theorem wd_X4_advance_3 : Cond.fieldLink RX4 32 "HedgeMaze$Reader" "kind" "I" ∈ wz_X4_advance := List.mem_of_getElem? (i := 4) rfl
theorem wd_X4_advance_4 : Cond.methodLink RX4 48 Lib.Math.min.name ∈ wz_X4_advance := List.mem_of_getElem? (i := 5) rfl
theorem wd_X4_advance_5 : Cond.static Lib.Math.min.name ∈ wz_X4_advance := List.mem_of_getElem? (i := 6) rfl
theorem wd_X4_advance_6 : Cond.initialized "java/lang/Math" ∈ wz_X4_advance := List.mem_of_getElem? (i := 7) rfl
theorem wd_X4_advance_7 : Cond.code Lib.Math.min.name Lib.Math.min.code 2 (some .int) ∈ wz_X4_advance := List.mem_of_getElem? (i := 8) rfl
theorem in_X4_advance_X4 : ∀ w ∈ wsX40, w ∈ wz_X4_advance := fun _ h => List.mem_cons_of_mem _ (List.mem_append_right _ h)
set_option maxHeartbeats 4000000 in
set_option maxRecDepth 100000 in
/-- advance() at the end of an empty TAPE -/
theorem c_X4_advance (l : Launch) (dC : Nat → ClassId) (dI : Nat → Nat → Nat) (sz : Nat) (h0 : Nat) (dg : Nat) (tp : Nat)  : Met l yX4_advance wz_X4_advance ({ frames := 1, cells := 0, slots := 0, locals := 40 }) (va_Pc [.ref h0] (fun U => U.heap.size = sz ∧ va_P (dC, dI) vwCl [(h0, .inr (4, [.ref dg, .int 0, .int (-1), .ref tp, .int 0, .int 0, .int 0, .int 0, .int 0, .int 0]))] U.heap ∧ va_K (dC, dI) vwCl [] U ∧ va_D (fun _ => True) [(h0, .inr (4, [.ref dg, .int 0, .int (-1), .ref tp, .int 0, .int 0, .int 0, .int 0, .int 0, .int 0]))])) (va_Qv (fun (u : Unit) => True) (fun (u : Unit) (t : State) => va_P (dC, dI) vwCl [(h0, .inr (4, [.ref dg, .int 0, .int (-1), .ref tp, .int 0, .int 0, .int 0, .int 0, .int 0, .int 0]))] t.heap ∧ va_K (dC, dI) vwCl [] t ∧ va_D (va_A [(h0, .inr (4, [.ref dg, .int 0, .int (-1), .ref tp, .int 0, .int 0, .int 0, .int 0, .int 0, .int 0]))] sz) [(h0, .inr (4, [.ref dg, .int 0, .int (-1), .ref tp, .int 0, .int 0, .int 0, .int 0, .int 0, .int 0]))]) (va_A [(h0, .inr (4, [.ref dg, .int 0, .int (-1), .ref tp, .int 0, .int 0, .int 0, .int 0, .int 0, .int 0]))] sz)) 0 0 (va_A [(h0, .inr (4, [.ref dg, .int 0, .int (-1), .ref tp, .int 0, .int 0, .int 0, .int 0, .int 0, .int 0]))] sz) := by
  refine Met.ofW (cc := cX4_advance) (maxL := 4) (ret := none) (by decide) rfl ?_
  intro p e s m args below meth c s₁ B hml hv
  obtain ⟨rfl, hsz, hP, hK, hD0⟩ := hv
  have hx := B.exec
  have hb := B.bytes
  have hr := B.returns
  have hts := atoms_spec (ws := wz_X4_advance) B.pre
  have hown : s.vm.findClass RX4 = some m.cls := findClass_of_methodNamed B.named
  have hlocks := B.notSynchronized
  subst hsz
  have hD := hD0.self (sz := s.heap.size)
  generalize hAe : va_A [(h0, .inr (4, [.ref dg, .int 0, .int (-1), .ref tp, .int 0, .int 0, .int 0, .int 0, .int 0, .int 0]))] s.heap.size = A at hD ⊢
  have hA : ∀ q : Nat, s.heap.size ≤ q → A q := fun q h => by rw [← hAe]; exact Or.inr h
  have hS : va_S A s.heap s.heap [] := va_S.rf
  have hP : va_P (dC, dI) vwCl [(h0, .inr (4, [.ref dg, .int 0, .int (-1), .ref tp, .int 0, .int 0, .int 0, .int 0, .int 0, .int 0]))] s.heap := hP
  have hl := lv_entry ([.ref h0]) (n := 4) (Nat.le_of_ble_eq_true rfl)
  rw [lg_entry_eq]
  generalize (lg_sl ([.ref h0]) ++ List.replicate (4 - (lg_sl ([.ref h0])).length) Slot.unset).toArray = ls at hl ⊢
  have hl : lv_has ls 4 [(0, .ref h0)] := hl
  refine lv_aload_n hx hb dX4_advance_0 rfl (lv_at hl 0 rfl) ?_
  refine va_get (D := (dC, dI)) (ci := 4) (v := .int 0) (C := RX4) (T := TX4) (N := 10) hx hb hts in_X4_advance_X4 hown hK hP 0 rfl rfl 7 (by decide) (hts _ wd_X4_advance_0) (fun _ h9 => h9) rfl dX4_advance_1 ?_
  refine lv_istore_n (lv' := [(1, .int 0), (0, .ref h0)]) hx hb dX4_advance_4 rfl hl (by decide) rfl (fun ls hl => ?_)
  refine lv_iload_n hx hb dX4_advance_5 rfl (lv_at hl 0 rfl) ?_
  refine lv_aload_n hx hb dX4_advance_6 rfl (lv_at hl 1 rfl) ?_
  refine va_get (D := (dC, dI)) (ci := 4) (v := .int 0) (C := RX4) (T := TX4) (N := 10) hx hb hts in_X4_advance_X4 hown hK hP 0 rfl rfl 4 (by decide) (hts _ wd_X4_advance_1) (fun _ h9 => h9) rfl dX4_advance_7 ?_
  refine lv_icmp_ge (tgt := 31) hx hb dX4_advance_10 (by decide) (fun _ => ?_) (fun h => absurd (by decide) h)
  refine lv_aload_n hx hb dX4_advance_31 rfl (lv_at hl 1 rfl) ?_
  refine lv_iload_n hx hb dX4_advance_32 rfl (lv_at hl 0 rfl) ?_
  refine va_put (D := (dC, dI)) (ci := 4) (v := .int 0) (ty := .int) (C := RX4) (T := TX4) (N := 10) hx hb hts in_X4_advance_X4 tyX4 tyX4_ok nmX4 hown hK hP hD hS 0 rfl rfl 6 (by decide) (hts _ wd_X4_advance_2) (fun _ h9 => h9) rfl (by decide +kernel) rfl rfl (Nat.le_of_ble_eq_true rfl) dX4_advance_33 (fun H locs hP hD hS => ?_)
  have hP : va_P (dC, dI) vwCl [(h0, .inr (4, [.ref dg, .int 0, .int (-1), .ref tp, .int 0, .int 0, .int 0, .int 0, .int 0, .int 0]))] H := hP
  have hD : va_D A [(h0, .inr (4, [.ref dg, .int 0, .int (-1), .ref tp, .int 0, .int 0, .int 0, .int 0, .int 0, .int 0]))] := hD
  refine lv_aload_n hx hb dX4_advance_36 rfl (lv_at hl 1 rfl) ?_
  refine lv_iload_n hx hb dX4_advance_37 rfl (lv_at hl 0 rfl) ?_
  refine lv_aload_n hx hb dX4_advance_38 rfl (lv_at hl 1 rfl) ?_
  refine va_get (D := (dC, dI)) (ci := 4) (v := .int 0) (C := RX4) (T := TX4) (N := 10) hx hb hts in_X4_advance_X4 hown hK hP 0 rfl rfl 4 (by decide) (hts _ wd_X4_advance_1) (fun _ h9 => h9) rfl dX4_advance_39 ?_
  refine lv_icmp_ge (tgt := 56) hx hb dX4_advance_42 (by decide) (fun _ => ?_) (fun h => absurd (by decide) h)
  refine lv_iconst (v := 0) hx hb dX4_advance_56 (by decide) ?_
  refine va_put (D := (dC, dI)) (ci := 4) (v := .int 0) (ty := .int) (C := RX4) (T := TX4) (N := 10) hx hb hts in_X4_advance_X4 tyX4 tyX4_ok nmX4 hown hK hP hD hS 0 rfl rfl 5 (by decide) (hts _ wd_X4_advance_3) (fun _ h9 => h9) rfl (by decide +kernel) rfl rfl (Nat.le_of_ble_eq_true rfl) dX4_advance_57 (fun H locs hP hD hS => ?_)
  have hP : va_P (dC, dI) vwCl [(h0, .inr (4, [.ref dg, .int 0, .int (-1), .ref tp, .int 0, .int 0, .int 0, .int 0, .int 0, .int 0]))] H := hP
  have hD : va_D A [(h0, .inr (4, [.ref dg, .int 0, .int (-1), .ref tp, .int 0, .int 0, .int 0, .int 0, .int 0, .int 0]))] := hD
  refine lv_aload_n hx hb dX4_advance_60 rfl (lv_at hl 1 rfl) ?_
  refine va_get (D := (dC, dI)) (ci := 4) (v := .int 0) (C := RX4) (T := TX4) (N := 10) hx hb hts in_X4_advance_X4 hown hK hP 0 rfl rfl 5 (by decide) (hts _ wd_X4_advance_3) (fun _ h9 => h9) rfl dX4_advance_61 ?_
  refine lv_iconst (v := 1) hx hb dX4_advance_64 (by decide) ?_
  refine lv_icmp_eq (tgt := 76) hx hb dX4_advance_65 (by decide) (fun h => absurd h (by decide)) (fun _ => ?_)
  refine lv_aload_n hx hb dX4_advance_68 rfl (lv_at hl 1 rfl) ?_
  refine va_get (D := (dC, dI)) (ci := 4) (v := .int 0) (C := RX4) (T := TX4) (N := 10) hx hb hts in_X4_advance_X4 hown hK hP 0 rfl rfl 5 (by decide) (hts _ wd_X4_advance_3) (fun _ h9 => h9) rfl dX4_advance_69 ?_
  refine lv_iconst (v := 2) hx hb dX4_advance_72 (by decide) ?_
  refine lv_icmp_ne (tgt := 80) hx hb dX4_advance_73 (by decide) (fun _ => ?_) (fun h => absurd h (by decide))
  refine lv_iconst (v := 0) hx hb dX4_advance_80 (by decide) ?_
  refine lv_istore_n (lv' := [(2, .int 0), (1, .int 0), (0, .ref h0)]) hx hb dX4_advance_81 rfl hl (by decide) rfl (fun ls hl => ?_)
  refine lv_iload_n hx hb dX4_advance_82 rfl (lv_at hl 0 rfl) ?_
  refine lv_if_eq (tgt := 93) hx hb dX4_advance_83 (by decide) (fun _ => ?_) (fun h => absurd (by decide) h)
  refine lv_iload_n hx hb dX4_advance_93 rfl (lv_at hl 1 rfl) ?_
  refine lv_iconst (v := 1) hx hb dX4_advance_94 (by decide) ?_
  refine lv_iadd hx hb dX4_advance_95 ?_
  refine lv_topi (fun z_6 ez_6 => ?_)
  obtain rfl : z_6 = 1 := ez_6.trans (by decide)
  refine lv_aload_n hx hb dX4_advance_96 rfl (lv_at hl 2 rfl) ?_
  refine va_get (D := (dC, dI)) (ci := 4) (v := .int 0) (C := RX4) (T := TX4) (N := 10) hx hb hts in_X4_advance_X4 hown hK hP 0 rfl rfl 4 (by decide) (hts _ wd_X4_advance_1) (fun _ h9 => h9) rfl dX4_advance_97 ?_
  refine va_mmin hx hb (hml.trans hl.1.symm) hown (hts _ wd_X4_advance_4) (hts _ wd_X4_advance_5) (hts _ wd_X4_advance_6) (hts _ wd_X4_advance_7) (Nat.le_of_ble_eq_true rfl) (Nat.le_of_ble_eq_true rfl) (Nat.le_of_ble_eq_true rfl) (Nat.le_of_ble_eq_true rfl) dX4_advance_100 ?_
  refine lv_topi (fun z_7 ez_7 => ?_)
  obtain rfl : z_7 = 0 := ez_7.trans (by decide)
  refine lv_istore_n (lv' := [(3, .int 0), (2, .int 0), (1, .int 0), (0, .ref h0)]) hx hb dX4_advance_103 rfl hl (by decide) rfl (fun ls hl => ?_)
  refine lv_iload_n hx hb dX4_advance_104 rfl (lv_at hl 2 rfl) ?_
  refine lv_iload_n hx hb dX4_advance_105 rfl (lv_at hl 0 rfl) ?_
  refine lv_icmp_ge (tgt := 130) hx hb dX4_advance_106 (by decide) (fun _ => ?_) (fun h => absurd (by decide) h)
  refine lv_aload_n hx hb dX4_advance_130 rfl (lv_at hl 3 rfl) ?_
  refine lv_iload_n hx hb dX4_advance_131 rfl (lv_at hl 2 rfl) ?_
  refine va_put (D := (dC, dI)) (ci := 4) (v := .int 0) (ty := .int) (C := RX4) (T := TX4) (N := 10) hx hb hts in_X4_advance_X4 tyX4 tyX4_ok nmX4 hown hK hP hD hS 0 rfl rfl 7 (by decide) (hts _ wd_X4_advance_0) (fun _ h9 => h9) rfl (by decide +kernel) rfl rfl (Nat.le_of_ble_eq_true rfl) dX4_advance_132 (fun H locs hP hD hS => ?_)
  have hP : va_P (dC, dI) vwCl [(h0, .inr (4, [.ref dg, .int 0, .int (-1), .ref tp, .int 0, .int 0, .int 0, .int 0, .int 0, .int 0]))] H := hP
  have hD : va_D A [(h0, .inr (4, [.ref dg, .int 0, .int (-1), .ref tp, .int 0, .int 0, .int 0, .int 0, .int 0, .int 0]))] := hD
  have hP9 := hP.sub (ws' := [(h0, .inr (4, [.ref dg, .int 0, .int (-1), .ref tp, .int 0, .int 0, .int 0, .int 0, .int 0, .int 0]))]) [0] rfl
  have hD9 := hD.sub (ws' := [(h0, .inr (4, [.ref dg, .int 0, .int (-1), .ref tp, .int 0, .int 0, .int 0, .int 0, .int 0, .int 0]))]) [0] (by decide) rfl
  have hK9 := hK.sub (tys' := []) [] rfl
  refine W.widen (k := 0) (n := 0) (by omega) (by omega) ?_
  exact W.vret hx hb hr (fun t ht hW => ⟨⟨(), rfl, trivial, by rw [ht]; exact hP9, va_K.moved hW.alike hK9, hD9⟩, hS.F ht⟩) hS.2.2 dX4_advance_135

theorem dX4_readTape_0 : decode cX4_readTape 0 = .ok (.aload_n 0, 1) := by decide +kernel
theorem dX4_readTape_1 : decode cX4_readTape 1 = .ok (.aload_n 1, 1) := by decide +kernel
theorem dX4_readTape_2 : decode cX4_readTape 2 = .ok (.putfield 25, 3) := by decide +kernel
theorem dX4_readTape_5 : decode cX4_readTape 5 = .ok (.aload_n 0, 1) := by decide +kernel
theorem dX4_readTape_6 : decode cX4_readTape 6 = .ok (.aload_n 1, 1) := by decide +kernel
theorem dX4_readTape_7 : decode cX4_readTape 7 = .ok (.ifnonnull 7, 3) := by decide +kernel
theorem dX4_readTape_14 : decode cX4_readTape 14 = .ok (.iload_n 2, 1) := by decide +kernel
theorem dX4_readTape_15 : decode cX4_readTape 15 = .ok (.aload_n 1, 1) := by decide +kernel
theorem dX4_readTape_16 : decode cX4_readTape 16 = .ok (.arraylength, 1) := by decide +kernel
theorem dX4_readTape_17 : decode cX4_readTape 17 = .ok (.invokestatic 48, 3) := by decide +kernel
theorem dX4_readTape_20 : decode cX4_readTape 20 = .ok (.putfield 29, 3) := by decide +kernel
theorem dX4_readTape_23 : decode cX4_readTape 23 = .ok (.aload_n 0, 1) := by decide +kernel
theorem dX4_readTape_24 : decode cX4_readTape 24 = .ok (.iconst 0, 1) := by decide +kernel
theorem dX4_readTape_25 : decode cX4_readTape 25 = .ok (.putfield 18, 3) := by decide +kernel
theorem dX4_readTape_28 : decode cX4_readTape 28 = .ok (.aload_n 0, 1) := by decide +kernel
theorem dX4_readTape_29 : decode cX4_readTape 29 = .ok (.iconst (-1), 1) := by decide +kernel
theorem dX4_readTape_30 : decode cX4_readTape 30 = .ok (.putfield 22, 3) := by decide +kernel
theorem dX4_readTape_33 : decode cX4_readTape 33 = .ok (.aload_n 0, 1) := by decide +kernel
theorem dX4_readTape_34 : decode cX4_readTape 34 = .ok (.iconst 0, 1) := by decide +kernel
theorem dX4_readTape_35 : decode cX4_readTape 35 = .ok (.putfield 38, 3) := by decide +kernel
theorem dX4_readTape_38 : decode cX4_readTape 38 = .ok (.aload_n 0, 1) := by decide +kernel
theorem dX4_readTape_39 : decode cX4_readTape 39 = .ok (.iconst 0, 1) := by decide +kernel
theorem dX4_readTape_40 : decode cX4_readTape 40 = .ok (.putfield 44, 3) := by decide +kernel
theorem dX4_readTape_43 : decode cX4_readTape 43 = .ok (.aload_n 0, 1) := by decide +kernel
theorem dX4_readTape_44 : decode cX4_readTape 44 = .ok (.getfield 12, 3) := by decide +kernel
theorem dX4_readTape_47 : decode cX4_readTape 47 = .ok (.invokevirtual 54, 3) := by decide +kernel
theorem dX4_readTape_50 : decode cX4_readTape 50 = .ok (.aload_n 0, 1) := by decide +kernel
theorem dX4_readTape_51 : decode cX4_readTape 51 = .ok (.invokevirtual 57, 3) := by decide +kernel
theorem dX4_readTape_54 : decode cX4_readTape 54 = .ok (.iconst 0, 1) := by decide +kernel
theorem dX4_readTape_55 : decode cX4_readTape 55 = .ok (.istore_n 3, 1) := by decide +kernel
theorem dX4_readTape_56 : decode cX4_readTape 56 = .ok (.iload_n 3, 1) := by decide +kernel
theorem dX4_readTape_57 : decode cX4_readTape 57 = .ok (.sipush 1600, 3) := by decide +kernel
theorem dX4_readTape_60 : decode cX4_readTape 60 = .ok (.if_icmp .ge 27, 3) := by decide +kernel
theorem dX4_readTape_63 : decode cX4_readTape 63 = .ok (.aload_n 0, 1) := by decide +kernel
theorem dX4_readTape_64 : decode cX4_readTape 64 = .ok (.getfield 18, 3) := by decide +kernel
theorem dX4_readTape_67 : decode cX4_readTape 67 = .ok (.ifCond .ne 20, 3) := by decide +kernel
theorem dX4_readTape_70 : decode cX4_readTape 70 = .ok (.aload_n 0, 1) := by decide +kernel
theorem dX4_readTape_71 : decode cX4_readTape 71 = .ok (.getfield 32, 3) := by decide +kernel
theorem dX4_readTape_74 : decode cX4_readTape 74 = .ok (.ifCond .eq 13, 3) := by decide +kernel
theorem dX4_readTape_87 : decode cX4_readTape 87 = .ok (.aload_n 0, 1) := by decide +kernel
theorem dX4_readTape_88 : decode cX4_readTape 88 = .ok (.getfield 18, 3) := by decide +kernel
theorem dX4_readTape_91 : decode cX4_readTape 91 = .ok (.ifCond .ne 42, 3) := by decide +kernel
theorem dX4_readTape_94 : decode cX4_readTape 94 = .ok (.aload_n 0, 1) := by decide +kernel
theorem dX4_readTape_95 : decode cX4_readTape 95 = .ok (.getfield 12, 3) := by decide +kernel
theorem dX4_readTape_98 : decode cX4_readTape 98 = .ok (.getfield 63, 3) := by decide +kernel
theorem dX4_readTape_101 : decode cX4_readTape 101 = .ok (.ifCond .le 32, 3) := by decide +kernel
theorem dX4_readTape_133 : decode cX4_readTape 133 = .ok (.return_, 1) := by decide +kernel
def wz_X4_readTape : List Cond := .code yX4_readTape cX4_readTape 4 none :: ([Cond.fieldLink RX4 25 "HedgeMaze$Reader" "tape" "[B", Cond.methodLink RX4 48 Lib.Math.min.name, Cond.static Lib.Math.min.name, Cond.initialized "java/lang/Math", Cond.code Lib.Math.min.name Lib.Math.min.code 2 (some .int), Cond.fieldLink RX4 29 "HedgeMaze$Reader" "tapeSize" "I", Cond.fieldLink RX4 18 "HedgeMaze$Reader" "faultNumber" "I", Cond.fieldLink RX4 22 "HedgeMaze$Reader" "faultPlace" "I", Cond.fieldLink RX4 38 "HedgeMaze$Reader" "tokenEnd" "I", Cond.fieldLink RX4 44 "HedgeMaze$Reader" "hasLaw" "Z", Cond.fieldLink RX4 12 "HedgeMaze$Reader" "draft" "LHedgeMaze$Garden;", Cond.fieldLink RX4 32 "HedgeMaze$Reader" "kind" "I", Cond.fieldLink RX4 63 "HedgeMaze$Garden" "lines" "I", Cond.methodLink RX4 54 yX0_clear, Cond.instanceMethod yX0_clear, Cond.selects RX0 yX0_clear yX0_clear, Cond.initialized RX0, Cond.code yX0_clear cX0_clear 1 none, Cond.fieldLink RX0 12 "HedgeMaze$Garden" "plan" "LHedgeMaze$Plan;", Cond.fieldLink RX0 18 "HedgeMaze$Garden" "lines" "I", Cond.fieldLink RX0 22 "HedgeMaze$Garden" "hedges" "J", Cond.fieldLink RX0 26 "HedgeMaze$Garden" "walls" "J", Cond.fieldLink RX0 29 "HedgeMaze$Garden" "isNear" "Z", Cond.fieldLink RX0 33 "HedgeMaze$Garden" "letterCell" "I", Cond.fieldLink RX0 36 "HedgeMaze$Garden" "gateCount" "I", Cond.fieldLink RX0 43 "HedgeMaze$Garden" "guestCount" "I", Cond.fieldLink RX0 49 "HedgeMaze$Garden" "goneCount" "I", Cond.methodLink RX0 55 yX3_lay, Cond.instanceMethod yX3_lay, Cond.selects RX3 yX3_lay yX3_lay, Cond.initialized RX3, Cond.code yX3_lay cX3_lay 6 none, Cond.methodLink RX3 42 Lib.Math.min.name, Cond.fieldLink RX3 9 "HedgeMaze$Plan" "wide" "I", Cond.fieldLink RX3 15 "HedgeMaze$Plan" "deep" "I", Cond.fieldLink RX3 18 "HedgeMaze$Plan" "cellCount" "I", Cond.fieldLink RX3 21 "HedgeMaze$Plan" "sideCount" "I", Cond.fieldLink RX3 24 "HedgeMaze$Plan" "allSides" "J", Cond.fieldLink RX3 39 "HedgeMaze$Plan" "around" "[I", Cond.methodLink RX3 48 yJ7_fill_53178, Cond.static yJ7_fill_53178, Cond.initialized RJ7, Cond.code yJ7_fill_53178 cJ7_fill_53178 4 none, Cond.methodLink RX4 57 yX4_advance, Cond.instanceMethod yX4_advance, Cond.selects RX4 yX4_advance yX4_advance, Cond.initialized RX4, Cond.code yX4_advance cX4_advance 4 none, Cond.fieldLink RX4 35 "HedgeMaze$Reader" "tokenStart" "I"] ++ wsX40 ++ wsX00 ++ wsX30)
theorem wd_X4_readTape_0 : Cond.fieldLink RX4 25 "HedgeMaze$Reader" "tape" "[B" ∈ wz_X4_readTape := List.mem_of_getElem? (i := 1) rfl
theorem wd_X4_readTape_1 : Cond.methodLink RX4 48 Lib.Math.min.name ∈ wz_X4_readTape := List.mem_of_getElem? (i := 2) rfl
theorem wd_X4_readTape_2 : Cond.static Lib.Math.min.name ∈ wz_X4_readTape := List.mem_of_getElem? (i := 3) rfl
theorem wd_X4_readTape_3 : Cond.initialized "java/lang/Math" ∈ wz_X4_readTape := List.mem_of_getElem? (i := 4) rfl
theorem wd_X4_readTape_4 : Cond.code Lib.Math.min.name Lib.Math.min.code 2 (some .int) ∈ wz_X4_readTape := List.mem_of_getElem? (i := 5) rfl
theorem wd_X4_readTape_5 : Cond.fieldLink RX4 29 "HedgeMaze$Reader" "tapeSize" "I" ∈ wz_X4_readTape := List.mem_of_getElem? (i := 6) rfl
theorem wd_X4_readTape_6 : Cond.fieldLink RX4 18 "HedgeMaze$Reader" "faultNumber" "I" ∈ wz_X4_readTape := List.mem_of_getElem? (i := 7) rfl
theorem wd_X4_readTape_7 : Cond.fieldLink RX4 22 "HedgeMaze$Reader" "faultPlace" "I" ∈ wz_X4_readTape := List.mem_of_getElem? (i := 8) rfl
theorem wd_X4_readTape_8 : Cond.fieldLink RX4 38 "HedgeMaze$Reader" "tokenEnd" "I" ∈ wz_X4_readTape := List.mem_of_getElem? (i := 9) rfl
theorem wd_X4_readTape_9 : Cond.fieldLink RX4 44 "HedgeMaze$Reader" "hasLaw" "Z" ∈ wz_X4_readTape := List.mem_of_getElem? (i := 10) rfl
theorem wd_X4_readTape_10 : Cond.fieldLink RX4 12 "HedgeMaze$Reader" "draft" "LHedgeMaze$Garden;" ∈ wz_X4_readTape := List.mem_of_getElem? (i := 11) rfl
theorem wd_X4_readTape_11 : Cond.fieldLink RX4 32 "HedgeMaze$Reader" "kind" "I" ∈ wz_X4_readTape := List.mem_of_getElem? (i := 12) rfl
theorem wd_X4_readTape_12 : Cond.fieldLink RX4 63 "HedgeMaze$Garden" "lines" "I" ∈ wz_X4_readTape := List.mem_of_getElem? (i := 13) rfl
theorem in_X4_readTape_X4 : ∀ w ∈ wsX40, w ∈ wz_X4_readTape := fun _ h => List.mem_cons_of_mem _ (List.mem_append_left _ (List.mem_append_left _ (List.mem_append_right _ h)))
theorem in_X4_readTape_X0 : ∀ w ∈ wsX00, w ∈ wz_X4_readTape := fun _ h => List.mem_cons_of_mem _ (List.mem_append_left _ (List.mem_append_right _ h))
set_option maxRecDepth 20000 in
theorem g_X4_readTape_X0_clear : GoodIn wz_X4_readTape (wsV RX4 54 RX0 yX0_clear wz_X0_clear) := goodIn_r _ [14, 15, 16, 17, 18, 19, 20, 21, 22, 23, 24, 25, 26, 27, 28, 29, 30, 31, 32, 33, 3, 4, 5, 34, 35, 36, 37, 38, 39, 40, 41, 42, 43, 60, 61, 62, 63, 64, 65, 66, 67, 68, 69, 70, 71, 72, 73, 74, 75, 76, 77, 78, 79, 80] rfl (by decide +kernel)
set_option maxRecDepth 20000 in
theorem g_X4_readTape_X4_advance : GoodIn wz_X4_readTape (wsV RX4 57 RX4 yX4_advance wz_X4_advance) := goodIn_r _ [44, 45, 46, 47, 48, 9, 6, 49, 12, 2, 3, 4, 5, 50, 51, 52, 53, 54, 55, 56, 57, 58, 59] rfl (by decide +kernel)
set_option maxHeartbeats 4000000 in
set_option maxRecDepth 100000 in
/-- readTape of an empty TAPE -/
theorem c_X4_readTape (l : Launch) (dC : Nat → ClassId) (dI : Nat → Nat → Nat) (sz : Nat) (h0 : Nat) (dg : Nat) (tp : Nat) (dp : Nat) (dgt : Nat) (dgu : Nat) (dgn : Nat) (dpf : Nat) (dpo : Nat) (dpb : Nat) (dpa : Nat) (di : ClassId) (cb : ClassId) (fa : Nat → Int32) (ft : Nat → Int32)  : Met l yX4_readTape wz_X4_readTape ({ frames := 3, cells := 0, slots := 0, locals := 85 }) (va_Pc [.ref h0, .ref tp, .int 0] (fun U => U.heap.size = sz ∧ va_P (dC, dI) vwCl [(h0, .inr (4, [.ref dg, .int 0, .int (-1), .null, .int 0, .int 0, .int 0, .int 0, .int 0, .int 0])), (dg, .inr (0, [.ref dp, .int 0, .long 0, .long 0, .int 0, .int (-1), .int 0, .ref dgt, .int 0, .ref dgu, .int 0, .ref dgn])), (dp, .inr (3, [.int 0, .int 0, .int 0, .int 0, .long 0, .ref dpf, .ref dpo, .ref dpb, .ref dpa])), (dpa, .inl (di, 100, .inl fa)), (tp, .inl (cb, 1600, .inl ft))] U.heap ∧ va_K (dC, dI) vwCl [(di, .int), (cb, .byte)] U ∧ va_D (fun _ => True) [(h0, .inr (4, [.ref dg, .int 0, .int (-1), .null, .int 0, .int 0, .int 0, .int 0, .int 0, .int 0])), (dg, .inr (0, [.ref dp, .int 0, .long 0, .long 0, .int 0, .int (-1), .int 0, .ref dgt, .int 0, .ref dgu, .int 0, .ref dgn])), (dp, .inr (3, [.int 0, .int 0, .int 0, .int 0, .long 0, .ref dpf, .ref dpo, .ref dpb, .ref dpa])), (dpa, .inl (di, 100, .inl fa)), (tp, .inl (cb, 1600, .inl ft))])) (va_Qv (fun (u : (Nat → Int32)) => True) (fun (u : (Nat → Int32)) (t : State) => va_P (dC, dI) vwCl [(h0, .inr (4, [.ref dg, .int 0, .int (-1), .ref tp, .int 0, .int 0, .int 0, .int 0, .int 0, .int 0])), (dg, .inr (0, [.ref dp, .int 0, .long 0, .long 0, .int 0, .int (-1), .int 0, .ref dgt, .int 0, .ref dgu, .int 0, .ref dgn])), (dp, .inr (3, [.int 0, .int 0, .int 0, .int 0, .long 0, .ref dpf, .ref dpo, .ref dpb, .ref dpa])), (dpa, .inl (di, 100, .inl u))] t.heap ∧ va_K (dC, dI) vwCl [] t ∧ va_D (va_A [(h0, .inr (4, [.ref dg, .int 0, .int (-1), .null, .int 0, .int 0, .int 0, .int 0, .int 0, .int 0])), (dg, .inr (0, [.ref dp, .int 0, .long 0, .long 0, .int 0, .int (-1), .int 0, .ref dgt, .int 0, .ref dgu, .int 0, .ref dgn])), (dp, .inr (3, [.int 0, .int 0, .int 0, .int 0, .long 0, .ref dpf, .ref dpo, .ref dpb, .ref dpa])), (dpa, .inl (di, 100, .inl fa)), (tp, .inl (cb, 1600, .inl ft))] sz) [(h0, .inr (4, [.ref dg, .int 0, .int (-1), .ref tp, .int 0, .int 0, .int 0, .int 0, .int 0, .int 0])), (dg, .inr (0, [.ref dp, .int 0, .long 0, .long 0, .int 0, .int (-1), .int 0, .ref dgt, .int 0, .ref dgu, .int 0, .ref dgn])), (dp, .inr (3, [.int 0, .int 0, .int 0, .int 0, .long 0, .ref dpf, .ref dpo, .ref dpb, .ref dpa])), (dpa, .inl (di, 100, .inl u))]) (va_A [(h0, .inr (4, [.ref dg, .int 0, .int (-1), .null, .int 0, .int 0, .int 0, .int 0, .int 0, .int 0])), (dg, .inr (0, [.ref dp, .int 0, .long 0, .long 0, .int 0, .int (-1), .int 0, .ref dgt, .int 0, .ref dgu, .int 0, .ref dgn])), (dp, .inr (3, [.int 0, .int 0, .int 0, .int 0, .long 0, .ref dpf, .ref dpo, .ref dpb, .ref dpa])), (dpa, .inl (di, 100, .inl fa)), (tp, .inl (cb, 1600, .inl ft))] sz)) 0 0 (va_A [(h0, .inr (4, [.ref dg, .int 0, .int (-1), .null, .int 0, .int 0, .int 0, .int 0, .int 0, .int 0])), (dg, .inr (0, [.ref dp, .int 0, .long 0, .long 0, .int 0, .int (-1), .int 0, .ref dgt, .int 0, .ref dgu, .int 0, .ref dgn])), (dp, .inr (3, [.int 0, .int 0, .int 0, .int 0, .long 0, .ref dpf, .ref dpo, .ref dpb, .ref dpa])), (dpa, .inl (di, 100, .inl fa)), (tp, .inl (cb, 1600, .inl ft))] sz) := by
  refine Met.ofW (cc := cX4_readTape) (maxL := 4) (ret := none) (by decide) rfl ?_
  intro p e s m args below meth c s₁ B hml hv
  obtain ⟨rfl, hsz, hP, hK, hD0⟩ := hv
  have hx := B.exec
  have hb := B.bytes
  have hr := B.returns
  have hts := atoms_spec (ws := wz_X4_readTape) B.pre
  have hown : s.vm.findClass RX4 = some m.cls := findClass_of_methodNamed B.named
  have hlocks := B.notSynchronized
  subst hsz
  have hD := hD0.self (sz := s.heap.size)
  generalize hAe : va_A [(h0, .inr (4, [.ref dg, .int 0, .int (-1), .null, .int 0, .int 0, .int 0, .int 0, .int 0, .int 0])), (dg, .inr (0, [.ref dp, .int 0, .long 0, .long 0, .int 0, .int (-1), .int 0, .ref dgt, .int 0, .ref dgu, .int 0, .ref dgn])), (dp, .inr (3, [.int 0, .int 0, .int 0, .int 0, .long 0, .ref dpf, .ref dpo, .ref dpb, .ref dpa])), (dpa, .inl (di, 100, .inl fa)), (tp, .inl (cb, 1600, .inl ft))] s.heap.size = A at hD ⊢
  have hA : ∀ q : Nat, s.heap.size ≤ q → A q := fun q h => by rw [← hAe]; exact Or.inr h
  have hS : va_S A s.heap s.heap [] := va_S.rf
  have hP : va_P (dC, dI) vwCl [(h0, .inr (4, [.ref dg, .int 0, .int (-1), .null, .int 0, .int 0, .int 0, .int 0, .int 0, .int 0])), (dg, .inr (0, [.ref dp, .int 0, .long 0, .long 0, .int 0, .int (-1), .int 0, .ref dgt, .int 0, .ref dgu, .int 0, .ref dgn])), (dp, .inr (3, [.int 0, .int 0, .int 0, .int 0, .long 0, .ref dpf, .ref dpo, .ref dpb, .ref dpa])), (dpa, .inl (di, 100, .inl fa)), (tp, .inl (cb, 1600, .inl ft))] s.heap := hP
  have hl := lv_entry ([.ref h0, .ref tp, .int 0]) (n := 4) (Nat.le_of_ble_eq_true rfl)
  rw [lg_entry_eq]
  generalize (lg_sl ([.ref h0, .ref tp, .int 0]) ++ List.replicate (4 - (lg_sl ([.ref h0, .ref tp, .int 0])).length) Slot.unset).toArray = ls at hl ⊢
  have hl : lv_has ls 4 [(0, .ref h0), (1, .ref tp), (2, .int 0)] := hl
  refine lv_aload_n hx hb dX4_readTape_0 rfl (lv_at hl 0 rfl) ?_
  refine lv_aload_n hx hb dX4_readTape_1 rfl (lv_at hl 1 rfl) ?_
  refine va_put (D := (dC, dI)) (ci := 4) (v := .ref tp) (ty := .array .byte) (C := RX4) (T := TX4) (N := 10) hx hb hts in_X4_readTape_X4 tyX4 tyX4_ok nmX4 hown hK hP hD hS 0 rfl rfl 3 (by decide) (hts _ wd_X4_readTape_0) (fun _ h9 => h9) rfl (by decide +kernel) rfl rfl (Nat.le_of_ble_eq_true rfl) dX4_readTape_2 (fun H locs hP hD hS => ?_)
  have hP : va_P (dC, dI) vwCl [(h0, .inr (4, [.ref dg, .int 0, .int (-1), .ref tp, .int 0, .int 0, .int 0, .int 0, .int 0, .int 0])), (dg, .inr (0, [.ref dp, .int 0, .long 0, .long 0, .int 0, .int (-1), .int 0, .ref dgt, .int 0, .ref dgu, .int 0, .ref dgn])), (dp, .inr (3, [.int 0, .int 0, .int 0, .int 0, .long 0, .ref dpf, .ref dpo, .ref dpb, .ref dpa])), (dpa, .inl (di, 100, .inl fa)), (tp, .inl (cb, 1600, .inl ft))] H := hP
  have hD : va_D A [(h0, .inr (4, [.ref dg, .int 0, .int (-1), .ref tp, .int 0, .int 0, .int 0, .int 0, .int 0, .int 0])), (dg, .inr (0, [.ref dp, .int 0, .long 0, .long 0, .int 0, .int (-1), .int 0, .ref dgt, .int 0, .ref dgu, .int 0, .ref dgn])), (dp, .inr (3, [.int 0, .int 0, .int 0, .int 0, .long 0, .ref dpf, .ref dpo, .ref dpb, .ref dpa])), (dpa, .inl (di, 100, .inl fa)), (tp, .inl (cb, 1600, .inl ft))] := hD
  refine lv_aload_n hx hb dX4_readTape_5 rfl (lv_at hl 0 rfl) ?_
  refine lv_aload_n hx hb dX4_readTape_6 rfl (lv_at hl 1 rfl) ?_
  refine lv_ifnonnull (tgt := 14) hx hb dX4_readTape_7 (by decide) ?_
  refine lv_iload_n hx hb dX4_readTape_14 rfl (lv_at hl 2 rfl) ?_
  refine lv_aload_n hx hb dX4_readTape_15 rfl (lv_at hl 1 rfl) ?_
  refine va_alen hx hb hK hP 4 1 rfl rfl (v := 1600) (show Int32.ofNat 1600 = 1600 by decide) dX4_readTape_16 ?_
  refine va_mmin hx hb (hml.trans hl.1.symm) hown (hts _ wd_X4_readTape_1) (hts _ wd_X4_readTape_2) (hts _ wd_X4_readTape_3) (hts _ wd_X4_readTape_4) (Nat.le_of_ble_eq_true rfl) (Nat.le_of_ble_eq_true rfl) (Nat.le_of_ble_eq_true rfl) (Nat.le_of_ble_eq_true rfl) dX4_readTape_17 ?_
  refine lv_topi (fun z_1 ez_1 => ?_)
  obtain rfl : z_1 = 0 := ez_1.trans (by decide)
  refine va_put (D := (dC, dI)) (ci := 4) (v := .int 0) (ty := .int) (C := RX4) (T := TX4) (N := 10) hx hb hts in_X4_readTape_X4 tyX4 tyX4_ok nmX4 hown hK hP hD hS 0 rfl rfl 4 (by decide) (hts _ wd_X4_readTape_5) (fun _ h9 => h9) rfl (by decide +kernel) rfl rfl (Nat.le_of_ble_eq_true rfl) dX4_readTape_20 (fun H locs hP hD hS => ?_)
  have hP : va_P (dC, dI) vwCl [(h0, .inr (4, [.ref dg, .int 0, .int (-1), .ref tp, .int 0, .int 0, .int 0, .int 0, .int 0, .int 0])), (dg, .inr (0, [.ref dp, .int 0, .long 0, .long 0, .int 0, .int (-1), .int 0, .ref dgt, .int 0, .ref dgu, .int 0, .ref dgn])), (dp, .inr (3, [.int 0, .int 0, .int 0, .int 0, .long 0, .ref dpf, .ref dpo, .ref dpb, .ref dpa])), (dpa, .inl (di, 100, .inl fa)), (tp, .inl (cb, 1600, .inl ft))] H := hP
  have hD : va_D A [(h0, .inr (4, [.ref dg, .int 0, .int (-1), .ref tp, .int 0, .int 0, .int 0, .int 0, .int 0, .int 0])), (dg, .inr (0, [.ref dp, .int 0, .long 0, .long 0, .int 0, .int (-1), .int 0, .ref dgt, .int 0, .ref dgu, .int 0, .ref dgn])), (dp, .inr (3, [.int 0, .int 0, .int 0, .int 0, .long 0, .ref dpf, .ref dpo, .ref dpb, .ref dpa])), (dpa, .inl (di, 100, .inl fa)), (tp, .inl (cb, 1600, .inl ft))] := hD
  refine lv_aload_n hx hb dX4_readTape_23 rfl (lv_at hl 0 rfl) ?_
  refine lv_iconst (v := 0) hx hb dX4_readTape_24 (by decide) ?_
  refine va_put (D := (dC, dI)) (ci := 4) (v := .int 0) (ty := .int) (C := RX4) (T := TX4) (N := 10) hx hb hts in_X4_readTape_X4 tyX4 tyX4_ok nmX4 hown hK hP hD hS 0 rfl rfl 1 (by decide) (hts _ wd_X4_readTape_6) (fun _ h9 => h9) rfl (by decide +kernel) rfl rfl (Nat.le_of_ble_eq_true rfl) dX4_readTape_25 (fun H locs hP hD hS => ?_)
  have hP : va_P (dC, dI) vwCl [(h0, .inr (4, [.ref dg, .int 0, .int (-1), .ref tp, .int 0, .int 0, .int 0, .int 0, .int 0, .int 0])), (dg, .inr (0, [.ref dp, .int 0, .long 0, .long 0, .int 0, .int (-1), .int 0, .ref dgt, .int 0, .ref dgu, .int 0, .ref dgn])), (dp, .inr (3, [.int 0, .int 0, .int 0, .int 0, .long 0, .ref dpf, .ref dpo, .ref dpb, .ref dpa])), (dpa, .inl (di, 100, .inl fa)), (tp, .inl (cb, 1600, .inl ft))] H := hP
  have hD : va_D A [(h0, .inr (4, [.ref dg, .int 0, .int (-1), .ref tp, .int 0, .int 0, .int 0, .int 0, .int 0, .int 0])), (dg, .inr (0, [.ref dp, .int 0, .long 0, .long 0, .int 0, .int (-1), .int 0, .ref dgt, .int 0, .ref dgu, .int 0, .ref dgn])), (dp, .inr (3, [.int 0, .int 0, .int 0, .int 0, .long 0, .ref dpf, .ref dpo, .ref dpb, .ref dpa])), (dpa, .inl (di, 100, .inl fa)), (tp, .inl (cb, 1600, .inl ft))] := hD
  refine lv_aload_n hx hb dX4_readTape_28 rfl (lv_at hl 0 rfl) ?_
  refine lv_iconst (v := -1) hx hb dX4_readTape_29 (by decide) ?_
  refine va_put (D := (dC, dI)) (ci := 4) (v := .int (-1)) (ty := .int) (C := RX4) (T := TX4) (N := 10) hx hb hts in_X4_readTape_X4 tyX4 tyX4_ok nmX4 hown hK hP hD hS 0 rfl rfl 2 (by decide) (hts _ wd_X4_readTape_7) (fun _ h9 => h9) rfl (by decide +kernel) rfl rfl (Nat.le_of_ble_eq_true rfl) dX4_readTape_30 (fun H locs hP hD hS => ?_)
  have hP : va_P (dC, dI) vwCl [(h0, .inr (4, [.ref dg, .int 0, .int (-1), .ref tp, .int 0, .int 0, .int 0, .int 0, .int 0, .int 0])), (dg, .inr (0, [.ref dp, .int 0, .long 0, .long 0, .int 0, .int (-1), .int 0, .ref dgt, .int 0, .ref dgu, .int 0, .ref dgn])), (dp, .inr (3, [.int 0, .int 0, .int 0, .int 0, .long 0, .ref dpf, .ref dpo, .ref dpb, .ref dpa])), (dpa, .inl (di, 100, .inl fa)), (tp, .inl (cb, 1600, .inl ft))] H := hP
  have hD : va_D A [(h0, .inr (4, [.ref dg, .int 0, .int (-1), .ref tp, .int 0, .int 0, .int 0, .int 0, .int 0, .int 0])), (dg, .inr (0, [.ref dp, .int 0, .long 0, .long 0, .int 0, .int (-1), .int 0, .ref dgt, .int 0, .ref dgu, .int 0, .ref dgn])), (dp, .inr (3, [.int 0, .int 0, .int 0, .int 0, .long 0, .ref dpf, .ref dpo, .ref dpb, .ref dpa])), (dpa, .inl (di, 100, .inl fa)), (tp, .inl (cb, 1600, .inl ft))] := hD
  refine lv_aload_n hx hb dX4_readTape_33 rfl (lv_at hl 0 rfl) ?_
  refine lv_iconst (v := 0) hx hb dX4_readTape_34 (by decide) ?_
  refine va_put (D := (dC, dI)) (ci := 4) (v := .int 0) (ty := .int) (C := RX4) (T := TX4) (N := 10) hx hb hts in_X4_readTape_X4 tyX4 tyX4_ok nmX4 hown hK hP hD hS 0 rfl rfl 7 (by decide) (hts _ wd_X4_readTape_8) (fun _ h9 => h9) rfl (by decide +kernel) rfl rfl (Nat.le_of_ble_eq_true rfl) dX4_readTape_35 (fun H locs hP hD hS => ?_)
  have hP : va_P (dC, dI) vwCl [(h0, .inr (4, [.ref dg, .int 0, .int (-1), .ref tp, .int 0, .int 0, .int 0, .int 0, .int 0, .int 0])), (dg, .inr (0, [.ref dp, .int 0, .long 0, .long 0, .int 0, .int (-1), .int 0, .ref dgt, .int 0, .ref dgu, .int 0, .ref dgn])), (dp, .inr (3, [.int 0, .int 0, .int 0, .int 0, .long 0, .ref dpf, .ref dpo, .ref dpb, .ref dpa])), (dpa, .inl (di, 100, .inl fa)), (tp, .inl (cb, 1600, .inl ft))] H := hP
  have hD : va_D A [(h0, .inr (4, [.ref dg, .int 0, .int (-1), .ref tp, .int 0, .int 0, .int 0, .int 0, .int 0, .int 0])), (dg, .inr (0, [.ref dp, .int 0, .long 0, .long 0, .int 0, .int (-1), .int 0, .ref dgt, .int 0, .ref dgu, .int 0, .ref dgn])), (dp, .inr (3, [.int 0, .int 0, .int 0, .int 0, .long 0, .ref dpf, .ref dpo, .ref dpb, .ref dpa])), (dpa, .inl (di, 100, .inl fa)), (tp, .inl (cb, 1600, .inl ft))] := hD
  refine lv_aload_n hx hb dX4_readTape_38 rfl (lv_at hl 0 rfl) ?_
  refine lv_iconst (v := 0) hx hb dX4_readTape_39 (by decide) ?_
  refine va_put (D := (dC, dI)) (ci := 4) (v := .int 0) (ty := .boolean) (C := RX4) (T := TX4) (N := 10) hx hb hts in_X4_readTape_X4 tyX4 tyX4_ok nmX4 hown hK hP hD hS 0 rfl rfl 9 (by decide) (hts _ wd_X4_readTape_9) (fun _ h9 => h9) rfl (by decide +kernel) (by decide) (by decide) (Nat.le_of_ble_eq_true rfl) dX4_readTape_40 (fun H locs hP hD hS => ?_)
  have hP : va_P (dC, dI) vwCl [(h0, .inr (4, [.ref dg, .int 0, .int (-1), .ref tp, .int 0, .int 0, .int 0, .int 0, .int 0, .int 0])), (dg, .inr (0, [.ref dp, .int 0, .long 0, .long 0, .int 0, .int (-1), .int 0, .ref dgt, .int 0, .ref dgu, .int 0, .ref dgn])), (dp, .inr (3, [.int 0, .int 0, .int 0, .int 0, .long 0, .ref dpf, .ref dpo, .ref dpb, .ref dpa])), (dpa, .inl (di, 100, .inl fa)), (tp, .inl (cb, 1600, .inl ft))] H := hP
  have hD : va_D A [(h0, .inr (4, [.ref dg, .int 0, .int (-1), .ref tp, .int 0, .int 0, .int 0, .int 0, .int 0, .int 0])), (dg, .inr (0, [.ref dp, .int 0, .long 0, .long 0, .int 0, .int (-1), .int 0, .ref dgt, .int 0, .ref dgu, .int 0, .ref dgn])), (dp, .inr (3, [.int 0, .int 0, .int 0, .int 0, .long 0, .ref dpf, .ref dpo, .ref dpb, .ref dpa])), (dpa, .inl (di, 100, .inl fa)), (tp, .inl (cb, 1600, .inl ft))] := hD
  refine lv_aload_n hx hb dX4_readTape_43 rfl (lv_at hl 0 rfl) ?_
  refine va_get (D := (dC, dI)) (ci := 4) (v := .ref dg) (C := RX4) (T := TX4) (N := 10) hx hb hts in_X4_readTape_X4 hown hK hP 0 rfl rfl 0 (by decide) (hts _ wd_X4_readTape_10) (fun _ h9 => h9) rfl dX4_readTape_44 ?_
  have hPc := hP.sub (ws' := [(dg, .inr (0, [.ref dp, .int 0, .long 0, .long 0, .int 0, .int (-1), .int 0, .ref dgt, .int 0, .ref dgu, .int 0, .ref dgn])), (dp, .inr (3, [.int 0, .int 0, .int 0, .int 0, .long 0, .ref dpf, .ref dpo, .ref dpb, .ref dpa])), (dpa, .inl (di, 100, .inl fa))]) [1, 2, 3] rfl
  have hDc := hD.sub (ws' := [(dg, .inr (0, [.ref dp, .int 0, .long 0, .long 0, .int 0, .int (-1), .int 0, .ref dgt, .int 0, .ref dgu, .int 0, .ref dgn])), (dp, .inr (3, [.int 0, .int 0, .int 0, .int 0, .long 0, .ref dpf, .ref dpo, .ref dpb, .ref dpa])), (dpa, .inl (di, 100, .inl fa))]) [1, 2, 3] (by decide) rfl
  have hKc := hK.sub (tys' := [(di, .int)]) [0] rfl
  have hFc := va_free (wc := [(dg, .inr (0, [.ref dp, .int 0, .long 0, .long 0, .int 0, .int (-1), .int 0, .ref dgt, .int 0, .ref dgu, .int 0, .ref dgn])), (dp, .inr (3, [.int 0, .int 0, .int 0, .int 0, .long 0, .ref dpf, .ref dpo, .ref dpb, .ref dpa])), (dpa, .inl (di, 100, .inl fa))]) hD hS hA [1, 2, 3] rfl
  refine va_callv (va_runV (As := []) (rest := []) ⟨hx, hb, hml, hown, hts⟩ (c_X0_clear l dC dI H.size dg dp dgt dgu dgn dpf dpo dpb dpa di fa ) (cwV 0 hts g_X4_readTape_X0_clear rfl rfl rfl (by decide +kernel) ⟨Nat.le_of_ble_eq_true rfl, Nat.le_of_ble_eq_true rfl⟩) ⟨fun a U g mk q => by obtain ⟨q0, q1, qP, qK, qD⟩ := q; exact ⟨q0, q1, qP, va_K.moved (u := U) (U := U.calling g mk a) (Vm.Alike.refl U.vm) qK, qD⟩, va_recv hKc hPc (ci := 0) (q0 := 0) rfl rfl, fun U hU hW => ⟨rfl, by rw [hU], by rw [hU]; exact hPc, va_K.moved hW.alike hKc, hDc.weaken (fun _ _ _ _ => trivial)⟩⟩ rfl rfl hl.1 rfl (lv_room (Nat.le_of_ble_eq_true rfl)) dX4_readTape_47 ⟨Nat.le_of_ble_eq_true rfl, Nat.le_of_ble_eq_true rfl⟩) hS (fun q _ h => hFc q h) hFc (fun u t H1 locs ht hvm hw_2 hB hz1 hk1 hS => ?_)
  obtain ⟨f2_3, rfl⟩ : ∃ z, z = u := ⟨_, rfl⟩
  obtain ⟨hP1, hK1, hD1⟩ := hB
  have hP1 : va_P (dC, dI) vwCl [(dg, .inr (0, [.ref dp, .int 0, .long 0, .long 0, .int 0, .int (-1), .int 0, .ref dgt, .int 0, .ref dgu, .int 0, .ref dgn])), (dp, .inr (3, [.int 0, .int 0, .int 0, .int 0, .long 0, .ref dpf, .ref dpo, .ref dpb, .ref dpa])), (dpa, .inl (di, 100, .inl f2_3))] t.heap := hP1
  rw [ht] at hP1
  try dsimp only at hw_2
  obtain ⟨hP, hD⟩ := va_join (wr := [(h0, .inr (4, [.ref dg, .int 0, .int (-1), .ref tp, .int 0, .int 0, .int 0, .int 0, .int 0, .int 0])), (tp, .inl (cb, 1600, .inl ft))]) (w1 := [(dg, .inr (0, [.ref dp, .int 0, .long 0, .long 0, .int 0, .int (-1), .int 0, .ref dgt, .int 0, .ref dgu, .int 0, .ref dgn])), (dp, .inr (3, [.int 0, .int 0, .int 0, .int 0, .long 0, .ref dpf, .ref dpo, .ref dpb, .ref dpa])), (dpa, .inl (di, 100, .inl f2_3))]) hP hD [1, 2, 3] [0, 4] rfl rfl (by decide) (by decide) hk1 hFc hP1 hD1
  generalize H1 = H at hP hS ⊢
  have hP : va_P (dC, dI) vwCl [(h0, .inr (4, [.ref dg, .int 0, .int (-1), .ref tp, .int 0, .int 0, .int 0, .int 0, .int 0, .int 0])), (tp, .inl (cb, 1600, .inl ft)), (dg, .inr (0, [.ref dp, .int 0, .long 0, .long 0, .int 0, .int (-1), .int 0, .ref dgt, .int 0, .ref dgu, .int 0, .ref dgn])), (dp, .inr (3, [.int 0, .int 0, .int 0, .int 0, .long 0, .ref dpf, .ref dpo, .ref dpb, .ref dpa])), (dpa, .inl (di, 100, .inl f2_3))] H := hP
  have hD : va_D A [(h0, .inr (4, [.ref dg, .int 0, .int (-1), .ref tp, .int 0, .int 0, .int 0, .int 0, .int 0, .int 0])), (tp, .inl (cb, 1600, .inl ft)), (dg, .inr (0, [.ref dp, .int 0, .long 0, .long 0, .int 0, .int (-1), .int 0, .ref dgt, .int 0, .ref dgu, .int 0, .ref dgn])), (dp, .inr (3, [.int 0, .int 0, .int 0, .int 0, .long 0, .ref dpf, .ref dpo, .ref dpb, .ref dpa])), (dpa, .inl (di, 100, .inl f2_3))] := hD
  refine lv_aload_n hx hb dX4_readTape_50 rfl (lv_at hl 0 rfl) ?_
  have hPc := hP.sub (ws' := [(h0, .inr (4, [.ref dg, .int 0, .int (-1), .ref tp, .int 0, .int 0, .int 0, .int 0, .int 0, .int 0]))]) [0] rfl
  have hDc := hD.sub (ws' := [(h0, .inr (4, [.ref dg, .int 0, .int (-1), .ref tp, .int 0, .int 0, .int 0, .int 0, .int 0, .int 0]))]) [0] (by decide) rfl
  have hKc := hK.sub (tys' := []) [] rfl
  have hFc := va_free (wc := [(h0, .inr (4, [.ref dg, .int 0, .int (-1), .ref tp, .int 0, .int 0, .int 0, .int 0, .int 0, .int 0]))]) hD hS hA [0] rfl
  refine va_callv (va_runV (As := []) (rest := []) ⟨hx, hb, hml, hown, hts⟩ (c_X4_advance l dC dI H.size h0 dg tp ) (cwV 0 hts g_X4_readTape_X4_advance rfl rfl rfl (by decide +kernel) ⟨Nat.le_of_ble_eq_true rfl, Nat.le_of_ble_eq_true rfl⟩) ⟨fun a U g mk q => by obtain ⟨q0, q1, qP, qK, qD⟩ := q; exact ⟨q0, q1, qP, va_K.moved (u := U) (U := U.calling g mk a) (Vm.Alike.refl U.vm) qK, qD⟩, va_recv hKc hPc (ci := 4) (q0 := 0) rfl rfl, fun U hU hW => ⟨rfl, by rw [hU], by rw [hU]; exact hPc, va_K.moved hW.alike hKc, hDc.weaken (fun _ _ _ _ => trivial)⟩⟩ rfl rfl hl.1 rfl (lv_room (Nat.le_of_ble_eq_true rfl)) dX4_readTape_51 ⟨Nat.le_of_ble_eq_true rfl, Nat.le_of_ble_eq_true rfl⟩) hS (fun q _ h => hFc q h) hFc (fun u t H1 locs ht hvm hw_4 hB hz1 hk1 hS => ?_)
  obtain ⟨hP1, hK1, hD1⟩ := hB
  have hP1 : va_P (dC, dI) vwCl [(h0, .inr (4, [.ref dg, .int 0, .int (-1), .ref tp, .int 0, .int 0, .int 0, .int 0, .int 0, .int 0]))] t.heap := hP1
  rw [ht] at hP1
  try dsimp only at hw_4
  obtain ⟨hP, hD⟩ := va_join (wr := [(tp, .inl (cb, 1600, .inl ft)), (dg, .inr (0, [.ref dp, .int 0, .long 0, .long 0, .int 0, .int (-1), .int 0, .ref dgt, .int 0, .ref dgu, .int 0, .ref dgn])), (dp, .inr (3, [.int 0, .int 0, .int 0, .int 0, .long 0, .ref dpf, .ref dpo, .ref dpb, .ref dpa])), (dpa, .inl (di, 100, .inl f2_3))]) (w1 := [(h0, .inr (4, [.ref dg, .int 0, .int (-1), .ref tp, .int 0, .int 0, .int 0, .int 0, .int 0, .int 0]))]) hP hD [0] [1, 2, 3, 4] rfl rfl (by decide) (by decide) hk1 hFc hP1 hD1
  generalize H1 = H at hP hS ⊢
  have hP : va_P (dC, dI) vwCl [(tp, .inl (cb, 1600, .inl ft)), (dg, .inr (0, [.ref dp, .int 0, .long 0, .long 0, .int 0, .int (-1), .int 0, .ref dgt, .int 0, .ref dgu, .int 0, .ref dgn])), (dp, .inr (3, [.int 0, .int 0, .int 0, .int 0, .long 0, .ref dpf, .ref dpo, .ref dpb, .ref dpa])), (dpa, .inl (di, 100, .inl f2_3)), (h0, .inr (4, [.ref dg, .int 0, .int (-1), .ref tp, .int 0, .int 0, .int 0, .int 0, .int 0, .int 0]))] H := hP
  have hD : va_D A [(tp, .inl (cb, 1600, .inl ft)), (dg, .inr (0, [.ref dp, .int 0, .long 0, .long 0, .int 0, .int (-1), .int 0, .ref dgt, .int 0, .ref dgu, .int 0, .ref dgn])), (dp, .inr (3, [.int 0, .int 0, .int 0, .int 0, .long 0, .ref dpf, .ref dpo, .ref dpb, .ref dpa])), (dpa, .inl (di, 100, .inl f2_3)), (h0, .inr (4, [.ref dg, .int 0, .int (-1), .ref tp, .int 0, .int 0, .int 0, .int 0, .int 0, .int 0]))] := hD
  refine lv_iconst (v := 0) hx hb dX4_readTape_54 (by decide) ?_
  refine lv_istore_n (lv' := [(3, .int 0), (0, .ref h0), (1, .ref tp), (2, .int 0)]) hx hb dX4_readTape_55 rfl hl (by decide) rfl (fun ls hl => ?_)
  refine lv_iload_n hx hb dX4_readTape_56 rfl (lv_at hl 0 rfl) ?_
  refine lv_sipush (v := 1600) hx hb dX4_readTape_57 (by decide) ?_
  refine lv_icmp_ge (tgt := 87) hx hb dX4_readTape_60 (by decide) (fun h => absurd h (by decide)) (fun _ => ?_)
  refine lv_aload_n hx hb dX4_readTape_63 rfl (lv_at hl 1 rfl) ?_
  refine va_get (D := (dC, dI)) (ci := 4) (v := .int 0) (C := RX4) (T := TX4) (N := 10) hx hb hts in_X4_readTape_X4 hown hK hP 4 rfl rfl 1 (by decide) (hts _ wd_X4_readTape_6) (fun _ h9 => h9) rfl dX4_readTape_64 ?_
  refine lv_if_ne (tgt := 87) hx hb dX4_readTape_67 (by decide) (fun h => absurd (by decide) h) (fun _ => ?_)
  refine lv_aload_n hx hb dX4_readTape_70 rfl (lv_at hl 1 rfl) ?_
  refine va_get (D := (dC, dI)) (ci := 4) (v := .int 0) (C := RX4) (T := TX4) (N := 10) hx hb hts in_X4_readTape_X4 hown hK hP 4 rfl rfl 5 (by decide) (hts _ wd_X4_readTape_11) (fun _ h9 => h9) rfl dX4_readTape_71 ?_
  refine lv_if_eq (tgt := 87) hx hb dX4_readTape_74 (by decide) (fun _ => ?_) (fun h => absurd (by decide) h)
  refine lv_aload_n hx hb dX4_readTape_87 rfl (lv_at hl 1 rfl) ?_
  refine va_get (D := (dC, dI)) (ci := 4) (v := .int 0) (C := RX4) (T := TX4) (N := 10) hx hb hts in_X4_readTape_X4 hown hK hP 4 rfl rfl 1 (by decide) (hts _ wd_X4_readTape_6) (fun _ h9 => h9) rfl dX4_readTape_88 ?_
  refine lv_if_ne (tgt := 133) hx hb dX4_readTape_91 (by decide) (fun h => absurd (by decide) h) (fun _ => ?_)
  refine lv_aload_n hx hb dX4_readTape_94 rfl (lv_at hl 1 rfl) ?_
  refine va_get (D := (dC, dI)) (ci := 4) (v := .ref dg) (C := RX4) (T := TX4) (N := 10) hx hb hts in_X4_readTape_X4 hown hK hP 4 rfl rfl 0 (by decide) (hts _ wd_X4_readTape_10) (fun _ h9 => h9) rfl dX4_readTape_95 ?_
  refine va_get (D := (dC, dI)) (ci := 0) (v := .int 0) (C := RX0) (T := TX0) (N := 12) hx hb hts in_X4_readTape_X0 hown hK hP 1 rfl rfl 1 (by decide) (hts _ wd_X4_readTape_12) (fun _ h9 => h9) rfl dX4_readTape_98 ?_
  refine lv_if_le (tgt := 133) hx hb dX4_readTape_101 (by decide) (fun _ => ?_) (fun h => absurd (by decide) h)
  have hP9 := hP.sub (ws' := [(h0, .inr (4, [.ref dg, .int 0, .int (-1), .ref tp, .int 0, .int 0, .int 0, .int 0, .int 0, .int 0])), (dg, .inr (0, [.ref dp, .int 0, .long 0, .long 0, .int 0, .int (-1), .int 0, .ref dgt, .int 0, .ref dgu, .int 0, .ref dgn])), (dp, .inr (3, [.int 0, .int 0, .int 0, .int 0, .long 0, .ref dpf, .ref dpo, .ref dpb, .ref dpa])), (dpa, .inl (di, 100, .inl f2_3))]) [4, 1, 2, 3] rfl
  have hD9 := hD.sub (ws' := [(h0, .inr (4, [.ref dg, .int 0, .int (-1), .ref tp, .int 0, .int 0, .int 0, .int 0, .int 0, .int 0])), (dg, .inr (0, [.ref dp, .int 0, .long 0, .long 0, .int 0, .int (-1), .int 0, .ref dgt, .int 0, .ref dgu, .int 0, .ref dgn])), (dp, .inr (3, [.int 0, .int 0, .int 0, .int 0, .long 0, .ref dpf, .ref dpo, .ref dpb, .ref dpa])), (dpa, .inl (di, 100, .inl f2_3))]) [4, 1, 2, 3] (by decide) rfl
  have hK9 := hK.sub (tys' := []) [] rfl
  refine W.widen (k := 0) (n := 0) (by omega) (by omega) ?_
  exact W.vret hx hb hr (fun t ht hW => ⟨⟨(f2_3), rfl, trivial, by rw [ht]; exact hP9, va_K.moved hW.alike hK9, hD9⟩, hS.F ht⟩) hS.2.2 dX4_readTape_133

theorem dX6_maze_0 : decode cX6_maze 0 = .ok (.aload_n 0, 1) := by decide +kernel
theorem dX6_maze_1 : decode cX6_maze 1 = .ok (.getfield 26, 3) := by decide +kernel
theorem dX6_maze_4 : decode cX6_maze 4 = .ok (.aload_n 0, 1) := by decide +kernel
theorem dX6_maze_5 : decode cX6_maze 5 = .ok (.getfield 9, 3) := by decide +kernel
theorem dX6_maze_8 : decode cX6_maze 8 = .ok (.aload_n 0, 1) := by decide +kernel
theorem dX6_maze_9 : decode cX6_maze 9 = .ok (.getfield 13, 3) := by decide +kernel
theorem dX6_maze_12 : decode cX6_maze 12 = .ok (.invokevirtual 70, 3) := by decide +kernel
theorem dX6_maze_15 : decode cX6_maze 15 = .ok (.aload_n 0, 1) := by decide +kernel
theorem dX6_maze_16 : decode cX6_maze 16 = .ok (.aload_n 0, 1) := by decide +kernel
theorem dX6_maze_17 : decode cX6_maze 17 = .ok (.getfield 26, 3) := by decide +kernel
theorem dX6_maze_20 : decode cX6_maze 20 = .ok (.getfield 74, 3) := by decide +kernel
theorem dX6_maze_23 : decode cX6_maze 23 = .ok (.putfield 17, 3) := by decide +kernel
theorem dX6_maze_26 : decode cX6_maze 26 = .ok (.aload_n 0, 1) := by decide +kernel
theorem dX6_maze_27 : decode cX6_maze 27 = .ok (.aload_n 0, 1) := by decide +kernel
theorem dX6_maze_28 : decode cX6_maze 28 = .ok (.getfield 26, 3) := by decide +kernel
theorem dX6_maze_31 : decode cX6_maze 31 = .ok (.getfield 75, 3) := by decide +kernel
theorem dX6_maze_34 : decode cX6_maze 34 = .ok (.putfield 20, 3) := by decide +kernel
theorem dX6_maze_37 : decode cX6_maze 37 = .ok (.aload_n 0, 1) := by decide +kernel
theorem dX6_maze_38 : decode cX6_maze 38 = .ok (.getfield 17, 3) := by decide +kernel
theorem dX6_maze_41 : decode cX6_maze 41 = .ok (.ifCond .eq 6, 3) := by decide +kernel
theorem dX6_maze_47 : decode cX6_maze 47 = .ok (.aload_n 0, 1) := by decide +kernel
theorem dX6_maze_48 : decode cX6_maze 48 = .ok (.getfield 33, 3) := by decide +kernel
theorem dX6_maze_51 : decode cX6_maze 51 = .ok (.aload_n 0, 1) := by decide +kernel
theorem dX6_maze_52 : decode cX6_maze 52 = .ok (.getfield 26, 3) := by decide +kernel
theorem dX6_maze_55 : decode cX6_maze 55 = .ok (.getfield 76, 3) := by decide +kernel
theorem dX6_maze_58 : decode cX6_maze 58 = .ok (.invokevirtual 79, 3) := by decide +kernel
theorem dX6_maze_61 : decode cX6_maze 61 = .ok (.aload_n 0, 1) := by decide +kernel
theorem dX6_maze_62 : decode cX6_maze 62 = .ok (.iconst 0, 1) := by decide +kernel
theorem dX6_maze_63 : decode cX6_maze 63 = .ok (.putfield 13, 3) := by decide +kernel
theorem dX6_maze_66 : decode cX6_maze 66 = .ok (.aload_n 0, 1) := by decide +kernel
theorem dX6_maze_67 : decode cX6_maze 67 = .ok (.getfield 33, 3) := by decide +kernel
theorem dX6_maze_70 : decode cX6_maze 70 = .ok (.getfield 83, 3) := by decide +kernel
theorem dX6_maze_73 : decode cX6_maze 73 = .ok (.ireturn, 1) := by decide +kernel
def wz_X6_maze : List Cond := .code yX6_maze cX6_maze 1 (some .int) :: ([Cond.fieldLink RX6 26 "HedgeMaze" "reader" "LHedgeMaze$Reader;", Cond.fieldLink RX6 9 "HedgeMaze" "tape" "[B", Cond.fieldLink RX6 13 "HedgeMaze" "tapeSize" "I", Cond.fieldLink RX6 74 "HedgeMaze$Reader" "faultNumber" "I", Cond.fieldLink RX6 17 "HedgeMaze" "faultNumber" "I", Cond.fieldLink RX6 75 "HedgeMaze$Reader" "faultPlace" "I", Cond.fieldLink RX6 20 "HedgeMaze" "faultPlace" "I", Cond.fieldLink RX6 33 "HedgeMaze" "garden" "LHedgeMaze$Garden;", Cond.fieldLink RX6 76 "HedgeMaze$Reader" "draft" "LHedgeMaze$Garden;", Cond.fieldLink RX6 83 "HedgeMaze$Garden" "lines" "I", Cond.methodLink RX6 70 yX4_readTape, Cond.instanceMethod yX4_readTape, Cond.selects RX4 yX4_readTape yX4_readTape, Cond.initialized RX4, Cond.code yX4_readTape cX4_readTape 4 none, Cond.fieldLink RX4 25 "HedgeMaze$Reader" "tape" "[B", Cond.methodLink RX4 48 Lib.Math.min.name, Cond.static Lib.Math.min.name, Cond.initialized "java/lang/Math", Cond.code Lib.Math.min.name Lib.Math.min.code 2 (some .int), Cond.fieldLink RX4 29 "HedgeMaze$Reader" "tapeSize" "I", Cond.fieldLink RX4 18 "HedgeMaze$Reader" "faultNumber" "I", Cond.fieldLink RX4 22 "HedgeMaze$Reader" "faultPlace" "I", Cond.fieldLink RX4 38 "HedgeMaze$Reader" "tokenEnd" "I", Cond.fieldLink RX4 44 "HedgeMaze$Reader" "hasLaw" "Z", Cond.fieldLink RX4 12 "HedgeMaze$Reader" "draft" "LHedgeMaze$Garden;", Cond.fieldLink RX4 32 "HedgeMaze$Reader" "kind" "I", Cond.fieldLink RX4 63 "HedgeMaze$Garden" "lines" "I", Cond.methodLink RX4 54 yX0_clear, Cond.instanceMethod yX0_clear, Cond.selects RX0 yX0_clear yX0_clear, Cond.initialized RX0, Cond.code yX0_clear cX0_clear 1 none, Cond.fieldLink RX0 12 "HedgeMaze$Garden" "plan" "LHedgeMaze$Plan;", Cond.fieldLink RX0 18 "HedgeMaze$Garden" "lines" "I", Cond.fieldLink RX0 22 "HedgeMaze$Garden" "hedges" "J", Cond.fieldLink RX0 26 "HedgeMaze$Garden" "walls" "J", Cond.fieldLink RX0 29 "HedgeMaze$Garden" "isNear" "Z", Cond.fieldLink RX0 33 "HedgeMaze$Garden" "letterCell" "I", Cond.fieldLink RX0 36 "HedgeMaze$Garden" "gateCount" "I", Cond.fieldLink RX0 43 "HedgeMaze$Garden" "guestCount" "I", Cond.fieldLink RX0 49 "HedgeMaze$Garden" "goneCount" "I", Cond.methodLink RX0 55 yX3_lay, Cond.instanceMethod yX3_lay, Cond.selects RX3 yX3_lay yX3_lay, Cond.initialized RX3, Cond.code yX3_lay cX3_lay 6 none, Cond.methodLink RX3 42 Lib.Math.min.name, Cond.fieldLink RX3 9 "HedgeMaze$Plan" "wide" "I", Cond.fieldLink RX3 15 "HedgeMaze$Plan" "deep" "I", Cond.fieldLink RX3 18 "HedgeMaze$Plan" "cellCount" "I", Cond.fieldLink RX3 21 "HedgeMaze$Plan" "sideCount" "I", Cond.fieldLink RX3 24 "HedgeMaze$Plan" "allSides" "J", Cond.fieldLink RX3 39 "HedgeMaze$Plan" "around" "[I", Cond.methodLink RX3 48 yJ7_fill_53178, Cond.static yJ7_fill_53178, Cond.initialized RJ7, Cond.code yJ7_fill_53178 cJ7_fill_53178 4 none, Cond.methodLink RX4 57 yX4_advance, Cond.instanceMethod yX4_advance, Cond.selects RX4 yX4_advance yX4_advance, Cond.code yX4_advance cX4_advance 4 none, Cond.fieldLink RX4 35 "HedgeMaze$Reader" "tokenStart" "I", Cond.methodLink RX6 79 yX0_becomeLike, Cond.instanceMethod yX0_becomeLike, Cond.selects RX0 yX0_becomeLike yX0_becomeLike, Cond.code yX0_becomeLike cX0_becomeLike 2 none, Cond.fieldLink RX0 59 "HedgeMaze$Plan" "wide" "I", Cond.fieldLink RX0 62 "HedgeMaze$Plan" "deep" "I", Cond.fieldLink RX0 39 "HedgeMaze$Garden" "gates" "[I", Cond.methodLink RX0 65 arraycopyName, Cond.native arraycopyName, Cond.static arraycopyName, Cond.initialized "java/lang/System", Cond.fieldLink RX0 46 "HedgeMaze$Garden" "guests" "[I", Cond.fieldLink RX0 52 "HedgeMaze$Garden" "goneNights" "[I"] ++ wsX60 ++ wsX40 ++ wsX00 ++ wsX30)
theorem wd_X6_maze_0 : Cond.fieldLink RX6 26 "HedgeMaze" "reader" "LHedgeMaze$Reader;" ∈ wz_X6_maze := List.mem_of_getElem? (i := 1) rfl
theorem wd_X6_maze_1 : Cond.fieldLink RX6 9 "HedgeMaze" "tape" "[B" ∈ wz_X6_maze := List.mem_of_getElem? (i := 2) rfl
theorem wd_X6_maze_2 : Cond.fieldLink RX6 13 "HedgeMaze" "tapeSize" "I" ∈ wz_X6_maze := List.mem_of_getElem? (i := 3) rfl
theorem wd_X6_maze_3 : Cond.fieldLink RX6 74 "HedgeMaze$Reader" "faultNumber" "I" ∈ wz_X6_maze := List.mem_of_getElem? (i := 4) rfl
theorem wd_X6_maze_4 : Cond.fieldLink RX6 17 "HedgeMaze" "faultNumber" "I" ∈ wz_X6_maze := List.mem_of_getElem? (i := 5) rfl
theorem wd_X6_maze_5 : Cond.fieldLink RX6 75 "HedgeMaze$Reader" "faultPlace" "I" ∈ wz_X6_maze := List.mem_of_getElem? (i := 6) rfl
theorem wd_X6_maze_6 : Cond.fieldLink RX6 20 "HedgeMaze" "faultPlace" "I" ∈ wz_X6_maze := List.mem_of_getElem? (i := 7) rfl
theorem wd_X6_maze_7 : Cond.fieldLink RX6 33 "HedgeMaze" "garden" "LHedgeMaze$Garden;" ∈ wz_X6_maze := List.mem_of_getElem? (i := 8) rfl
theorem wd_X6_maze_8 : Cond.fieldLink RX6 76 "HedgeMaze$Reader" "draft" "LHedgeMaze$Garden;" ∈ wz_X6_maze := List.mem_of_getElem? (i := 9) rfl
theorem wd_X6_maze_9 : Cond.fieldLink RX6 83 "HedgeMaze$Garden" "lines" "I" ∈ wz_X6_maze := List.mem_of_getElem? (i := 10) rfl
theorem in_X6_maze_X6 : ∀ w ∈ wsX60, w ∈ wz_X6_maze := fun _ h => List.mem_cons_of_mem _ (List.mem_append_left _ (List.mem_append_left _ (List.mem_append_left _ (List.mem_append_right _ h))))
theorem in_X6_maze_X4 : ∀ w ∈ wsX40, w ∈ wz_X6_maze := fun _ h => List.mem_cons_of_mem _ (List.mem_append_left _ (List.mem_append_left _ (List.mem_append_right _ h)))
theorem in_X6_maze_X0 : ∀ w ∈ wsX00, w ∈ wz_X6_maze := fun _ h => List.mem_cons_of_mem _ (List.mem_append_left _ (List.mem_append_right _ h))
set_option maxRecDepth 20000 in
theorem g_X6_maze_X4_readTape : GoodIn wz_X6_maze (wsV RX6 70 RX4 yX4_readTape wz_X4_readTape) := goodIn_r _ [11, 12, 13, 14, 15, 16, 17, 18, 19, 20, 21, 22, 23, 24, 25, 26, 27, 28, 29, 30, 31, 32, 33, 34, 35, 36, 37, 38, 39, 40, 41, 42, 43, 44, 45, 46, 47, 48, 49, 50, 51, 52, 53, 54, 55, 56, 57, 58, 59, 60, 61, 14, 62, 63, 88, 89, 90, 91, 92, 93, 94, 95, 96, 97, 98, 99, 100, 101, 102, 103, 104, 105, 106, 107, 108, 109, 110, 111, 112, 113, 114, 115, 116, 117, 118] rfl (by decide +kernel)
set_option maxRecDepth 20000 in
theorem g_X6_maze_X0_becomeLike : GoodIn wz_X6_maze (wsV RX6 79 RX0 yX0_becomeLike wz_X0_becomeLike) := goodIn_r _ [64, 65, 66, 32, 67, 34, 68, 69, 35, 36, 37, 38, 39, 40, 41, 42, 70, 71, 72, 73, 74, 75, 76, 43, 44, 45, 46, 47, 48, 18, 19, 20, 49, 50, 51, 52, 53, 54, 55, 56, 57, 58, 98, 99, 100, 101, 102, 103, 104, 105, 106, 107, 108, 109, 110, 111, 112, 113, 114, 115, 116, 117, 118] rfl (by decide +kernel)
set_option maxHeartbeats 4000000 in
set_option maxRecDepth 100000 in
theorem c_X6_maze (l : Launch) (dC : Nat → ClassId) (dI : Nat → Nat → Nat) (sz : Nat) (h0 : Nat) (tp : Nat) (rd : Nat) (gd : Nat) (im : Nat) (rw : Nat) (gn : Nat) (ho : Nat) (sq : Nat) (pl : Nat) (gdt : Nat) (gdu : Nat) (gdn : Nat) (plf : Nat) (plo : Nat) (plb : Nat) (pla : Nat) (dg : Nat) (dp : Nat) (dgt : Nat) (dgu : Nat) (dgn : Nat) (dpf : Nat) (dpo : Nat) (dpb : Nat) (dpa : Nat) (cb : ClassId) (di : ClassId) (dt : ClassId) (du : ClassId) (dn : ClassId) (ci : ClassId) (ct : ClassId) (cu : ClassId) (cn : ClassId) (fa : Nat → Int32) (fb : Nat → Int32) (ft : Nat → Int32)  : Met l yX6_maze wz_X6_maze ({ frames := 4, cells := 0, slots := 0, locals := 108 }) (va_Pc [.ref h0] (fun U => U.heap.size = sz ∧ va_P (dC, dI) vwCl [(h0, .inr (6, [.ref tp, .int 0, .int 0, .int (-1), .ref rd, .ref gd, .ref im, .ref rw, .ref gn, .ref ho, .ref sq])), (tp, .inl (cb, 1600, .inl ft)), (rd, .inr (4, [.ref dg, .int 0, .int (-1), .null, .int 0, .int 0, .int 0, .int 0, .int 0, .int 0])), (dg, .inr (0, [.ref dp, .int 0, .long 0, .long 0, .int 0, .int (-1), .int 0, .ref dgt, .int 0, .ref dgu, .int 0, .ref dgn])), (dp, .inr (3, [.int 0, .int 0, .int 0, .int 0, .long 0, .ref dpf, .ref dpo, .ref dpb, .ref dpa])), (dpa, .inl (di, 100, .inl fa)), (dgt, .inl (dt, 4, .inl (fun _ => 0))), (dgu, .inl (du, 5, .inl (fun _ => 0))), (dgn, .inl (dn, 99, .inl (fun _ => 0))), (gd, .inr (0, [.ref pl, .int 0, .long 0, .long 0, .int 0, .int (-1), .int 0, .ref gdt, .int 0, .ref gdu, .int 0, .ref gdn])), (pl, .inr (3, [.int 0, .int 0, .int 0, .int 0, .long 0, .ref plf, .ref plo, .ref plb, .ref pla])), (pla, .inl (ci, 100, .inl fb)), (gdt, .inl (ct, 4, .inl (fun _ => 0))), (gdu, .inl (cu, 5, .inl (fun _ => 0))), (gdn, .inl (cn, 99, .inl (fun _ => 0)))] U.heap ∧ va_K (dC, dI) vwCl [(cb, .byte), (di, .int), (dt, .int), (du, .int), (dn, .int), (ci, .int), (ct, .int), (cu, .int), (cn, .int)] U ∧ va_D (fun _ => True) [(h0, .inr (6, [.ref tp, .int 0, .int 0, .int (-1), .ref rd, .ref gd, .ref im, .ref rw, .ref gn, .ref ho, .ref sq])), (tp, .inl (cb, 1600, .inl ft)), (rd, .inr (4, [.ref dg, .int 0, .int (-1), .null, .int 0, .int 0, .int 0, .int 0, .int 0, .int 0])), (dg, .inr (0, [.ref dp, .int 0, .long 0, .long 0, .int 0, .int (-1), .int 0, .ref dgt, .int 0, .ref dgu, .int 0, .ref dgn])), (dp, .inr (3, [.int 0, .int 0, .int 0, .int 0, .long 0, .ref dpf, .ref dpo, .ref dpb, .ref dpa])), (dpa, .inl (di, 100, .inl fa)), (dgt, .inl (dt, 4, .inl (fun _ => 0))), (dgu, .inl (du, 5, .inl (fun _ => 0))), (dgn, .inl (dn, 99, .inl (fun _ => 0))), (gd, .inr (0, [.ref pl, .int 0, .long 0, .long 0, .int 0, .int (-1), .int 0, .ref gdt, .int 0, .ref gdu, .int 0, .ref gdn])), (pl, .inr (3, [.int 0, .int 0, .int 0, .int 0, .long 0, .ref plf, .ref plo, .ref plb, .ref pla])), (pla, .inl (ci, 100, .inl fb)), (gdt, .inl (ct, 4, .inl (fun _ => 0))), (gdu, .inl (cu, 5, .inl (fun _ => 0))), (gdn, .inl (cn, 99, .inl (fun _ => 0)))])) (va_Qi (fun (r : Int32) (u : Unit) => r = 0) (fun (_ : Unit) (_ : State) => True) (va_A [(h0, .inr (6, [.ref tp, .int 0, .int 0, .int (-1), .ref rd, .ref gd, .ref im, .ref rw, .ref gn, .ref ho, .ref sq])), (tp, .inl (cb, 1600, .inl ft)), (rd, .inr (4, [.ref dg, .int 0, .int (-1), .null, .int 0, .int 0, .int 0, .int 0, .int 0, .int 0])), (dg, .inr (0, [.ref dp, .int 0, .long 0, .long 0, .int 0, .int (-1), .int 0, .ref dgt, .int 0, .ref dgu, .int 0, .ref dgn])), (dp, .inr (3, [.int 0, .int 0, .int 0, .int 0, .long 0, .ref dpf, .ref dpo, .ref dpb, .ref dpa])), (dpa, .inl (di, 100, .inl fa)), (dgt, .inl (dt, 4, .inl (fun _ => 0))), (dgu, .inl (du, 5, .inl (fun _ => 0))), (dgn, .inl (dn, 99, .inl (fun _ => 0))), (gd, .inr (0, [.ref pl, .int 0, .long 0, .long 0, .int 0, .int (-1), .int 0, .ref gdt, .int 0, .ref gdu, .int 0, .ref gdn])), (pl, .inr (3, [.int 0, .int 0, .int 0, .int 0, .long 0, .ref plf, .ref plo, .ref plb, .ref pla])), (pla, .inl (ci, 100, .inl fb)), (gdt, .inl (ct, 4, .inl (fun _ => 0))), (gdu, .inl (cu, 5, .inl (fun _ => 0))), (gdn, .inl (cn, 99, .inl (fun _ => 0)))] sz)) 0 0 (va_A [(h0, .inr (6, [.ref tp, .int 0, .int 0, .int (-1), .ref rd, .ref gd, .ref im, .ref rw, .ref gn, .ref ho, .ref sq])), (tp, .inl (cb, 1600, .inl ft)), (rd, .inr (4, [.ref dg, .int 0, .int (-1), .null, .int 0, .int 0, .int 0, .int 0, .int 0, .int 0])), (dg, .inr (0, [.ref dp, .int 0, .long 0, .long 0, .int 0, .int (-1), .int 0, .ref dgt, .int 0, .ref dgu, .int 0, .ref dgn])), (dp, .inr (3, [.int 0, .int 0, .int 0, .int 0, .long 0, .ref dpf, .ref dpo, .ref dpb, .ref dpa])), (dpa, .inl (di, 100, .inl fa)), (dgt, .inl (dt, 4, .inl (fun _ => 0))), (dgu, .inl (du, 5, .inl (fun _ => 0))), (dgn, .inl (dn, 99, .inl (fun _ => 0))), (gd, .inr (0, [.ref pl, .int 0, .long 0, .long 0, .int 0, .int (-1), .int 0, .ref gdt, .int 0, .ref gdu, .int 0, .ref gdn])), (pl, .inr (3, [.int 0, .int 0, .int 0, .int 0, .long 0, .ref plf, .ref plo, .ref plb, .ref pla])), (pla, .inl (ci, 100, .inl fb)), (gdt, .inl (ct, 4, .inl (fun _ => 0))), (gdu, .inl (cu, 5, .inl (fun _ => 0))), (gdn, .inl (cn, 99, .inl (fun _ => 0)))] sz) := by
  refine Met.ofW (cc := cX6_maze) (maxL := 1) (ret := (some .int)) (by decide) rfl ?_
  intro p e s m args below meth c s₁ B hml hv
  obtain ⟨rfl, hsz, hP, hK, hD0⟩ := hv
  have hx := B.exec
  have hb := B.bytes
  have hr := B.returns
  have hts := atoms_spec (ws := wz_X6_maze) B.pre
  have hown : s.vm.findClass RX6 = some m.cls := findClass_of_methodNamed B.named
  have hlocks := B.notSynchronized
  subst hsz
  have hD := hD0.self (sz := s.heap.size)
  generalize hAe : va_A [(h0, .inr (6, [.ref tp, .int 0, .int 0, .int (-1), .ref rd, .ref gd, .ref im, .ref rw, .ref gn, .ref ho, .ref sq])), (tp, .inl (cb, 1600, .inl ft)), (rd, .inr (4, [.ref dg, .int 0, .int (-1), .null, .int 0, .int 0, .int 0, .int 0, .int 0, .int 0])), (dg, .inr (0, [.ref dp, .int 0, .long 0, .long 0, .int 0, .int (-1), .int 0, .ref dgt, .int 0, .ref dgu, .int 0, .ref dgn])), (dp, .inr (3, [.int 0, .int 0, .int 0, .int 0, .long 0, .ref dpf, .ref dpo, .ref dpb, .ref dpa])), (dpa, .inl (di, 100, .inl fa)), (dgt, .inl (dt, 4, .inl (fun _ => 0))), (dgu, .inl (du, 5, .inl (fun _ => 0))), (dgn, .inl (dn, 99, .inl (fun _ => 0))), (gd, .inr (0, [.ref pl, .int 0, .long 0, .long 0, .int 0, .int (-1), .int 0, .ref gdt, .int 0, .ref gdu, .int 0, .ref gdn])), (pl, .inr (3, [.int 0, .int 0, .int 0, .int 0, .long 0, .ref plf, .ref plo, .ref plb, .ref pla])), (pla, .inl (ci, 100, .inl fb)), (gdt, .inl (ct, 4, .inl (fun _ => 0))), (gdu, .inl (cu, 5, .inl (fun _ => 0))), (gdn, .inl (cn, 99, .inl (fun _ => 0)))] s.heap.size = A at hD ⊢
  have hA : ∀ q : Nat, s.heap.size ≤ q → A q := fun q h => by rw [← hAe]; exact Or.inr h
  have hS : va_S A s.heap s.heap [] := va_S.rf
  have hP : va_P (dC, dI) vwCl [(h0, .inr (6, [.ref tp, .int 0, .int 0, .int (-1), .ref rd, .ref gd, .ref im, .ref rw, .ref gn, .ref ho, .ref sq])), (tp, .inl (cb, 1600, .inl ft)), (rd, .inr (4, [.ref dg, .int 0, .int (-1), .null, .int 0, .int 0, .int 0, .int 0, .int 0, .int 0])), (dg, .inr (0, [.ref dp, .int 0, .long 0, .long 0, .int 0, .int (-1), .int 0, .ref dgt, .int 0, .ref dgu, .int 0, .ref dgn])), (dp, .inr (3, [.int 0, .int 0, .int 0, .int 0, .long 0, .ref dpf, .ref dpo, .ref dpb, .ref dpa])), (dpa, .inl (di, 100, .inl fa)), (dgt, .inl (dt, 4, .inl (fun _ => 0))), (dgu, .inl (du, 5, .inl (fun _ => 0))), (dgn, .inl (dn, 99, .inl (fun _ => 0))), (gd, .inr (0, [.ref pl, .int 0, .long 0, .long 0, .int 0, .int (-1), .int 0, .ref gdt, .int 0, .ref gdu, .int 0, .ref gdn])), (pl, .inr (3, [.int 0, .int 0, .int 0, .int 0, .long 0, .ref plf, .ref plo, .ref plb, .ref pla])), (pla, .inl (ci, 100, .inl fb)), (gdt, .inl (ct, 4, .inl (fun _ => 0))), (gdu, .inl (cu, 5, .inl (fun _ => 0))), (gdn, .inl (cn, 99, .inl (fun _ => 0)))] s.heap := hP
  have hl := lv_entry ([.ref h0]) (n := 1) (Nat.le_of_ble_eq_true rfl)
  rw [lg_entry_eq]
  generalize (lg_sl ([.ref h0]) ++ List.replicate (1 - (lg_sl ([.ref h0])).length) Slot.unset).toArray = ls at hl ⊢
  have hl : lv_has ls 1 [(0, .ref h0)] := hl
  refine lv_aload_n hx hb dX6_maze_0 rfl (lv_at hl 0 rfl) ?_
  refine va_get (D := (dC, dI)) (ci := 6) (v := .ref rd) (C := RX6) (T := TX6) (N := 11) hx hb hts in_X6_maze_X6 hown hK hP 0 rfl rfl 4 (by decide) (hts _ wd_X6_maze_0) (fun _ h9 => h9) rfl dX6_maze_1 ?_
  refine lv_aload_n hx hb dX6_maze_4 rfl (lv_at hl 0 rfl) ?_
  refine va_get (D := (dC, dI)) (ci := 6) (v := .ref tp) (C := RX6) (T := TX6) (N := 11) hx hb hts in_X6_maze_X6 hown hK hP 0 rfl rfl 0 (by decide) (hts _ wd_X6_maze_1) (fun _ h9 => h9) rfl dX6_maze_5 ?_
  refine lv_aload_n hx hb dX6_maze_8 rfl (lv_at hl 0 rfl) ?_
  refine va_get (D := (dC, dI)) (ci := 6) (v := .int 0) (C := RX6) (T := TX6) (N := 11) hx hb hts in_X6_maze_X6 hown hK hP 0 rfl rfl 1 (by decide) (hts _ wd_X6_maze_2) (fun _ h9 => h9) rfl dX6_maze_9 ?_
  have hPc := hP.sub (ws' := [(rd, .inr (4, [.ref dg, .int 0, .int (-1), .null, .int 0, .int 0, .int 0, .int 0, .int 0, .int 0])), (dg, .inr (0, [.ref dp, .int 0, .long 0, .long 0, .int 0, .int (-1), .int 0, .ref dgt, .int 0, .ref dgu, .int 0, .ref dgn])), (dp, .inr (3, [.int 0, .int 0, .int 0, .int 0, .long 0, .ref dpf, .ref dpo, .ref dpb, .ref dpa])), (dpa, .inl (di, 100, .inl fa)), (tp, .inl (cb, 1600, .inl ft))]) [2, 3, 4, 5, 1] rfl
  have hDc := hD.sub (ws' := [(rd, .inr (4, [.ref dg, .int 0, .int (-1), .null, .int 0, .int 0, .int 0, .int 0, .int 0, .int 0])), (dg, .inr (0, [.ref dp, .int 0, .long 0, .long 0, .int 0, .int (-1), .int 0, .ref dgt, .int 0, .ref dgu, .int 0, .ref dgn])), (dp, .inr (3, [.int 0, .int 0, .int 0, .int 0, .long 0, .ref dpf, .ref dpo, .ref dpb, .ref dpa])), (dpa, .inl (di, 100, .inl fa)), (tp, .inl (cb, 1600, .inl ft))]) [2, 3, 4, 5, 1] (by decide) rfl
  have hKc := hK.sub (tys' := [(di, .int), (cb, .byte)]) [1, 0] rfl
  have hFc := va_free (wc := [(rd, .inr (4, [.ref dg, .int 0, .int (-1), .null, .int 0, .int 0, .int 0, .int 0, .int 0, .int 0])), (dg, .inr (0, [.ref dp, .int 0, .long 0, .long 0, .int 0, .int (-1), .int 0, .ref dgt, .int 0, .ref dgu, .int 0, .ref dgn])), (dp, .inr (3, [.int 0, .int 0, .int 0, .int 0, .long 0, .ref dpf, .ref dpo, .ref dpb, .ref dpa])), (dpa, .inl (di, 100, .inl fa)), (tp, .inl (cb, 1600, .inl ft))]) hD hS hA [2, 3, 4, 5, 1] rfl
  refine va_callv (va_runV (As := [.ref tp, .int 0]) (rest := []) ⟨hx, hb, hml, hown, hts⟩ (c_X4_readTape l dC dI s.heap.size rd dg tp dp dgt dgu dgn dpf dpo dpb dpa di cb fa ft ) (cwV 2 hts g_X6_maze_X4_readTape rfl rfl rfl (by decide +kernel) ⟨Nat.le_of_ble_eq_true rfl, Nat.le_of_ble_eq_true rfl⟩) ⟨fun a U g mk q => by obtain ⟨q0, q1, qP, qK, qD⟩ := q; exact ⟨q0, q1, qP, va_K.moved (u := U) (U := U.calling g mk a) (Vm.Alike.refl U.vm) qK, qD⟩, va_recv hKc hPc (ci := 4) (q0 := 0) rfl rfl, fun U hU hW => ⟨rfl, by rw [hU], by rw [hU]; exact hPc, va_K.moved hW.alike hKc, hDc.weaken (fun _ _ _ _ => trivial)⟩⟩ rfl rfl hl.1 rfl (lv_room (Nat.le_of_ble_eq_true rfl)) dX6_maze_12 ⟨Nat.le_of_ble_eq_true rfl, Nat.le_of_ble_eq_true rfl⟩) hS (fun q _ h => hFc q h) hFc (fun u t H1 locs ht hvm hw_1 hB hz1 hk1 hS => ?_)
  obtain ⟨f2_2, rfl⟩ : ∃ z, z = u := ⟨_, rfl⟩
  obtain ⟨hP1, hK1, hD1⟩ := hB
  have hP1 : va_P (dC, dI) vwCl [(rd, .inr (4, [.ref dg, .int 0, .int (-1), .ref tp, .int 0, .int 0, .int 0, .int 0, .int 0, .int 0])), (dg, .inr (0, [.ref dp, .int 0, .long 0, .long 0, .int 0, .int (-1), .int 0, .ref dgt, .int 0, .ref dgu, .int 0, .ref dgn])), (dp, .inr (3, [.int 0, .int 0, .int 0, .int 0, .long 0, .ref dpf, .ref dpo, .ref dpb, .ref dpa])), (dpa, .inl (di, 100, .inl f2_2))] t.heap := hP1
  rw [ht] at hP1
  try dsimp only at hw_1
  obtain ⟨hP, hD⟩ := va_join (wr := [(h0, .inr (6, [.ref tp, .int 0, .int 0, .int (-1), .ref rd, .ref gd, .ref im, .ref rw, .ref gn, .ref ho, .ref sq])), (dgt, .inl (dt, 4, .inl (fun _ => 0))), (dgu, .inl (du, 5, .inl (fun _ => 0))), (dgn, .inl (dn, 99, .inl (fun _ => 0))), (gd, .inr (0, [.ref pl, .int 0, .long 0, .long 0, .int 0, .int (-1), .int 0, .ref gdt, .int 0, .ref gdu, .int 0, .ref gdn])), (pl, .inr (3, [.int 0, .int 0, .int 0, .int 0, .long 0, .ref plf, .ref plo, .ref plb, .ref pla])), (pla, .inl (ci, 100, .inl fb)), (gdt, .inl (ct, 4, .inl (fun _ => 0))), (gdu, .inl (cu, 5, .inl (fun _ => 0))), (gdn, .inl (cn, 99, .inl (fun _ => 0)))]) (w1 := [(rd, .inr (4, [.ref dg, .int 0, .int (-1), .ref tp, .int 0, .int 0, .int 0, .int 0, .int 0, .int 0])), (dg, .inr (0, [.ref dp, .int 0, .long 0, .long 0, .int 0, .int (-1), .int 0, .ref dgt, .int 0, .ref dgu, .int 0, .ref dgn])), (dp, .inr (3, [.int 0, .int 0, .int 0, .int 0, .long 0, .ref dpf, .ref dpo, .ref dpb, .ref dpa])), (dpa, .inl (di, 100, .inl f2_2))]) hP hD [2, 3, 4, 5, 1] [0, 6, 7, 8, 9, 10, 11, 12, 13, 14] rfl rfl (by decide) (by decide) hk1 hFc hP1 hD1
  generalize H1 = H at hP hS ⊢
  have hP : va_P (dC, dI) vwCl [(h0, .inr (6, [.ref tp, .int 0, .int 0, .int (-1), .ref rd, .ref gd, .ref im, .ref rw, .ref gn, .ref ho, .ref sq])), (dgt, .inl (dt, 4, .inl (fun _ => 0))), (dgu, .inl (du, 5, .inl (fun _ => 0))), (dgn, .inl (dn, 99, .inl (fun _ => 0))), (gd, .inr (0, [.ref pl, .int 0, .long 0, .long 0, .int 0, .int (-1), .int 0, .ref gdt, .int 0, .ref gdu, .int 0, .ref gdn])), (pl, .inr (3, [.int 0, .int 0, .int 0, .int 0, .long 0, .ref plf, .ref plo, .ref plb, .ref pla])), (pla, .inl (ci, 100, .inl fb)), (gdt, .inl (ct, 4, .inl (fun _ => 0))), (gdu, .inl (cu, 5, .inl (fun _ => 0))), (gdn, .inl (cn, 99, .inl (fun _ => 0))), (rd, .inr (4, [.ref dg, .int 0, .int (-1), .ref tp, .int 0, .int 0, .int 0, .int 0, .int 0, .int 0])), (dg, .inr (0, [.ref dp, .int 0, .long 0, .long 0, .int 0, .int (-1), .int 0, .ref dgt, .int 0, .ref dgu, .int 0, .ref dgn])), (dp, .inr (3, [.int 0, .int 0, .int 0, .int 0, .long 0, .ref dpf, .ref dpo, .ref dpb, .ref dpa])), (dpa, .inl (di, 100, .inl f2_2))] H := hP
  have hD : va_D A [(h0, .inr (6, [.ref tp, .int 0, .int 0, .int (-1), .ref rd, .ref gd, .ref im, .ref rw, .ref gn, .ref ho, .ref sq])), (dgt, .inl (dt, 4, .inl (fun _ => 0))), (dgu, .inl (du, 5, .inl (fun _ => 0))), (dgn, .inl (dn, 99, .inl (fun _ => 0))), (gd, .inr (0, [.ref pl, .int 0, .long 0, .long 0, .int 0, .int (-1), .int 0, .ref gdt, .int 0, .ref gdu, .int 0, .ref gdn])), (pl, .inr (3, [.int 0, .int 0, .int 0, .int 0, .long 0, .ref plf, .ref plo, .ref plb, .ref pla])), (pla, .inl (ci, 100, .inl fb)), (gdt, .inl (ct, 4, .inl (fun _ => 0))), (gdu, .inl (cu, 5, .inl (fun _ => 0))), (gdn, .inl (cn, 99, .inl (fun _ => 0))), (rd, .inr (4, [.ref dg, .int 0, .int (-1), .ref tp, .int 0, .int 0, .int 0, .int 0, .int 0, .int 0])), (dg, .inr (0, [.ref dp, .int 0, .long 0, .long 0, .int 0, .int (-1), .int 0, .ref dgt, .int 0, .ref dgu, .int 0, .ref dgn])), (dp, .inr (3, [.int 0, .int 0, .int 0, .int 0, .long 0, .ref dpf, .ref dpo, .ref dpb, .ref dpa])), (dpa, .inl (di, 100, .inl f2_2))] := hD
  refine lv_aload_n hx hb dX6_maze_15 rfl (lv_at hl 0 rfl) ?_
  refine lv_aload_n hx hb dX6_maze_16 rfl (lv_at hl 0 rfl) ?_
  refine va_get (D := (dC, dI)) (ci := 6) (v := .ref rd) (C := RX6) (T := TX6) (N := 11) hx hb hts in_X6_maze_X6 hown hK hP 0 rfl rfl 4 (by decide) (hts _ wd_X6_maze_0) (fun _ h9 => h9) rfl dX6_maze_17 ?_
  refine va_get (D := (dC, dI)) (ci := 4) (v := .int 0) (C := RX4) (T := TX4) (N := 10) hx hb hts in_X6_maze_X4 hown hK hP 10 rfl rfl 1 (by decide) (hts _ wd_X6_maze_3) (fun _ h9 => h9) rfl dX6_maze_20 ?_
  refine va_put (D := (dC, dI)) (ci := 6) (v := .int 0) (ty := .int) (C := RX6) (T := TX6) (N := 11) hx hb hts in_X6_maze_X6 tyX6 tyX6_ok nmX6 hown hK hP hD hS 0 rfl rfl 2 (by decide) (hts _ wd_X6_maze_4) (fun _ h9 => h9) rfl (by decide +kernel) rfl rfl (Nat.le_of_ble_eq_true rfl) dX6_maze_23 (fun H locs hP hD hS => ?_)
  have hP : va_P (dC, dI) vwCl [(h0, .inr (6, [.ref tp, .int 0, .int 0, .int (-1), .ref rd, .ref gd, .ref im, .ref rw, .ref gn, .ref ho, .ref sq])), (dgt, .inl (dt, 4, .inl (fun _ => 0))), (dgu, .inl (du, 5, .inl (fun _ => 0))), (dgn, .inl (dn, 99, .inl (fun _ => 0))), (gd, .inr (0, [.ref pl, .int 0, .long 0, .long 0, .int 0, .int (-1), .int 0, .ref gdt, .int 0, .ref gdu, .int 0, .ref gdn])), (pl, .inr (3, [.int 0, .int 0, .int 0, .int 0, .long 0, .ref plf, .ref plo, .ref plb, .ref pla])), (pla, .inl (ci, 100, .inl fb)), (gdt, .inl (ct, 4, .inl (fun _ => 0))), (gdu, .inl (cu, 5, .inl (fun _ => 0))), (gdn, .inl (cn, 99, .inl (fun _ => 0))), (rd, .inr (4, [.ref dg, .int 0, .int (-1), .ref tp, .int 0, .int 0, .int 0, .int 0, .int 0, .int 0])), (dg, .inr (0, [.ref dp, .int 0, .long 0, .long 0, .int 0, .int (-1), .int 0, .ref dgt, .int 0, .ref dgu, .int 0, .ref dgn])), (dp, .inr (3, [.int 0, .int 0, .int 0, .int 0, .long 0, .ref dpf, .ref dpo, .ref dpb, .ref dpa])), (dpa, .inl (di, 100, .inl f2_2))] H := hP
  have hD : va_D A [(h0, .inr (6, [.ref tp, .int 0, .int 0, .int (-1), .ref rd, .ref gd, .ref im, .ref rw, .ref gn, .ref ho, .ref sq])), (dgt, .inl (dt, 4, .inl (fun _ => 0))), (dgu, .inl (du, 5, .inl (fun _ => 0))), (dgn, .inl (dn, 99, .inl (fun _ => 0))), (gd, .inr (0, [.ref pl, .int 0, .long 0, .long 0, .int 0, .int (-1), .int 0, .ref gdt, .int 0, .ref gdu, .int 0, .ref gdn])), (pl, .inr (3, [.int 0, .int 0, .int 0, .int 0, .long 0, .ref plf, .ref plo, .ref plb, .ref pla])), (pla, .inl (ci, 100, .inl fb)), (gdt, .inl (ct, 4, .inl (fun _ => 0))), (gdu, .inl (cu, 5, .inl (fun _ => 0))), (gdn, .inl (cn, 99, .inl (fun _ => 0))), (rd, .inr (4, [.ref dg, .int 0, .int (-1), .ref tp, .int 0, .int 0, .int 0, .int 0, .int 0, .int 0])), (dg, .inr (0, [.ref dp, .int 0, .long 0, .long 0, .int 0, .int (-1), .int 0, .ref dgt, .int 0, .ref dgu, .int 0, .ref dgn])), (dp, .inr (3, [.int 0, .int 0, .int 0, .int 0, .long 0, .ref dpf, .ref dpo, .ref dpb, .ref dpa])), (dpa, .inl (di, 100, .inl f2_2))] := hD
  refine lv_aload_n hx hb dX6_maze_26 rfl (lv_at hl 0 rfl) ?_
  refine lv_aload_n hx hb dX6_maze_27 rfl (lv_at hl 0 rfl) ?_
  refine va_get (D := (dC, dI)) (ci := 6) (v := .ref rd) (C := RX6) (T := TX6) (N := 11) hx hb hts in_X6_maze_X6 hown hK hP 0 rfl rfl 4 (by decide) (hts _ wd_X6_maze_0) (fun _ h9 => h9) rfl dX6_maze_28 ?_
  refine va_get (D := (dC, dI)) (ci := 4) (v := .int (-1)) (C := RX4) (T := TX4) (N := 10) hx hb hts in_X6_maze_X4 hown hK hP 10 rfl rfl 2 (by decide) (hts _ wd_X6_maze_5) (fun _ h9 => h9) rfl dX6_maze_31 ?_
  refine va_put (D := (dC, dI)) (ci := 6) (v := .int (-1)) (ty := .int) (C := RX6) (T := TX6) (N := 11) hx hb hts in_X6_maze_X6 tyX6 tyX6_ok nmX6 hown hK hP hD hS 0 rfl rfl 3 (by decide) (hts _ wd_X6_maze_6) (fun _ h9 => h9) rfl (by decide +kernel) rfl rfl (Nat.le_of_ble_eq_true rfl) dX6_maze_34 (fun H locs hP hD hS => ?_)
  have hP : va_P (dC, dI) vwCl [(h0, .inr (6, [.ref tp, .int 0, .int 0, .int (-1), .ref rd, .ref gd, .ref im, .ref rw, .ref gn, .ref ho, .ref sq])), (dgt, .inl (dt, 4, .inl (fun _ => 0))), (dgu, .inl (du, 5, .inl (fun _ => 0))), (dgn, .inl (dn, 99, .inl (fun _ => 0))), (gd, .inr (0, [.ref pl, .int 0, .long 0, .long 0, .int 0, .int (-1), .int 0, .ref gdt, .int 0, .ref gdu, .int 0, .ref gdn])), (pl, .inr (3, [.int 0, .int 0, .int 0, .int 0, .long 0, .ref plf, .ref plo, .ref plb, .ref pla])), (pla, .inl (ci, 100, .inl fb)), (gdt, .inl (ct, 4, .inl (fun _ => 0))), (gdu, .inl (cu, 5, .inl (fun _ => 0))), (gdn, .inl (cn, 99, .inl (fun _ => 0))), (rd, .inr (4, [.ref dg, .int 0, .int (-1), .ref tp, .int 0, .int 0, .int 0, .int 0, .int 0, .int 0])), (dg, .inr (0, [.ref dp, .int 0, .long 0, .long 0, .int 0, .int (-1), .int 0, .ref dgt, .int 0, .ref dgu, .int 0, .ref dgn])), (dp, .inr (3, [.int 0, .int 0, .int 0, .int 0, .long 0, .ref dpf, .ref dpo, .ref dpb, .ref dpa])), (dpa, .inl (di, 100, .inl f2_2))] H := hP
  have hD : va_D A [(h0, .inr (6, [.ref tp, .int 0, .int 0, .int (-1), .ref rd, .ref gd, .ref im, .ref rw, .ref gn, .ref ho, .ref sq])), (dgt, .inl (dt, 4, .inl (fun _ => 0))), (dgu, .inl (du, 5, .inl (fun _ => 0))), (dgn, .inl (dn, 99, .inl (fun _ => 0))), (gd, .inr (0, [.ref pl, .int 0, .long 0, .long 0, .int 0, .int (-1), .int 0, .ref gdt, .int 0, .ref gdu, .int 0, .ref gdn])), (pl, .inr (3, [.int 0, .int 0, .int 0, .int 0, .long 0, .ref plf, .ref plo, .ref plb, .ref pla])), (pla, .inl (ci, 100, .inl fb)), (gdt, .inl (ct, 4, .inl (fun _ => 0))), (gdu, .inl (cu, 5, .inl (fun _ => 0))), (gdn, .inl (cn, 99, .inl (fun _ => 0))), (rd, .inr (4, [.ref dg, .int 0, .int (-1), .ref tp, .int 0, .int 0, .int 0, .int 0, .int 0, .int 0])), (dg, .inr (0, [.ref dp, .int 0, .long 0, .long 0, .int 0, .int (-1), .int 0, .ref dgt, .int 0, .ref dgu, .int 0, .ref dgn])), (dp, .inr (3, [.int 0, .int 0, .int 0, .int 0, .long 0, .ref dpf, .ref dpo, .ref dpb, .ref dpa])), (dpa, .inl (di, 100, .inl f2_2))] := hD
  refine lv_aload_n hx hb dX6_maze_37 rfl (lv_at hl 0 rfl) ?_
  refine va_get (D := (dC, dI)) (ci := 6) (v := .int 0) (C := RX6) (T := TX6) (N := 11) hx hb hts in_X6_maze_X6 hown hK hP 0 rfl rfl 2 (by decide) (hts _ wd_X6_maze_4) (fun _ h9 => h9) rfl dX6_maze_38 ?_
  refine lv_if_eq (tgt := 47) hx hb dX6_maze_41 (by decide) (fun _ => ?_) (fun h => absurd (by decide) h)
  refine lv_aload_n hx hb dX6_maze_47 rfl (lv_at hl 0 rfl) ?_
  refine va_get (D := (dC, dI)) (ci := 6) (v := .ref gd) (C := RX6) (T := TX6) (N := 11) hx hb hts in_X6_maze_X6 hown hK hP 0 rfl rfl 5 (by decide) (hts _ wd_X6_maze_7) (fun _ h9 => h9) rfl dX6_maze_48 ?_
  refine lv_aload_n hx hb dX6_maze_51 rfl (lv_at hl 0 rfl) ?_
  refine va_get (D := (dC, dI)) (ci := 6) (v := .ref rd) (C := RX6) (T := TX6) (N := 11) hx hb hts in_X6_maze_X6 hown hK hP 0 rfl rfl 4 (by decide) (hts _ wd_X6_maze_0) (fun _ h9 => h9) rfl dX6_maze_52 ?_
  refine va_get (D := (dC, dI)) (ci := 4) (v := .ref dg) (C := RX4) (T := TX4) (N := 10) hx hb hts in_X6_maze_X4 hown hK hP 10 rfl rfl 0 (by decide) (hts _ wd_X6_maze_8) (fun _ h9 => h9) rfl dX6_maze_55 ?_
  have hPc := hP.sub (ws' := [(gd, .inr (0, [.ref pl, .int 0, .long 0, .long 0, .int 0, .int (-1), .int 0, .ref gdt, .int 0, .ref gdu, .int 0, .ref gdn])), (pl, .inr (3, [.int 0, .int 0, .int 0, .int 0, .long 0, .ref plf, .ref plo, .ref plb, .ref pla])), (pla, .inl (ci, 100, .inl fb)), (gdt, .inl (ct, 4, .inl (fun _ => 0))), (gdu, .inl (cu, 5, .inl (fun _ => 0))), (gdn, .inl (cn, 99, .inl (fun _ => 0))), (dg, .inr (0, [.ref dp, .int 0, .long 0, .long 0, .int 0, .int (-1), .int 0, .ref dgt, .int 0, .ref dgu, .int 0, .ref dgn])), (dp, .inr (3, [.int 0, .int 0, .int 0, .int 0, .long 0, .ref dpf, .ref dpo, .ref dpb, .ref dpa])), (dgt, .inl (dt, 4, .inl (fun _ => 0))), (dgu, .inl (du, 5, .inl (fun _ => 0))), (dgn, .inl (dn, 99, .inl (fun _ => 0)))]) [4, 5, 6, 7, 8, 9, 11, 12, 1, 2, 3] rfl
  have hDc := hD.sub (ws' := [(gd, .inr (0, [.ref pl, .int 0, .long 0, .long 0, .int 0, .int (-1), .int 0, .ref gdt, .int 0, .ref gdu, .int 0, .ref gdn])), (pl, .inr (3, [.int 0, .int 0, .int 0, .int 0, .long 0, .ref plf, .ref plo, .ref plb, .ref pla])), (pla, .inl (ci, 100, .inl fb)), (gdt, .inl (ct, 4, .inl (fun _ => 0))), (gdu, .inl (cu, 5, .inl (fun _ => 0))), (gdn, .inl (cn, 99, .inl (fun _ => 0))), (dg, .inr (0, [.ref dp, .int 0, .long 0, .long 0, .int 0, .int (-1), .int 0, .ref dgt, .int 0, .ref dgu, .int 0, .ref dgn])), (dp, .inr (3, [.int 0, .int 0, .int 0, .int 0, .long 0, .ref dpf, .ref dpo, .ref dpb, .ref dpa])), (dgt, .inl (dt, 4, .inl (fun _ => 0))), (dgu, .inl (du, 5, .inl (fun _ => 0))), (dgn, .inl (dn, 99, .inl (fun _ => 0)))]) [4, 5, 6, 7, 8, 9, 11, 12, 1, 2, 3] (by decide) rfl
  have hKc := hK.sub (tys' := [(ci, .int), (ct, .int), (cu, .int), (cn, .int), (dt, .int), (du, .int), (dn, .int)]) [5, 6, 7, 8, 2, 3, 4] rfl
  have hFc := va_free (wc := [(gd, .inr (0, [.ref pl, .int 0, .long 0, .long 0, .int 0, .int (-1), .int 0, .ref gdt, .int 0, .ref gdu, .int 0, .ref gdn])), (pl, .inr (3, [.int 0, .int 0, .int 0, .int 0, .long 0, .ref plf, .ref plo, .ref plb, .ref pla])), (pla, .inl (ci, 100, .inl fb)), (gdt, .inl (ct, 4, .inl (fun _ => 0))), (gdu, .inl (cu, 5, .inl (fun _ => 0))), (gdn, .inl (cn, 99, .inl (fun _ => 0))), (dg, .inr (0, [.ref dp, .int 0, .long 0, .long 0, .int 0, .int (-1), .int 0, .ref dgt, .int 0, .ref dgu, .int 0, .ref dgn])), (dp, .inr (3, [.int 0, .int 0, .int 0, .int 0, .long 0, .ref dpf, .ref dpo, .ref dpb, .ref dpa])), (dgt, .inl (dt, 4, .inl (fun _ => 0))), (dgu, .inl (du, 5, .inl (fun _ => 0))), (dgn, .inl (dn, 99, .inl (fun _ => 0)))]) hD hS hA [4, 5, 6, 7, 8, 9, 11, 12, 1, 2, 3] rfl
  refine va_callv (va_runV (As := [.ref dg]) (rest := []) ⟨hx, hb, hml, hown, hts⟩ (c_X0_becomeLike l dC dI H.size gd pl gdt gdu gdn plf plo plb pla ci ct cu cn fb dg dp dgt dgu dgn dpf dpo dpb dpa dt du dn ) (cwV 1 hts g_X6_maze_X0_becomeLike rfl rfl rfl (by decide +kernel) ⟨Nat.le_of_ble_eq_true rfl, Nat.le_of_ble_eq_true rfl⟩) ⟨fun a U g mk q => by obtain ⟨q0, q1, qP, qK, qD⟩ := q; exact ⟨q0, q1, qP, va_K.moved (u := U) (U := U.calling g mk a) (Vm.Alike.refl U.vm) qK, qD⟩, va_recv hKc hPc (ci := 0) (q0 := 0) rfl rfl, fun U hU hW => ⟨rfl, by rw [hU], by rw [hU]; exact hPc, va_K.moved hW.alike hKc, hDc.weaken (fun _ _ _ _ => trivial)⟩⟩ rfl rfl hl.1 rfl (lv_room (Nat.le_of_ble_eq_true rfl)) dX6_maze_58 ⟨Nat.le_of_ble_eq_true rfl, Nat.le_of_ble_eq_true rfl⟩) hS (fun q _ h => hFc q h) hFc (fun u t H1 locs ht hvm hw_4 hB hz1 hk1 hS => ?_)
  obtain ⟨hP1, hK1, hD1⟩ := hB
  have hP1 : va_P (dC, dI) vwCl [(gd, .inr (0, [.ref pl, .int 0, .long 0, .long 0, .int 0, .int (-1), .int 0, .ref gdt, .int 0, .ref gdu, .int 0, .ref gdn]))] t.heap := hP1
  rw [ht] at hP1
  try dsimp only at hw_4
  obtain ⟨hP, hD⟩ := va_join (wr := [(h0, .inr (6, [.ref tp, .int 0, .int 0, .int (-1), .ref rd, .ref gd, .ref im, .ref rw, .ref gn, .ref ho, .ref sq])), (rd, .inr (4, [.ref dg, .int 0, .int (-1), .ref tp, .int 0, .int 0, .int 0, .int 0, .int 0, .int 0])), (dpa, .inl (di, 100, .inl f2_2))]) (w1 := [(gd, .inr (0, [.ref pl, .int 0, .long 0, .long 0, .int 0, .int (-1), .int 0, .ref gdt, .int 0, .ref gdu, .int 0, .ref gdn]))]) hP hD [4, 5, 6, 7, 8, 9, 11, 12, 1, 2, 3] [0, 10, 13] rfl rfl (by decide) (by decide) hk1 hFc hP1 hD1
  generalize H1 = H at hP hS ⊢
  have hP : va_P (dC, dI) vwCl [(h0, .inr (6, [.ref tp, .int 0, .int 0, .int (-1), .ref rd, .ref gd, .ref im, .ref rw, .ref gn, .ref ho, .ref sq])), (rd, .inr (4, [.ref dg, .int 0, .int (-1), .ref tp, .int 0, .int 0, .int 0, .int 0, .int 0, .int 0])), (dpa, .inl (di, 100, .inl f2_2)), (gd, .inr (0, [.ref pl, .int 0, .long 0, .long 0, .int 0, .int (-1), .int 0, .ref gdt, .int 0, .ref gdu, .int 0, .ref gdn]))] H := hP
  have hD : va_D A [(h0, .inr (6, [.ref tp, .int 0, .int 0, .int (-1), .ref rd, .ref gd, .ref im, .ref rw, .ref gn, .ref ho, .ref sq])), (rd, .inr (4, [.ref dg, .int 0, .int (-1), .ref tp, .int 0, .int 0, .int 0, .int 0, .int 0, .int 0])), (dpa, .inl (di, 100, .inl f2_2)), (gd, .inr (0, [.ref pl, .int 0, .long 0, .long 0, .int 0, .int (-1), .int 0, .ref gdt, .int 0, .ref gdu, .int 0, .ref gdn]))] := hD
  refine lv_aload_n hx hb dX6_maze_61 rfl (lv_at hl 0 rfl) ?_
  refine lv_iconst (v := 0) hx hb dX6_maze_62 (by decide) ?_
  refine va_put (D := (dC, dI)) (ci := 6) (v := .int 0) (ty := .int) (C := RX6) (T := TX6) (N := 11) hx hb hts in_X6_maze_X6 tyX6 tyX6_ok nmX6 hown hK hP hD hS 0 rfl rfl 1 (by decide) (hts _ wd_X6_maze_2) (fun _ h9 => h9) rfl (by decide +kernel) rfl rfl (Nat.le_of_ble_eq_true rfl) dX6_maze_63 (fun H locs hP hD hS => ?_)
  have hP : va_P (dC, dI) vwCl [(h0, .inr (6, [.ref tp, .int 0, .int 0, .int (-1), .ref rd, .ref gd, .ref im, .ref rw, .ref gn, .ref ho, .ref sq])), (rd, .inr (4, [.ref dg, .int 0, .int (-1), .ref tp, .int 0, .int 0, .int 0, .int 0, .int 0, .int 0])), (dpa, .inl (di, 100, .inl f2_2)), (gd, .inr (0, [.ref pl, .int 0, .long 0, .long 0, .int 0, .int (-1), .int 0, .ref gdt, .int 0, .ref gdu, .int 0, .ref gdn]))] H := hP
  have hD : va_D A [(h0, .inr (6, [.ref tp, .int 0, .int 0, .int (-1), .ref rd, .ref gd, .ref im, .ref rw, .ref gn, .ref ho, .ref sq])), (rd, .inr (4, [.ref dg, .int 0, .int (-1), .ref tp, .int 0, .int 0, .int 0, .int 0, .int 0, .int 0])), (dpa, .inl (di, 100, .inl f2_2)), (gd, .inr (0, [.ref pl, .int 0, .long 0, .long 0, .int 0, .int (-1), .int 0, .ref gdt, .int 0, .ref gdu, .int 0, .ref gdn]))] := hD
  refine lv_aload_n hx hb dX6_maze_66 rfl (lv_at hl 0 rfl) ?_
  refine va_get (D := (dC, dI)) (ci := 6) (v := .ref gd) (C := RX6) (T := TX6) (N := 11) hx hb hts in_X6_maze_X6 hown hK hP 0 rfl rfl 5 (by decide) (hts _ wd_X6_maze_7) (fun _ h9 => h9) rfl dX6_maze_67 ?_
  refine va_get (D := (dC, dI)) (ci := 0) (v := .int 0) (C := RX0) (T := TX0) (N := 12) hx hb hts in_X6_maze_X0 hown hK hP 3 rfl rfl 1 (by decide) (hts _ wd_X6_maze_9) (fun _ h9 => h9) rfl dX6_maze_70 ?_
  refine W.widen (k := 0) (n := 0) (by omega) (by omega) ?_
  exact W.iret (v := 0) hx hb hr (fun t ht hW => ⟨⟨0, (), rfl, (by first | rfl | ((repeat' split) <;> (first | rfl | (exfalso; omega)))), trivial⟩, hS.F ht⟩) hS.2.2 dX6_maze_73

