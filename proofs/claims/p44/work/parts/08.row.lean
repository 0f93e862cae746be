theorem dX5_begin_0 : decode cX5_begin 0 = .ok (.aload_n 0, 1) := by decide +kernel
theorem dX5_begin_1 : decode cX5_begin 1 = .ok (.iconst 1, 1) := by decide +kernel
theorem dX5_begin_2 : decode cX5_begin 2 = .ok (.putfield 9, 3) := by decide +kernel
theorem dX5_begin_5 : decode cX5_begin 5 = .ok (.aload_n 0, 1) := by decide +kernel
theorem dX5_begin_6 : decode cX5_begin 6 = .ok (.iload_n 1, 1) := by decide +kernel
theorem dX5_begin_7 : decode cX5_begin 7 = .ok (.putfield 15, 3) := by decide +kernel
theorem dX5_begin_10 : decode cX5_begin 10 = .ok (.aload_n 0, 1) := by decide +kernel
theorem dX5_begin_11 : decode cX5_begin 11 = .ok (.iload_n 2, 1) := by decide +kernel
theorem dX5_begin_12 : decode cX5_begin 12 = .ok (.putfield 19, 3) := by decide +kernel
theorem dX5_begin_15 : decode cX5_begin 15 = .ok (.aload_n 0, 1) := by decide +kernel
theorem dX5_begin_16 : decode cX5_begin 16 = .ok (.getfield 22, 3) := by decide +kernel
theorem dX5_begin_19 : decode cX5_begin 19 = .ok (.lconst 0, 1) := by decide +kernel
theorem dX5_begin_20 : decode cX5_begin 20 = .ok (.invokestatic 26, 3) := by decide +kernel
theorem dX5_begin_23 : decode cX5_begin 23 = .ok (.return_, 1) := by decide +kernel
def wz_X5_begin : List Cond := .code yX5_begin cX5_begin 3 none :: ([Cond.fieldLink RX5 9 "HedgeMaze$Row" "there" "Z", Cond.fieldLink RX5 15 "HedgeMaze$Row" "width" "I", Cond.fieldLink RX5 19 "HedgeMaze$Row" "size" "I", Cond.fieldLink RX5 22 "HedgeMaze$Row" "numbers" "[J", Cond.methodLink RX5 26 yJ7_fill_d0a16, Cond.static yJ7_fill_d0a16, Cond.initialized RJ7, Cond.code yJ7_fill_d0a16 cJ7_fill_d0a16 5 none] ++ wsX50)
theorem wd_X5_begin_0 : Cond.fieldLink RX5 9 "HedgeMaze$Row" "there" "Z" ∈ wz_X5_begin := List.mem_of_getElem? (i := 1) rfl
theorem wd_X5_begin_1 : Cond.fieldLink RX5 15 "HedgeMaze$Row" "width" "I" ∈ wz_X5_begin := List.mem_of_getElem? (i := 2) rfl
theorem wd_X5_begin_2 : Cond.fieldLink RX5 19 "HedgeMaze$Row" "size" "I" ∈ wz_X5_begin := List.mem_of_getElem? (i := 3) rfl
theorem wd_X5_begin_3 : Cond.fieldLink RX5 22 "HedgeMaze$Row" "numbers" "[J" ∈ wz_X5_begin := List.mem_of_getElem? (i := 4) rfl
theorem in_X5_begin_X5 : ∀ w ∈ wsX50, w ∈ wz_X5_begin := fun _ h => List.mem_cons_of_mem _ (List.mem_append_right _ h)
set_option maxRecDepth 20000 in
theorem g_X5_begin_J7_fill_d0a16 : GoodIn wz_X5_begin (va_wsS RX5 26 yJ7_fill_d0a16 wz_J7_fill_d0a16) := goodIn_r _ [5, 6, 7, 8] rfl (by decide +kernel)
set_option maxHeartbeats 4000000 in
set_option maxRecDepth 100000 in
theorem c_X5_begin (l : Launch) (dC : Nat → ClassId) (dI : Nat → Nat → Nat) (sz : Nat) (ro : Nat) (rt : Int32) (rwd : Int32) (rs : Int32) (rn : Nat) (rk : ClassId) (RN : Nat → Int64) (p0 : Int32) (p1 : Int32)  : Met l yX5_begin wz_X5_begin ({ frames := 1, cells := 0, slots := 0, locals := 24 }) (va_Pc [.ref ro, .int p0, .int p1] (fun U => U.heap.size = sz ∧ va_P (dC, dI) vwCl [(ro, .inr (5, [.int rt, .int rwd, .int rs, .ref rn])), (rn, .inl (rk, 60, .inr (.inl RN)))] U.heap ∧ va_K (dC, dI) vwCl [(rk, .long)] U ∧ va_D (fun _ => True) [(ro, .inr (5, [.int rt, .int rwd, .int rs, .ref rn])), (rn, .inl (rk, 60, .inr (.inl RN)))])) (va_Qv (fun (u : (Nat → Int64)) => True) (fun (u : (Nat → Int64)) (t : State) => va_P (dC, dI) vwCl [(ro, .inr (5, [.int 1, .int p0, .int p1, .ref rn])), (rn, .inl (rk, 60, .inr (.inl u)))] t.heap ∧ va_K (dC, dI) vwCl [] t ∧ va_D (va_A [(ro, .inr (5, [.int rt, .int rwd, .int rs, .ref rn])), (rn, .inl (rk, 60, .inr (.inl RN)))] sz) [(ro, .inr (5, [.int 1, .int p0, .int p1, .ref rn])), (rn, .inl (rk, 60, .inr (.inl u)))]) (va_A [(ro, .inr (5, [.int rt, .int rwd, .int rs, .ref rn])), (rn, .inl (rk, 60, .inr (.inl RN)))] sz)) 0 0 (va_A [(ro, .inr (5, [.int rt, .int rwd, .int rs, .ref rn])), (rn, .inl (rk, 60, .inr (.inl RN)))] sz) := by
  refine Met.ofW (cc := cX5_begin) (maxL := 3) (ret := none) (by decide) rfl ?_
  intro p e s m args below meth c s₁ B hml hv
  obtain ⟨rfl, hsz, hP, hK, hD0⟩ := hv
  have hx := B.exec
  have hb := B.bytes
  have hr := B.returns
  have hts := atoms_spec (ws := wz_X5_begin) B.pre
  have hown : s.vm.findClass RX5 = some m.cls := findClass_of_methodNamed B.named
  have hlocks := B.notSynchronized
  subst hsz
  have hD := hD0.self (sz := s.heap.size)
  generalize hAe : va_A [(ro, .inr (5, [.int rt, .int rwd, .int rs, .ref rn])), (rn, .inl (rk, 60, .inr (.inl RN)))] s.heap.size = A at hD ⊢
  have hA : ∀ q : Nat, s.heap.size ≤ q → A q := fun q h => by rw [← hAe]; exact Or.inr h
  have hS : va_S A s.heap s.heap [] := va_S.rf
  have hP : va_P (dC, dI) vwCl [(ro, .inr (5, [.int rt, .int rwd, .int rs, .ref rn])), (rn, .inl (rk, 60, .inr (.inl RN)))] s.heap := hP
  have hl := lv_entry ([.ref ro, .int p0, .int p1]) (n := 3) (Nat.le_of_ble_eq_true rfl)
  rw [lg_entry_eq]
  generalize (lg_sl ([.ref ro, .int p0, .int p1]) ++ List.replicate (3 - (lg_sl ([.ref ro, .int p0, .int p1])).length) Slot.unset).toArray = ls at hl ⊢
  have hl : lv_has ls 3 [(0, .ref ro), (1, .int p0), (2, .int p1)] := hl
  refine lv_aload_n hx hb dX5_begin_0 rfl (lv_at hl 0 rfl) ?_
  refine lv_iconst (v := 1) hx hb dX5_begin_1 (by decide) ?_
  refine va_put (D := (dC, dI)) (ci := 5) (v := .int 1) (ty := .boolean) (C := RX5) (T := TX5) (N := 4) hx hb hts in_X5_begin_X5 tyX5 tyX5_ok nmX5 hown hK hP hD hS 0 rfl rfl 0 (by decide) (hts _ wd_X5_begin_0) (fun _ h9 => h9) rfl (by decide +kernel) (by decide) (by decide) (Nat.le_of_ble_eq_true rfl) dX5_begin_2 (fun H locs hP hD hS => ?_)
  have hP : va_P (dC, dI) vwCl [(ro, .inr (5, [.int 1, .int rwd, .int rs, .ref rn])), (rn, .inl (rk, 60, .inr (.inl RN)))] H := hP
  have hD : va_D A [(ro, .inr (5, [.int 1, .int rwd, .int rs, .ref rn])), (rn, .inl (rk, 60, .inr (.inl RN)))] := hD
  refine lv_aload_n hx hb dX5_begin_5 rfl (lv_at hl 0 rfl) ?_
  refine lv_iload_n hx hb dX5_begin_6 rfl (lv_at hl 1 rfl) ?_
  refine va_put (D := (dC, dI)) (ci := 5) (v := .int p0) (ty := .int) (C := RX5) (T := TX5) (N := 4) hx hb hts in_X5_begin_X5 tyX5 tyX5_ok nmX5 hown hK hP hD hS 0 rfl rfl 1 (by decide) (hts _ wd_X5_begin_1) (fun _ h9 => h9) rfl (by decide +kernel) rfl rfl (Nat.le_of_ble_eq_true rfl) dX5_begin_7 (fun H locs hP hD hS => ?_)
  have hP : va_P (dC, dI) vwCl [(ro, .inr (5, [.int 1, .int p0, .int rs, .ref rn])), (rn, .inl (rk, 60, .inr (.inl RN)))] H := hP
  have hD : va_D A [(ro, .inr (5, [.int 1, .int p0, .int rs, .ref rn])), (rn, .inl (rk, 60, .inr (.inl RN)))] := hD
  refine lv_aload_n hx hb dX5_begin_10 rfl (lv_at hl 0 rfl) ?_
  refine lv_iload_n hx hb dX5_begin_11 rfl (lv_at hl 2 rfl) ?_
  refine va_put (D := (dC, dI)) (ci := 5) (v := .int p1) (ty := .int) (C := RX5) (T := TX5) (N := 4) hx hb hts in_X5_begin_X5 tyX5 tyX5_ok nmX5 hown hK hP hD hS 0 rfl rfl 2 (by decide) (hts _ wd_X5_begin_2) (fun _ h9 => h9) rfl (by decide +kernel) rfl rfl (Nat.le_of_ble_eq_true rfl) dX5_begin_12 (fun H locs hP hD hS => ?_)
  have hP : va_P (dC, dI) vwCl [(ro, .inr (5, [.int 1, .int p0, .int p1, .ref rn])), (rn, .inl (rk, 60, .inr (.inl RN)))] H := hP
  have hD : va_D A [(ro, .inr (5, [.int 1, .int p0, .int p1, .ref rn])), (rn, .inl (rk, 60, .inr (.inl RN)))] := hD
  refine lv_aload_n hx hb dX5_begin_15 rfl (lv_at hl 0 rfl) ?_
  refine va_get (D := (dC, dI)) (ci := 5) (v := .ref rn) (C := RX5) (T := TX5) (N := 4) hx hb hts in_X5_begin_X5 hown hK hP 0 rfl rfl 3 (by decide) (hts _ wd_X5_begin_3) (fun _ h9 => h9) rfl dX5_begin_16 ?_
  refine lv_lconst (v := 0) hx hb dX5_begin_19 (by decide) ?_
  have hPc := hP.sub (ws' := [(rn, .inl (rk, 60, .inr (.inl RN)))]) [1] rfl
  have hDc := hD.sub (ws' := [(rn, .inl (rk, 60, .inr (.inl RN)))]) [1] (by decide) rfl
  have hKc := hK.sub (tys' := [(rk, .long)]) [0] rfl
  have hFc := va_free (wc := [(rn, .inl (rk, 60, .inr (.inl RN)))]) hD hS hA [1] rfl
  refine va_callv (va_runS (As := [.ref rn, .long 0]) (rest := []) ⟨hx, hb, hml, hown, hts⟩ (c_J7_fill_d0a16 l dC dI H.size rn rk ((60 : Nat)) RN ((0 : Int64)) (by omega)) (va_cwS 2 hts g_X5_begin_J7_fill_d0a16 rfl rfl rfl (by decide +kernel) ⟨Nat.le_of_ble_eq_true rfl, Nat.le_of_ble_eq_true rfl⟩) ⟨fun a U g mk q => by obtain ⟨q0, q1, qP, qK, qD⟩ := q; exact ⟨q0, q1, qP, va_K.moved (u := U) (U := U.calling g mk a) (Vm.Alike.refl U.vm) qK, qD⟩, fun U hU hW => ⟨rfl, by rw [hU], by rw [hU]; exact hPc, va_K.moved hW.alike hKc, hDc.weaken (fun _ _ _ _ => trivial)⟩⟩ rfl rfl hl.1 rfl (lv_room (Nat.le_of_ble_eq_true rfl)) dX5_begin_20 ⟨Nat.le_of_ble_eq_true rfl, Nat.le_of_ble_eq_true rfl⟩) hS (fun q _ h => hFc q h) hFc (fun u t H1 locs ht hvm hw_1 hB hz1 hk1 hS => ?_)
  obtain ⟨f2_2, rfl⟩ : ∃ z, z = u := ⟨_, rfl⟩
  obtain ⟨hP1, hK1, hD1⟩ := hB
  have hP1 : va_P (dC, dI) vwCl [(rn, .inl (rk, 60, .inr (.inl f2_2)))] t.heap := hP1
  rw [ht] at hP1
  try dsimp only at hw_1
  obtain ⟨hP, hD⟩ := va_join (wr := [(ro, .inr (5, [.int 1, .int p0, .int p1, .ref rn]))]) (w1 := [(rn, .inl (rk, 60, .inr (.inl f2_2)))]) hP hD [1] [0] rfl rfl (by decide) (by decide) hk1 hFc hP1 hD1
  generalize H1 = H at hP hS ⊢
  have hP : va_P (dC, dI) vwCl [(ro, .inr (5, [.int 1, .int p0, .int p1, .ref rn])), (rn, .inl (rk, 60, .inr (.inl f2_2)))] H := hP
  have hD : va_D A [(ro, .inr (5, [.int 1, .int p0, .int p1, .ref rn])), (rn, .inl (rk, 60, .inr (.inl f2_2)))] := hD
  have hP9 := hP.sub (ws' := [(ro, .inr (5, [.int 1, .int p0, .int p1, .ref rn])), (rn, .inl (rk, 60, .inr (.inl f2_2)))]) [0, 1] rfl
  have hD9 := hD.sub (ws' := [(ro, .inr (5, [.int 1, .int p0, .int p1, .ref rn])), (rn, .inl (rk, 60, .inr (.inl f2_2)))]) [0, 1] (by decide) rfl
  have hK9 := hK.sub (tys' := []) [] rfl
  refine W.widen (k := 0) (n := 0) (by omega) (by omega) ?_
  exact W.vret hx hb hr (fun t ht hW => ⟨⟨(f2_2), rfl, trivial, by rw [ht]; exact hP9, va_K.moved hW.alike hK9, hD9⟩, hS.F ht⟩) hS.2.2 dX5_begin_23

