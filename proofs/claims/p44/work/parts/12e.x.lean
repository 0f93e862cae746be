theorem dX6_gone_0 : decode cX6_gone 0 = .ok (.aload_n 0, 1) := by decide +kernel
theorem dX6_gone_1 : decode cX6_gone 1 = .ok (.invokevirtual 86, 3) := by decide +kernel
theorem dX6_gone_4 : decode cX6_gone 4 = .ok (.ifCond .eq 8, 3) := by decide +kernel
theorem dX6_gone_7 : decode cX6_gone 7 = .ok (.iload_n 1, 1) := by decide +kernel
theorem dX6_gone_8 : decode cX6_gone 8 = .ok (.iconst (-1), 1) := by decide +kernel
theorem dX6_gone_9 : decode cX6_gone 9 = .ok (.if_icmp .ge 6, 3) := by decide +kernel
theorem dX6_gone_12 : decode cX6_gone 12 = .ok (.bipush (-2), 2) := by decide +kernel
theorem dX6_gone_14 : decode cX6_gone 14 = .ok (.ireturn, 1) := by decide +kernel
theorem dX6_gone_15 : decode cX6_gone 15 = .ok (.iload_n 1, 1) := by decide +kernel
theorem dX6_gone_16 : decode cX6_gone 16 = .ok (.iconst (-1), 1) := by decide +kernel
theorem dX6_gone_17 : decode cX6_gone 17 = .ok (.if_icmp .ne 11, 3) := by decide +kernel
theorem dX6_gone_20 : decode cX6_gone 20 = .ok (.aload_n 0, 1) := by decide +kernel
theorem dX6_gone_21 : decode cX6_gone 21 = .ok (.getfield 33, 3) := by decide +kernel
theorem dX6_gone_24 : decode cX6_gone 24 = .ok (.getfield 197, 3) := by decide +kernel
theorem dX6_gone_27 : decode cX6_gone 27 = .ok (.ireturn, 1) := by decide +kernel
theorem dX6_gone_28 : decode cX6_gone 28 = .ok (.iload_n 1, 1) := by decide +kernel
theorem dX6_gone_29 : decode cX6_gone 29 = .ok (.aload_n 0, 1) := by decide +kernel
theorem dX6_gone_30 : decode cX6_gone 30 = .ok (.getfield 33, 3) := by decide +kernel
theorem dX6_gone_33 : decode cX6_gone 33 = .ok (.getfield 197, 3) := by decide +kernel
theorem dX6_gone_36 : decode cX6_gone 36 = .ok (.if_icmp .ge 15, 3) := by decide +kernel
theorem dX6_gone_39 : decode cX6_gone 39 = .ok (.aload_n 0, 1) := by decide +kernel
theorem dX6_gone_40 : decode cX6_gone 40 = .ok (.getfield 33, 3) := by decide +kernel
theorem dX6_gone_43 : decode cX6_gone 43 = .ok (.getfield 204, 3) := by decide +kernel
theorem dX6_gone_46 : decode cX6_gone 46 = .ok (.iload_n 1, 1) := by decide +kernel
theorem dX6_gone_47 : decode cX6_gone 47 = .ok (.iaload, 1) := by decide +kernel
theorem dX6_gone_48 : decode cX6_gone 48 = .ok (.goto 4, 3) := by decide +kernel
theorem dX6_gone_51 : decode cX6_gone 51 = .ok (.iconst (-1), 1) := by decide +kernel
theorem dX6_gone_52 : decode cX6_gone 52 = .ok (.ireturn, 1) := by decide +kernel
def wz_X6_gone : List Cond := .code yX6_gone cX6_gone 2 (some .int) :: ([Cond.fieldLink RX6 33 "HedgeMaze" "garden" "LHedgeMaze$Garden;", Cond.fieldLink RX6 197 "HedgeMaze$Garden" "goneCount" "I", Cond.fieldLink RX6 204 "HedgeMaze$Garden" "goneNights" "[I", Cond.methodLink RX6 86 yX6_hasMaze, Cond.instanceMethod yX6_hasMaze, Cond.selects RX6 yX6_hasMaze yX6_hasMaze, Cond.initialized RX6, Cond.code yX6_hasMaze cX6_hasMaze 1 (some .boolean), Cond.fieldLink RX6 83 "HedgeMaze$Garden" "lines" "I"] ++ wsX60 ++ wsX00)
theorem wd_X6_gone_0 : Cond.fieldLink RX6 33 "HedgeMaze" "garden" "LHedgeMaze$Garden;" ∈ wz_X6_gone := List.mem_of_getElem? (i := 1) rfl
theorem wd_X6_gone_1 : Cond.fieldLink RX6 197 "HedgeMaze$Garden" "goneCount" "I" ∈ wz_X6_gone := List.mem_of_getElem? (i := 2) rfl
theorem wd_X6_gone_2 : Cond.fieldLink RX6 204 "HedgeMaze$Garden" "goneNights" "[I" ∈ wz_X6_gone := List.mem_of_getElem? (i := 3) rfl
theorem in_X6_gone_X6 : ∀ w ∈ wsX60, w ∈ wz_X6_gone := fun _ h => List.mem_cons_of_mem _ (List.mem_append_left _ (List.mem_append_right _ h))
theorem in_X6_gone_X0 : ∀ w ∈ wsX00, w ∈ wz_X6_gone := fun _ h => List.mem_cons_of_mem _ (List.mem_append_right _ h)
set_option maxRecDepth 20000 in
theorem g_X6_gone_X6_hasMaze : GoodIn wz_X6_gone (wsV RX6 86 RX6 yX6_hasMaze wz_X6_hasMaze) := goodIn_r _ [4, 5, 6, 7, 8, 1, 9, 10, 11, 12, 13, 14, 15, 16, 17, 18, 19, 20, 21, 22, 23, 24, 25, 26, 27, 28, 29, 30, 31, 32] rfl (by decide +kernel)
set_option maxHeartbeats 4000000 in
set_option maxRecDepth 100000 in
theorem c_X6_gone (l : Launch) (dC : Nat → ClassId) (dI : Nat → Nat → Nat) (sz : Nat) (h0 : Nat) (tp : Nat) (ts : Int32) (fn : Int32) (fp : Int32) (rd : Nat) (gd : Nat) (im : Nat) (rw : Nat) (gn : Nat) (ho : Nat) (sq : Nat) (gdl : Int32) (gdh : Int64) (gdw : Int64) (gdi : Int32) (gde : Int32) (gdc : Int32) (gdt : Nat) (gdg : Int32) (gdu : Nat) (gdn : Int32) (gdx : Nat) (gdkx : ClassId) (gdX : Nat → Int32) (pl : Nat) (p0 : Int32) (h_gdn : 0 ≤ gdn.toInt ∧ gdn.toInt ≤ 99) : Met l yX6_gone wz_X6_gone ({ frames := 1, cells := 0, slots := 0, locals := 20 }) (va_Pc [.ref h0, .int p0] (fun U => U.heap.size = sz ∧ va_P (dC, dI) vwCl [(h0, .inr (6, [.ref tp, .int ts, .int fn, .int fp, .ref rd, .ref gd, .ref im, .ref rw, .ref gn, .ref ho, .ref sq])), (gd, .inr (0, [.ref pl, .int gdl, .long gdh, .long gdw, .int gdi, .int gde, .int gdc, .ref gdt, .int gdg, .ref gdu, .int gdn, .ref gdx])), (gdx, .inl (gdkx, 99, .inl gdX))] U.heap ∧ va_K (dC, dI) vwCl [(gdkx, .int)] U ∧ va_D (fun _ => True) [(h0, .inr (6, [.ref tp, .int ts, .int fn, .int fp, .ref rd, .ref gd, .ref im, .ref rw, .ref gn, .ref ho, .ref sq])), (gd, .inr (0, [.ref pl, .int gdl, .long gdh, .long gdw, .int gdi, .int gde, .int gdc, .ref gdt, .int gdg, .ref gdu, .int gdn, .ref gdx])), (gdx, .inl (gdkx, 99, .inl gdX))])) (va_Qi (fun (r : Int32) (u : Unit) => True) (fun (u : Unit) (t : State) => va_P (dC, dI) vwCl [(h0, .inr (6, [.ref tp, .int ts, .int fn, .int fp, .ref rd, .ref gd, .ref im, .ref rw, .ref gn, .ref ho, .ref sq])), (gd, .inr (0, [.ref pl, .int gdl, .long gdh, .long gdw, .int gdi, .int gde, .int gdc, .ref gdt, .int gdg, .ref gdu, .int gdn, .ref gdx])), (gdx, .inl (gdkx, 99, .inl gdX))] t.heap ∧ va_K (dC, dI) vwCl [] t ∧ va_D (va_A [(h0, .inr (6, [.ref tp, .int ts, .int fn, .int fp, .ref rd, .ref gd, .ref im, .ref rw, .ref gn, .ref ho, .ref sq])), (gd, .inr (0, [.ref pl, .int gdl, .long gdh, .long gdw, .int gdi, .int gde, .int gdc, .ref gdt, .int gdg, .ref gdu, .int gdn, .ref gdx])), (gdx, .inl (gdkx, 99, .inl gdX))] sz) [(h0, .inr (6, [.ref tp, .int ts, .int fn, .int fp, .ref rd, .ref gd, .ref im, .ref rw, .ref gn, .ref ho, .ref sq])), (gd, .inr (0, [.ref pl, .int gdl, .long gdh, .long gdw, .int gdi, .int gde, .int gdc, .ref gdt, .int gdg, .ref gdu, .int gdn, .ref gdx])), (gdx, .inl (gdkx, 99, .inl gdX))]) (va_A [(h0, .inr (6, [.ref tp, .int ts, .int fn, .int fp, .ref rd, .ref gd, .ref im, .ref rw, .ref gn, .ref ho, .ref sq])), (gd, .inr (0, [.ref pl, .int gdl, .long gdh, .long gdw, .int gdi, .int gde, .int gdc, .ref gdt, .int gdg, .ref gdu, .int gdn, .ref gdx])), (gdx, .inl (gdkx, 99, .inl gdX))] sz)) 0 0 (va_A [(h0, .inr (6, [.ref tp, .int ts, .int fn, .int fp, .ref rd, .ref gd, .ref im, .ref rw, .ref gn, .ref ho, .ref sq])), (gd, .inr (0, [.ref pl, .int gdl, .long gdh, .long gdw, .int gdi, .int gde, .int gdc, .ref gdt, .int gdg, .ref gdu, .int gdn, .ref gdx])), (gdx, .inl (gdkx, 99, .inl gdX))] sz) := by
  refine Met.ofW (cc := cX6_gone) (maxL := 2) (ret := (some .int)) (by decide) rfl ?_
  intro p e s m args below meth c s₁ B hml hv
  obtain ⟨rfl, hsz, hP, hK, hD0⟩ := hv
  have hx := B.exec
  have hb := B.bytes
  have hr := B.returns
  have hts := atoms_spec (ws := wz_X6_gone) B.pre
  have hown : s.vm.findClass RX6 = some m.cls := findClass_of_methodNamed B.named
  have hlocks := B.notSynchronized
  subst hsz
  have hD := hD0.self (sz := s.heap.size)
  generalize hAe : va_A [(h0, .inr (6, [.ref tp, .int ts, .int fn, .int fp, .ref rd, .ref gd, .ref im, .ref rw, .ref gn, .ref ho, .ref sq])), (gd, .inr (0, [.ref pl, .int gdl, .long gdh, .long gdw, .int gdi, .int gde, .int gdc, .ref gdt, .int gdg, .ref gdu, .int gdn, .ref gdx])), (gdx, .inl (gdkx, 99, .inl gdX))] s.heap.size = A at hD ⊢
  have hA : ∀ q : Nat, s.heap.size ≤ q → A q := fun q h => by rw [← hAe]; exact Or.inr h
  have hS : va_S A s.heap s.heap [] := va_S.rf
  have hP : va_P (dC, dI) vwCl [(h0, .inr (6, [.ref tp, .int ts, .int fn, .int fp, .ref rd, .ref gd, .ref im, .ref rw, .ref gn, .ref ho, .ref sq])), (gd, .inr (0, [.ref pl, .int gdl, .long gdh, .long gdw, .int gdi, .int gde, .int gdc, .ref gdt, .int gdg, .ref gdu, .int gdn, .ref gdx])), (gdx, .inl (gdkx, 99, .inl gdX))] s.heap := hP
  have hl := lv_entry ([.ref h0, .int p0]) (n := 2) (Nat.le_of_ble_eq_true rfl)
  rw [lg_entry_eq]
  generalize (lg_sl ([.ref h0, .int p0]) ++ List.replicate (2 - (lg_sl ([.ref h0, .int p0])).length) Slot.unset).toArray = ls at hl ⊢
  have hl : lv_has ls 2 [(0, .ref h0), (1, .int p0)] := hl
  refine lv_aload_n hx hb dX6_gone_0 rfl (lv_at hl 0 rfl) ?_
  have hPc := hP.sub (ws' := [(h0, .inr (6, [.ref tp, .int ts, .int fn, .int fp, .ref rd, .ref gd, .ref im, .ref rw, .ref gn, .ref ho, .ref sq])), (gd, .inr (0, [.ref pl, .int gdl, .long gdh, .long gdw, .int gdi, .int gde, .int gdc, .ref gdt, .int gdg, .ref gdu, .int gdn, .ref gdx]))]) [0, 1] rfl
  have hDc := hD.sub (ws' := [(h0, .inr (6, [.ref tp, .int ts, .int fn, .int fp, .ref rd, .ref gd, .ref im, .ref rw, .ref gn, .ref ho, .ref sq])), (gd, .inr (0, [.ref pl, .int gdl, .long gdh, .long gdw, .int gdi, .int gde, .int gdc, .ref gdt, .int gdg, .ref gdu, .int gdn, .ref gdx]))]) [0, 1] (by decide) rfl
  have hKc := hK.sub (tys' := []) [] rfl
  have hFc := va_free (wc := [(h0, .inr (6, [.ref tp, .int ts, .int fn, .int fp, .ref rd, .ref gd, .ref im, .ref rw, .ref gn, .ref ho, .ref sq])), (gd, .inr (0, [.ref pl, .int gdl, .long gdh, .long gdw, .int gdi, .int gde, .int gdc, .ref gdt, .int gdg, .ref gdu, .int gdn, .ref gdx]))]) hD hS hA [0, 1] rfl
  refine va_calli (va_runV (As := []) (rest := []) ⟨hx, hb, hml, hown, hts⟩ (c_X6_hasMaze l dC dI s.heap.size h0 tp ts fn fp rd gd im rw gn ho sq gdl gdh gdw gdi gde gdc gdt gdg gdu gdn gdx pl ) (cwV 0 hts g_X6_gone_X6_hasMaze rfl rfl rfl (by decide +kernel) ⟨Nat.le_of_ble_eq_true rfl, Nat.le_of_ble_eq_true rfl⟩) ⟨fun a U g mk q => by obtain ⟨q0, q1, qP, qK, qD⟩ := q; exact ⟨q0, q1, qP, va_K.moved (u := U) (U := U.calling g mk a) (Vm.Alike.refl U.vm) qK, qD⟩, va_recv hKc hPc (ci := 6) (q0 := 0) rfl rfl, fun U hU hW => ⟨rfl, by rw [hU], by rw [hU]; exact hPc, va_K.moved hW.alike hKc, hDc.weaken (fun _ _ _ _ => trivial)⟩⟩ rfl rfl hl.1 rfl (lv_room (Nat.le_of_ble_eq_true rfl)) dX6_gone_1 ⟨Nat.le_of_ble_eq_true rfl, Nat.le_of_ble_eq_true rfl⟩) hS (fun q _ h => hFc q h) hFc (fun r_1 u t H1 locs ht hvm hw_2 hB hz1 hk1 hS => ?_)
  obtain ⟨hP1, hK1, hD1⟩ := hB
  have hP1 : va_P (dC, dI) vwCl [(h0, .inr (6, [.ref tp, .int ts, .int fn, .int fp, .ref rd, .ref gd, .ref im, .ref rw, .ref gn, .ref ho, .ref sq])), (gd, .inr (0, [.ref pl, .int gdl, .long gdh, .long gdw, .int gdi, .int gde, .int gdc, .ref gdt, .int gdg, .ref gdu, .int gdn, .ref gdx]))] t.heap := hP1
  rw [ht] at hP1
  try dsimp only at hw_2
  obtain ⟨hP, hD⟩ := va_join (wr := [(gdx, .inl (gdkx, 99, .inl gdX))]) (w1 := [(h0, .inr (6, [.ref tp, .int ts, .int fn, .int fp, .ref rd, .ref gd, .ref im, .ref rw, .ref gn, .ref ho, .ref sq])), (gd, .inr (0, [.ref pl, .int gdl, .long gdh, .long gdw, .int gdi, .int gde, .int gdc, .ref gdt, .int gdg, .ref gdu, .int gdn, .ref gdx]))]) hP hD [0, 1] [2] rfl rfl (by decide) (by decide) hk1 hFc hP1 hD1
  generalize H1 = H at hP hS ⊢
  have hP : va_P (dC, dI) vwCl [(gdx, .inl (gdkx, 99, .inl gdX)), (h0, .inr (6, [.ref tp, .int ts, .int fn, .int fp, .ref rd, .ref gd, .ref im, .ref rw, .ref gn, .ref ho, .ref sq])), (gd, .inr (0, [.ref pl, .int gdl, .long gdh, .long gdw, .int gdi, .int gde, .int gdc, .ref gdt, .int gdg, .ref gdu, .int gdn, .ref gdx]))] H := hP
  have hD : va_D A [(gdx, .inl (gdkx, 99, .inl gdX)), (h0, .inr (6, [.ref tp, .int ts, .int fn, .int fp, .ref rd, .ref gd, .ref im, .ref rw, .ref gn, .ref ho, .ref sq])), (gd, .inr (0, [.ref pl, .int gdl, .long gdh, .long gdw, .int gdi, .int gde, .int gdc, .ref gdt, .int gdg, .ref gdu, .int gdn, .ref gdx]))] := hD
  rcases i_bool hw_2 with ⟨r_19, hC⟩ | ⟨r_19, hC⟩
  · obtain rfl : r_1 = 1 := r_19
    have hC_3 := hC
    refine lv_if_eq (tgt := 12) hx hb dX6_gone_4 (by decide) (fun h => absurd h (by decide)) (fun _ => ?_)
    refine lv_iload_n hx hb dX6_gone_7 rfl (lv_at hl 1 rfl) ?_
    refine lv_iconst (v := -1) hx hb dX6_gone_8 (by decide) ?_
    refine lv_icmp_ge (tgt := 15) hx hb dX6_gone_9 (by decide) (fun c_5 => ?_) (fun c_5 => ?_)
    · have c_5 : (-1) ≤ p0.toInt := i_le (a := -1) (b := p0) (by decide) rfl c_5
      refine lv_iload_n hx hb dX6_gone_15 rfl (lv_at hl 1 rfl) ?_
      refine lv_iconst (v := -1) hx hb dX6_gone_16 (by decide) ?_
      refine lv_icmp_ne (tgt := 28) hx hb dX6_gone_17 (by decide) (fun c_6 => ?_) (fun c_6 => ?_)
      · have c_6 : p0.toInt ≠ (-1) := i_ne (a := p0) (b := -1) rfl (by decide) c_6
        refine lv_iload_n hx hb dX6_gone_28 rfl (lv_at hl 1 rfl) ?_
        refine lv_aload_n hx hb dX6_gone_29 rfl (lv_at hl 0 rfl) ?_
        refine va_get (D := (dC, dI)) (ci := 6) (v := .ref gd) (C := RX6) (T := TX6) (N := 11) hx hb hts in_X6_gone_X6 hown hK hP 1 rfl rfl 5 (by decide) (hts _ wd_X6_gone_0) (fun _ h9 => h9) rfl dX6_gone_30 ?_
        refine va_get (D := (dC, dI)) (ci := 0) (v := .int gdn) (C := RX0) (T := TX0) (N := 12) hx hb hts in_X6_gone_X0 hown hK hP 2 rfl rfl 10 (by decide) (hts _ wd_X6_gone_1) (fun _ h9 => h9) rfl dX6_gone_33 ?_
        refine lv_icmp_ge (tgt := 51) hx hb dX6_gone_36 (by decide) (fun c_7 => ?_) (fun c_7 => ?_)
        · have c_7 : gdn.toInt ≤ p0.toInt := i_le (a := gdn) (b := p0) rfl rfl c_7
          refine lv_iconst (v := -1) hx hb dX6_gone_51 (by decide) ?_
          have hP9 := hP.sub (ws' := [(h0, .inr (6, [.ref tp, .int ts, .int fn, .int fp, .ref rd, .ref gd, .ref im, .ref rw, .ref gn, .ref ho, .ref sq])), (gd, .inr (0, [.ref pl, .int gdl, .long gdh, .long gdw, .int gdi, .int gde, .int gdc, .ref gdt, .int gdg, .ref gdu, .int gdn, .ref gdx])), (gdx, .inl (gdkx, 99, .inl gdX))]) [1, 2, 0] rfl
          have hD9 := hD.sub (ws' := [(h0, .inr (6, [.ref tp, .int ts, .int fn, .int fp, .ref rd, .ref gd, .ref im, .ref rw, .ref gn, .ref ho, .ref sq])), (gd, .inr (0, [.ref pl, .int gdl, .long gdh, .long gdw, .int gdi, .int gde, .int gdc, .ref gdt, .int gdg, .ref gdu, .int gdn, .ref gdx])), (gdx, .inl (gdkx, 99, .inl gdX))]) [1, 2, 0] (by decide) rfl
          have hK9 := hK.sub (tys' := []) [] rfl
          refine W.widen (k := 0) (n := 0) (by omega) (by omega) ?_
          exact W.iret (v := -1) hx hb hr (fun t ht hW => ⟨⟨(-1), (), rfl, trivial, by rw [ht]; exact hP9, va_K.moved hW.alike hK9, hD9⟩, hS.F ht⟩) hS.2.2 dX6_gone_52
        · have c_7 : p0.toInt < gdn.toInt := i_nle (a := gdn) (b := p0) rfl rfl c_7
          refine lv_aload_n hx hb dX6_gone_39 rfl (lv_at hl 0 rfl) ?_
          refine va_get (D := (dC, dI)) (ci := 6) (v := .ref gd) (C := RX6) (T := TX6) (N := 11) hx hb hts in_X6_gone_X6 hown hK hP 1 rfl rfl 5 (by decide) (hts _ wd_X6_gone_0) (fun _ h9 => h9) rfl dX6_gone_40 ?_
          refine va_get (D := (dC, dI)) (ci := 0) (v := .ref gdx) (C := RX0) (T := TX0) (N := 12) hx hb hts in_X6_gone_X0 hown hK hP 2 rfl rfl 11 (by decide) (hts _ wd_X6_gone_2) (fun _ h9 => h9) rfl dX6_gone_43 ?_
          refine lv_iload_n hx hb dX6_gone_46 rfl (lv_at hl 1 rfl) ?_
          refine va_iald hx hb hK hP 0 0 rfl rfl (i_in rfl (by omega) (by omega)) dX6_gone_47 ?_
          refine lv_topi (fun v_8 ev_8 => ?_)
          refine lv_goto (tgt := 52) hx hb dX6_gone_48 (by decide) ?_
          have hP9 := hP.sub (ws' := [(h0, .inr (6, [.ref tp, .int ts, .int fn, .int fp, .ref rd, .ref gd, .ref im, .ref rw, .ref gn, .ref ho, .ref sq])), (gd, .inr (0, [.ref pl, .int gdl, .long gdh, .long gdw, .int gdi, .int gde, .int gdc, .ref gdt, .int gdg, .ref gdu, .int gdn, .ref gdx])), (gdx, .inl (gdkx, 99, .inl gdX))]) [1, 2, 0] rfl
          have hD9 := hD.sub (ws' := [(h0, .inr (6, [.ref tp, .int ts, .int fn, .int fp, .ref rd, .ref gd, .ref im, .ref rw, .ref gn, .ref ho, .ref sq])), (gd, .inr (0, [.ref pl, .int gdl, .long gdh, .long gdw, .int gdi, .int gde, .int gdc, .ref gdt, .int gdg, .ref gdu, .int gdn, .ref gdx])), (gdx, .inl (gdkx, 99, .inl gdX))]) [1, 2, 0] (by decide) rfl
          have hK9 := hK.sub (tys' := []) [] rfl
          refine W.widen (k := 0) (n := 0) (by omega) (by omega) ?_
          exact W.iret (v := v_8) hx hb hr (fun t ht hW => ⟨⟨v_8, (), rfl, trivial, by rw [ht]; exact hP9, va_K.moved hW.alike hK9, hD9⟩, hS.F ht⟩) hS.2.2 dX6_gone_52
      · have c_6 : p0.toInt = (-1) := i_eq (a := p0) (b := -1) rfl (by decide) c_6
        refine lv_aload_n hx hb dX6_gone_20 rfl (lv_at hl 0 rfl) ?_
        refine va_get (D := (dC, dI)) (ci := 6) (v := .ref gd) (C := RX6) (T := TX6) (N := 11) hx hb hts in_X6_gone_X6 hown hK hP 1 rfl rfl 5 (by decide) (hts _ wd_X6_gone_0) (fun _ h9 => h9) rfl dX6_gone_21 ?_
        refine va_get (D := (dC, dI)) (ci := 0) (v := .int gdn) (C := RX0) (T := TX0) (N := 12) hx hb hts in_X6_gone_X0 hown hK hP 2 rfl rfl 10 (by decide) (hts _ wd_X6_gone_1) (fun _ h9 => h9) rfl dX6_gone_24 ?_
        have hP9 := hP.sub (ws' := [(h0, .inr (6, [.ref tp, .int ts, .int fn, .int fp, .ref rd, .ref gd, .ref im, .ref rw, .ref gn, .ref ho, .ref sq])), (gd, .inr (0, [.ref pl, .int gdl, .long gdh, .long gdw, .int gdi, .int gde, .int gdc, .ref gdt, .int gdg, .ref gdu, .int gdn, .ref gdx])), (gdx, .inl (gdkx, 99, .inl gdX))]) [1, 2, 0] rfl
        have hD9 := hD.sub (ws' := [(h0, .inr (6, [.ref tp, .int ts, .int fn, .int fp, .ref rd, .ref gd, .ref im, .ref rw, .ref gn, .ref ho, .ref sq])), (gd, .inr (0, [.ref pl, .int gdl, .long gdh, .long gdw, .int gdi, .int gde, .int gdc, .ref gdt, .int gdg, .ref gdu, .int gdn, .ref gdx])), (gdx, .inl (gdkx, 99, .inl gdX))]) [1, 2, 0] (by decide) rfl
        have hK9 := hK.sub (tys' := []) [] rfl
        refine W.widen (k := 0) (n := 0) (by omega) (by omega) ?_
        exact W.iret (v := gdn) hx hb hr (fun t ht hW => ⟨⟨gdn, (), rfl, trivial, by rw [ht]; exact hP9, va_K.moved hW.alike hK9, hD9⟩, hS.F ht⟩) hS.2.2 dX6_gone_27
    · have c_5 : p0.toInt < (-1) := i_nle (a := -1) (b := p0) (by decide) rfl c_5
      refine lv_bipush (v := -2) hx hb dX6_gone_12 (by decide) ?_
      have hP9 := hP.sub (ws' := [(h0, .inr (6, [.ref tp, .int ts, .int fn, .int fp, .ref rd, .ref gd, .ref im, .ref rw, .ref gn, .ref ho, .ref sq])), (gd, .inr (0, [.ref pl, .int gdl, .long gdh, .long gdw, .int gdi, .int gde, .int gdc, .ref gdt, .int gdg, .ref gdu, .int gdn, .ref gdx])), (gdx, .inl (gdkx, 99, .inl gdX))]) [1, 2, 0] rfl
      have hD9 := hD.sub (ws' := [(h0, .inr (6, [.ref tp, .int ts, .int fn, .int fp, .ref rd, .ref gd, .ref im, .ref rw, .ref gn, .ref ho, .ref sq])), (gd, .inr (0, [.ref pl, .int gdl, .long gdh, .long gdw, .int gdi, .int gde, .int gdc, .ref gdt, .int gdg, .ref gdu, .int gdn, .ref gdx])), (gdx, .inl (gdkx, 99, .inl gdX))]) [1, 2, 0] (by decide) rfl
      have hK9 := hK.sub (tys' := []) [] rfl
      refine W.widen (k := 0) (n := 0) (by omega) (by omega) ?_
      exact W.iret (v := -2) hx hb hr (fun t ht hW => ⟨⟨(-2), (), rfl, trivial, by rw [ht]; exact hP9, va_K.moved hW.alike hK9, hD9⟩, hS.F ht⟩) hS.2.2 dX6_gone_14
  · obtain rfl : r_1 = 0 := r_19
    have hC_9 := hC
    refine lv_if_eq (tgt := 12) hx hb dX6_gone_4 (by decide) (fun _ => ?_) (fun h => absurd (by decide) h)
    refine lv_bipush (v := -2) hx hb dX6_gone_12 (by decide) ?_
    have hP9 := hP.sub (ws' := [(h0, .inr (6, [.ref tp, .int ts, .int fn, .int fp, .ref rd, .ref gd, .ref im, .ref rw, .ref gn, .ref ho, .ref sq])), (gd, .inr (0, [.ref pl, .int gdl, .long gdh, .long gdw, .int gdi, .int gde, .int gdc, .ref gdt, .int gdg, .ref gdu, .int gdn, .ref gdx])), (gdx, .inl (gdkx, 99, .inl gdX))]) [1, 2, 0] rfl
    have hD9 := hD.sub (ws' := [(h0, .inr (6, [.ref tp, .int ts, .int fn, .int fp, .ref rd, .ref gd, .ref im, .ref rw, .ref gn, .ref ho, .ref sq])), (gd, .inr (0, [.ref pl, .int gdl, .long gdh, .long gdw, .int gdi, .int gde, .int gdc, .ref gdt, .int gdg, .ref gdu, .int gdn, .ref gdx])), (gdx, .inl (gdkx, 99, .inl gdX))]) [1, 2, 0] (by decide) rfl
    have hK9 := hK.sub (tys' := []) [] rfl
    refine W.widen (k := 0) (n := 0) (by omega) (by omega) ?_
    exact W.iret (v := -2) hx hb hr (fun t ht hW => ⟨⟨(-2), (), rfl, trivial, by rw [ht]; exact hP9, va_K.moved hW.alike hK9, hD9⟩, hS.F ht⟩) hS.2.2 dX6_gone_14

theorem dX6_night_0 : decode cX6_night 0 = .ok (.aload_n 0, 1) := by decide +kernel
theorem dX6_night_1 : decode cX6_night 1 = .ok (.iload_n 1, 1) := by decide +kernel
theorem dX6_night_2 : decode cX6_night 2 = .ok (.iload_n 2, 1) := by decide +kernel
theorem dX6_night_3 : decode cX6_night 3 = .ok (.invokevirtual 194, 3) := by decide +kernel
theorem dX6_night_6 : decode cX6_night 6 = .ok (.istore_n 3, 1) := by decide +kernel
theorem dX6_night_7 : decode cX6_night 7 = .ok (.iload_n 3, 1) := by decide +kernel
theorem dX6_night_8 : decode cX6_night 8 = .ok (.ifCond .eq 5, 3) := by decide +kernel
theorem dX6_night_11 : decode cX6_night 11 = .ok (.iload_n 3, 1) := by decide +kernel
theorem dX6_night_12 : decode cX6_night 12 = .ok (.ireturn, 1) := by decide +kernel
theorem dX6_night_13 : decode cX6_night 13 = .ok (.aload_n 0, 1) := by decide +kernel
theorem dX6_night_14 : decode cX6_night 14 = .ok (.getfield 33, 3) := by decide +kernel
theorem dX6_night_17 : decode cX6_night 17 = .ok (.getfield 197, 3) := by decide +kernel
theorem dX6_night_20 : decode cX6_night 20 = .ok (.bipush 99, 2) := by decide +kernel
theorem dX6_night_22 : decode cX6_night 22 = .ok (.if_icmp .lt 6, 3) := by decide +kernel
theorem dX6_night_25 : decode cX6_night 25 = .ok (.bipush (-3), 2) := by decide +kernel
theorem dX6_night_27 : decode cX6_night 27 = .ok (.ireturn, 1) := by decide +kernel
theorem dX6_night_28 : decode cX6_night 28 = .ok (.bipush 100, 2) := by decide +kernel
theorem dX6_night_30 : decode cX6_night 30 = .ok (.iload_n 1, 1) := by decide +kernel
theorem dX6_night_31 : decode cX6_night 31 = .ok (.imul, 1) := by decide +kernel
theorem dX6_night_32 : decode cX6_night 32 = .ok (.iload_n 2, 1) := by decide +kernel
theorem dX6_night_33 : decode cX6_night 33 = .ok (.iadd, 1) := by decide +kernel
theorem dX6_night_34 : decode cX6_night 34 = .ok (.istore 4, 2) := by decide +kernel
theorem dX6_night_36 : decode cX6_night 36 = .ok (.aload_n 0, 1) := by decide +kernel
theorem dX6_night_37 : decode cX6_night 37 = .ok (.getfield 33, 3) := by decide +kernel
theorem dX6_night_40 : decode cX6_night 40 = .ok (.aload_n 0, 1) := by decide +kernel
theorem dX6_night_41 : decode cX6_night 41 = .ok (.getfield 33, 3) := by decide +kernel
theorem dX6_night_44 : decode cX6_night 44 = .ok (.aload_n 0, 1) := by decide +kernel
theorem dX6_night_45 : decode cX6_night 45 = .ok (.getfield 33, 3) := by decide +kernel
theorem dX6_night_48 : decode cX6_night 48 = .ok (.getfield 117, 3) := by decide +kernel
theorem dX6_night_51 : decode cX6_night 51 = .ok (.iload 4, 2) := by decide +kernel
theorem dX6_night_53 : decode cX6_night 53 = .ok (.i2l, 1) := by decide +kernel
theorem dX6_night_54 : decode cX6_night 54 = .ok (.invokevirtual 200, 3) := by decide +kernel
theorem dX6_night_57 : decode cX6_night 57 = .ok (.putfield 117, 3) := by decide +kernel
theorem dX6_night_60 : decode cX6_night 60 = .ok (.aload_n 0, 1) := by decide +kernel
theorem dX6_night_61 : decode cX6_night 61 = .ok (.getfield 33, 3) := by decide +kernel
theorem dX6_night_64 : decode cX6_night 64 = .ok (.getfield 204, 3) := by decide +kernel
theorem dX6_night_67 : decode cX6_night 67 = .ok (.aload_n 0, 1) := by decide +kernel
theorem dX6_night_68 : decode cX6_night 68 = .ok (.getfield 33, 3) := by decide +kernel
theorem dX6_night_71 : decode cX6_night 71 = .ok (.getfield 197, 3) := by decide +kernel
theorem dX6_night_74 : decode cX6_night 74 = .ok (.iload 4, 2) := by decide +kernel
theorem dX6_night_76 : decode cX6_night 76 = .ok (.iastore, 1) := by decide +kernel
theorem dX6_night_77 : decode cX6_night 77 = .ok (.aload_n 0, 1) := by decide +kernel
theorem dX6_night_78 : decode cX6_night 78 = .ok (.getfield 33, 3) := by decide +kernel
theorem dX6_night_81 : decode cX6_night 81 = .ok (.dup, 1) := by decide +kernel
theorem dX6_night_82 : decode cX6_night 82 = .ok (.getfield 197, 3) := by decide +kernel
theorem dX6_night_85 : decode cX6_night 85 = .ok (.iconst 1, 1) := by decide +kernel
theorem dX6_night_86 : decode cX6_night 86 = .ok (.iadd, 1) := by decide +kernel
theorem dX6_night_87 : decode cX6_night 87 = .ok (.putfield 197, 3) := by decide +kernel
theorem dX6_night_90 : decode cX6_night 90 = .ok (.iconst 0, 1) := by decide +kernel
theorem dX6_night_91 : decode cX6_night 91 = .ok (.ireturn, 1) := by decide +kernel
def wz_X6_night : List Cond := .code yX6_night cX6_night 5 (some .int) :: ([Cond.fieldLink RX6 33 "HedgeMaze" "garden" "LHedgeMaze$Garden;", Cond.fieldLink RX6 197 "HedgeMaze$Garden" "goneCount" "I", Cond.fieldLink RX6 117 "HedgeMaze$Garden" "hedges" "J", Cond.fieldLink RX6 204 "HedgeMaze$Garden" "goneNights" "[I", Cond.methodLink RX6 194 yX6_lawful, Cond.instanceMethod yX6_lawful, Cond.selects RX6 yX6_lawful yX6_lawful, Cond.initialized RX6, Cond.code yX6_lawful cX6_lawful 3 (some .int), Cond.methodLink RX6 107 yX6_isSide, Cond.instanceMethod yX6_isSide, Cond.selects RX6 yX6_isSide yX6_isSide, Cond.code yX6_isSide cX6_isSide 3 (some .boolean), Cond.fieldLink RX6 90 "HedgeMaze$Garden" "plan" "LHedgeMaze$Plan;", Cond.fieldLink RX6 94 "HedgeMaze$Plan" "sideCount" "I", Cond.methodLink RX6 183 yX0_judge, Cond.instanceMethod yX0_judge, Cond.selects RX0 yX0_judge yX0_judge, Cond.initialized RX0, Cond.code yX0_judge cX0_judge 7 (some .int), Cond.fieldLink RX0 12 "HedgeMaze$Garden" "plan" "LHedgeMaze$Plan;", Cond.methodLink RX0 97 yX3_has, Cond.instanceMethod yX3_has, Cond.selects RX3 yX3_has yX3_has, Cond.initialized RX3, Cond.code yX3_has cX3_has 4 (some .boolean), Cond.methodLink RX3 58 yX3_bitOf, Cond.instanceMethod yX3_bitOf, Cond.selects RX3 yX3_bitOf yX3_bitOf, Cond.code yX3_bitOf cX3_bitOf 3 (some .long), Cond.fieldLink RX3 21 "HedgeMaze$Plan" "sideCount" "I", Cond.fieldLink RX3 35 "HedgeMaze$Plan" "bits" "[J", Cond.methodLink RX0 71 yX0_openWith, Cond.instanceMethod yX0_openWith, Cond.selects RX0 yX0_openWith yX0_openWith, Cond.code yX0_openWith cX0_openWith 3 (some .long), Cond.fieldLink RX0 75 "HedgeMaze$Plan" "allSides" "J", Cond.fieldLink RX0 26 "HedgeMaze$Garden" "walls" "J", Cond.constantLong RX0 78 (-1), Cond.methodLink RX0 101 yX0_sidesByLaw, Cond.instanceMethod yX0_sidesByLaw, Cond.selects RX0 yX0_sidesByLaw yX0_sidesByLaw, Cond.code yX0_sidesByLaw cX0_sidesByLaw 2 (some .long), Cond.fieldLink RX0 29 "HedgeMaze$Garden" "isNear" "Z", Cond.methodLink RX0 93 yX3_sidesNear, Cond.instanceMethod yX3_sidesNear, Cond.selects RX3 yX3_sidesNear yX3_sidesNear, Cond.code yX3_sidesNear cX3_sidesNear 5 (some .long), Cond.constantLong RX3 65 (-1), Cond.fieldLink RX3 28 "HedgeMaze$Plan" "first" "[I", Cond.fieldLink RX3 32 "HedgeMaze$Plan" "other" "[I", Cond.methodLink RX3 62 yX3_sideAt, Cond.instanceMethod yX3_sideAt, Cond.selects RX3 yX3_sideAt yX3_sideAt, Cond.code yX3_sideAt cX3_sideAt 4 (some .int), Cond.fieldLink RX3 39 "HedgeMaze$Plan" "around" "[I", Cond.methodLink RX0 104 yX3_partBeside, Cond.instanceMethod yX3_partBeside, Cond.selects RX3 yX3_partBeside yX3_partBeside, Cond.code yX3_partBeside cX3_partBeside 4 (some .int), Cond.methodLink RX3 79 yX3_allCells, Cond.instanceMethod yX3_allCells, Cond.selects RX3 yX3_allCells yX3_allCells, Cond.code yX3_allCells cX3_allCells 1 (some .int), Cond.fieldLink RX3 18 "HedgeMaze$Plan" "cellCount" "I", Cond.methodLink RX3 75 yX3_spread, Cond.instanceMethod yX3_spread, Cond.selects RX3 yX3_spread yX3_spread, Cond.code yX3_spread cX3_spread 9 (some .int), Cond.methodLink RX3 42 Lib.Math.min.name, Cond.static Lib.Math.min.name, Cond.initialized "java/lang/Math", Cond.code Lib.Math.min.name Lib.Math.min.code 2 (some .int), Cond.methodLink RX3 71 yX3_grow, Cond.instanceMethod yX3_grow, Cond.selects RX3 yX3_grow yX3_grow, Cond.code yX3_grow cX3_grow 6 (some .int), Cond.fieldLink RX3 9 "HedgeMaze$Plan" "wide" "I", Cond.methodLink RX0 108 yX3_joins, Cond.instanceMethod yX3_joins, Cond.selects RX3 yX3_joins yX3_joins, Cond.code yX3_joins cX3_joins 3 (some .boolean), Cond.methodLink RX6 200 yX0_hedgesAfter, Cond.instanceMethod yX0_hedgesAfter, Cond.selects RX0 yX0_hedgesAfter yX0_hedgesAfter, Cond.code yX0_hedgesAfter cX0_hedgesAfter 5 (some .long), Cond.constantLong RX0 88 (100), Cond.methodLink RX0 90 yX3_bitOf] ++ wsX60 ++ wsX00 ++ wsX30)
theorem wd_X6_night_0 : Cond.fieldLink RX6 33 "HedgeMaze" "garden" "LHedgeMaze$Garden;" ∈ wz_X6_night := List.mem_of_getElem? (i := 1) rfl
theorem wd_X6_night_1 : Cond.fieldLink RX6 197 "HedgeMaze$Garden" "goneCount" "I" ∈ wz_X6_night := List.mem_of_getElem? (i := 2) rfl
theorem wd_X6_night_2 : Cond.fieldLink RX6 117 "HedgeMaze$Garden" "hedges" "J" ∈ wz_X6_night := List.mem_of_getElem? (i := 3) rfl
theorem wd_X6_night_3 : Cond.fieldLink RX6 204 "HedgeMaze$Garden" "goneNights" "[I" ∈ wz_X6_night := List.mem_of_getElem? (i := 4) rfl
theorem in_X6_night_X6 : ∀ w ∈ wsX60, w ∈ wz_X6_night := fun _ h => List.mem_cons_of_mem _ (List.mem_append_left _ (List.mem_append_left _ (List.mem_append_right _ h)))
theorem in_X6_night_X0 : ∀ w ∈ wsX00, w ∈ wz_X6_night := fun _ h => List.mem_cons_of_mem _ (List.mem_append_left _ (List.mem_append_right _ h))
set_option maxRecDepth 20000 in
theorem g_X6_night_X6_lawful : GoodIn wz_X6_night (wsV RX6 194 RX6 yX6_lawful wz_X6_lawful) := goodIn_r _ [5, 6, 7, 8, 9, 1, 3, 10, 11, 12, 8, 13, 14, 15, 16, 17, 18, 19, 20, 21, 22, 23, 24, 25, 26, 27, 28, 29, 30, 31, 32, 33, 34, 35, 36, 37, 38, 39, 40, 41, 42, 43, 44, 45, 46, 47, 48, 49, 50, 51, 52, 53, 54, 55, 56, 57, 58, 59, 60, 61, 62, 63, 64, 65, 66, 67, 68, 69, 70, 71, 72, 73, 74, 75, 76, 77, 78, 79, 80, 81, 82, 89, 90, 91, 92, 93, 94, 95, 96, 97, 98, 99, 100, 101, 102, 103, 104, 105, 106, 107, 108, 109, 110, 111, 112, 113, 114, 115, 116, 117, 118, 119, 120] rfl (by decide +kernel)
set_option maxRecDepth 20000 in
theorem g_X6_night_X0_hedgesAfter : GoodIn wz_X6_night (wsV RX6 200 RX0 yX0_hedgesAfter wz_X0_hedgesAfter) := goodIn_r _ [83, 84, 85, 19, 86, 21, 87, 88, 28, 29, 25, 30, 31, 32, 100, 101, 102, 103, 104, 105, 106, 107, 108, 109, 110, 111, 112, 113, 114, 115, 116, 117, 118, 119, 120] rfl (by decide +kernel)
set_option maxHeartbeats 4000000 in
set_option maxRecDepth 100000 in
theorem c_X6_night (l : Launch) (dC : Nat → ClassId) (dI : Nat → Nat → Nat) (sz : Nat) (h0 : Nat) (tp : Nat) (ts : Int32) (fn : Int32) (fp : Int32) (rd : Nat) (gd : Nat) (im : Nat) (rw : Nat) (gn : Nat) (ho : Nat) (sq : Nat) (gdl : Int32) (gdh : Int64) (gdw : Int64) (gdi : Int32) (gde : Int32) (gdc : Int32) (gdt : Nat) (gdg : Int32) (gdu : Nat) (gdn : Int32) (gdx : Nat) (gdkx : ClassId) (gdX : Nat → Int32) (pl : Nat) (plw : Int32) (pld : Int32) (plc : Int32) (pls : Int32) (plm : Int64) (plf : Nat) (plo : Nat) (plb : Nat) (pla : Nat) (plkf : ClassId) (plF : Nat → Int32) (plko : ClassId) (plO : Nat → Int32) (plkb : ClassId) (plB : Nat → Int64) (plka : ClassId) (plA : Nat → Int32) (p0 : Int32) (p1 : Int32) (h_gdn : 0 ≤ gdn.toInt ∧ gdn.toInt ≤ 99) (h_pls : 0 ≤ pls.toInt ∧ pls.toInt ≤ 40) (hR_plf : RG plF 40 0 24) (hR_plo : RG plO 40 0 24) : Met l yX6_night wz_X6_night ({ frames := 5, cells := 0, slots := 0, locals := 139 }) (va_Pc [.ref h0, .int p0, .int p1] (fun U => U.heap.size = sz ∧ va_P (dC, dI) vwCl [(h0, .inr (6, [.ref tp, .int ts, .int fn, .int fp, .ref rd, .ref gd, .ref im, .ref rw, .ref gn, .ref ho, .ref sq])), (gd, .inr (0, [.ref pl, .int gdl, .long gdh, .long gdw, .int gdi, .int gde, .int gdc, .ref gdt, .int gdg, .ref gdu, .int gdn, .ref gdx])), (gdx, .inl (gdkx, 99, .inl gdX)), (pl, .inr (3, [.int plw, .int pld, .int plc, .int pls, .long plm, .ref plf, .ref plo, .ref plb, .ref pla])), (plf, .inl (plkf, 40, .inl plF)), (plo, .inl (plko, 40, .inl plO)), (plb, .inl (plkb, 40, .inr (.inl plB))), (pla, .inl (plka, 100, .inl plA))] U.heap ∧ va_K (dC, dI) vwCl [(gdkx, .int), (plkf, .int), (plko, .int), (plkb, .long), (plka, .int)] U ∧ va_D (fun _ => True) [(h0, .inr (6, [.ref tp, .int ts, .int fn, .int fp, .ref rd, .ref gd, .ref im, .ref rw, .ref gn, .ref ho, .ref sq])), (gd, .inr (0, [.ref pl, .int gdl, .long gdh, .long gdw, .int gdi, .int gde, .int gdc, .ref gdt, .int gdg, .ref gdu, .int gdn, .ref gdx])), (gdx, .inl (gdkx, 99, .inl gdX)), (pl, .inr (3, [.int plw, .int pld, .int plc, .int pls, .long plm, .ref plf, .ref plo, .ref plb, .ref pla])), (plf, .inl (plkf, 40, .inl plF)), (plo, .inl (plko, 40, .inl plO)), (plb, .inl (plkb, 40, .inr (.inl plB))), (pla, .inl (plka, 100, .inl plA))])) (va_Qi (fun (r : Int32) (u : Int64 × Int32 × (Nat → Int32)) => (0 ≤ u.2.1.toInt ∧ u.2.1.toInt ≤ 99)) (fun (u : Int64 × Int32 × (Nat → Int32)) (t : State) => va_P (dC, dI) vwCl [(h0, .inr (6, [.ref tp, .int ts, .int fn, .int fp, .ref rd, .ref gd, .ref im, .ref rw, .ref gn, .ref ho, .ref sq])), (gd, .inr (0, [.ref pl, .int gdl, .long u.1, .long gdw, .int gdi, .int gde, .int gdc, .ref gdt, .int gdg, .ref gdu, .int u.2.1, .ref gdx])), (gdx, .inl (gdkx, 99, .inl u.2.2)), (pl, .inr (3, [.int plw, .int pld, .int plc, .int pls, .long plm, .ref plf, .ref plo, .ref plb, .ref pla])), (plf, .inl (plkf, 40, .inl plF)), (plo, .inl (plko, 40, .inl plO)), (plb, .inl (plkb, 40, .inr (.inl plB))), (pla, .inl (plka, 100, .inl plA))] t.heap ∧ va_K (dC, dI) vwCl [] t ∧ va_D (va_A [(h0, .inr (6, [.ref tp, .int ts, .int fn, .int fp, .ref rd, .ref gd, .ref im, .ref rw, .ref gn, .ref ho, .ref sq])), (gd, .inr (0, [.ref pl, .int gdl, .long gdh, .long gdw, .int gdi, .int gde, .int gdc, .ref gdt, .int gdg, .ref gdu, .int gdn, .ref gdx])), (gdx, .inl (gdkx, 99, .inl gdX)), (pl, .inr (3, [.int plw, .int pld, .int plc, .int pls, .long plm, .ref plf, .ref plo, .ref plb, .ref pla])), (plf, .inl (plkf, 40, .inl plF)), (plo, .inl (plko, 40, .inl plO)), (plb, .inl (plkb, 40, .inr (.inl plB))), (pla, .inl (plka, 100, .inl plA))] sz) [(h0, .inr (6, [.ref tp, .int ts, .int fn, .int fp, .ref rd, .ref gd, .ref im, .ref rw, .ref gn, .ref ho, .ref sq])), (gd, .inr (0, [.ref pl, .int gdl, .long u.1, .long gdw, .int gdi, .int gde, .int gdc, .ref gdt, .int gdg, .ref gdu, .int u.2.1, .ref gdx])), (gdx, .inl (gdkx, 99, .inl u.2.2)), (pl, .inr (3, [.int plw, .int pld, .int plc, .int pls, .long plm, .ref plf, .ref plo, .ref plb, .ref pla])), (plf, .inl (plkf, 40, .inl plF)), (plo, .inl (plko, 40, .inl plO)), (plb, .inl (plkb, 40, .inr (.inl plB))), (pla, .inl (plka, 100, .inl plA))]) (va_A [(h0, .inr (6, [.ref tp, .int ts, .int fn, .int fp, .ref rd, .ref gd, .ref im, .ref rw, .ref gn, .ref ho, .ref sq])), (gd, .inr (0, [.ref pl, .int gdl, .long gdh, .long gdw, .int gdi, .int gde, .int gdc, .ref gdt, .int gdg, .ref gdu, .int gdn, .ref gdx])), (gdx, .inl (gdkx, 99, .inl gdX)), (pl, .inr (3, [.int plw, .int pld, .int plc, .int pls, .long plm, .ref plf, .ref plo, .ref plb, .ref pla])), (plf, .inl (plkf, 40, .inl plF)), (plo, .inl (plko, 40, .inl plO)), (plb, .inl (plkb, 40, .inr (.inl plB))), (pla, .inl (plka, 100, .inl plA))] sz)) 0 0 (va_A [(h0, .inr (6, [.ref tp, .int ts, .int fn, .int fp, .ref rd, .ref gd, .ref im, .ref rw, .ref gn, .ref ho, .ref sq])), (gd, .inr (0, [.ref pl, .int gdl, .long gdh, .long gdw, .int gdi, .int gde, .int gdc, .ref gdt, .int gdg, .ref gdu, .int gdn, .ref gdx])), (gdx, .inl (gdkx, 99, .inl gdX)), (pl, .inr (3, [.int plw, .int pld, .int plc, .int pls, .long plm, .ref plf, .ref plo, .ref plb, .ref pla])), (plf, .inl (plkf, 40, .inl plF)), (plo, .inl (plko, 40, .inl plO)), (plb, .inl (plkb, 40, .inr (.inl plB))), (pla, .inl (plka, 100, .inl plA))] sz) := by
  refine Met.ofW (cc := cX6_night) (maxL := 5) (ret := (some .int)) (by decide) rfl ?_
  intro p e s m args below meth c s₁ B hml hv
  obtain ⟨rfl, hsz, hP, hK, hD0⟩ := hv
  have hx := B.exec
  have hb := B.bytes
  have hr := B.returns
  have hts := atoms_spec (ws := wz_X6_night) B.pre
  have hown : s.vm.findClass RX6 = some m.cls := findClass_of_methodNamed B.named
  have hlocks := B.notSynchronized
  subst hsz
  have hD := hD0.self (sz := s.heap.size)
  generalize hAe : va_A [(h0, .inr (6, [.ref tp, .int ts, .int fn, .int fp, .ref rd, .ref gd, .ref im, .ref rw, .ref gn, .ref ho, .ref sq])), (gd, .inr (0, [.ref pl, .int gdl, .long gdh, .long gdw, .int gdi, .int gde, .int gdc, .ref gdt, .int gdg, .ref gdu, .int gdn, .ref gdx])), (gdx, .inl (gdkx, 99, .inl gdX)), (pl, .inr (3, [.int plw, .int pld, .int plc, .int pls, .long plm, .ref plf, .ref plo, .ref plb, .ref pla])), (plf, .inl (plkf, 40, .inl plF)), (plo, .inl (plko, 40, .inl plO)), (plb, .inl (plkb, 40, .inr (.inl plB))), (pla, .inl (plka, 100, .inl plA))] s.heap.size = A at hD ⊢
  have hA : ∀ q : Nat, s.heap.size ≤ q → A q := fun q h => by rw [← hAe]; exact Or.inr h
  have hS : va_S A s.heap s.heap [] := va_S.rf
  have hP : va_P (dC, dI) vwCl [(h0, .inr (6, [.ref tp, .int ts, .int fn, .int fp, .ref rd, .ref gd, .ref im, .ref rw, .ref gn, .ref ho, .ref sq])), (gd, .inr (0, [.ref pl, .int gdl, .long gdh, .long gdw, .int gdi, .int gde, .int gdc, .ref gdt, .int gdg, .ref gdu, .int gdn, .ref gdx])), (gdx, .inl (gdkx, 99, .inl gdX)), (pl, .inr (3, [.int plw, .int pld, .int plc, .int pls, .long plm, .ref plf, .ref plo, .ref plb, .ref pla])), (plf, .inl (plkf, 40, .inl plF)), (plo, .inl (plko, 40, .inl plO)), (plb, .inl (plkb, 40, .inr (.inl plB))), (pla, .inl (plka, 100, .inl plA))] s.heap := hP
  have hl := lv_entry ([.ref h0, .int p0, .int p1]) (n := 5) (Nat.le_of_ble_eq_true rfl)
  rw [lg_entry_eq]
  generalize (lg_sl ([.ref h0, .int p0, .int p1]) ++ List.replicate (5 - (lg_sl ([.ref h0, .int p0, .int p1])).length) Slot.unset).toArray = ls at hl ⊢
  have hl : lv_has ls 5 [(0, .ref h0), (1, .int p0), (2, .int p1)] := hl
  refine lv_aload_n hx hb dX6_night_0 rfl (lv_at hl 0 rfl) ?_
  refine lv_iload_n hx hb dX6_night_1 rfl (lv_at hl 1 rfl) ?_
  refine lv_iload_n hx hb dX6_night_2 rfl (lv_at hl 2 rfl) ?_
  have hPc := hP.sub (ws' := [(h0, .inr (6, [.ref tp, .int ts, .int fn, .int fp, .ref rd, .ref gd, .ref im, .ref rw, .ref gn, .ref ho, .ref sq])), (gd, .inr (0, [.ref pl, .int gdl, .long gdh, .long gdw, .int gdi, .int gde, .int gdc, .ref gdt, .int gdg, .ref gdu, .int gdn, .ref gdx])), (pl, .inr (3, [.int plw, .int pld, .int plc, .int pls, .long plm, .ref plf, .ref plo, .ref plb, .ref pla])), (plf, .inl (plkf, 40, .inl plF)), (plo, .inl (plko, 40, .inl plO)), (plb, .inl (plkb, 40, .inr (.inl plB))), (pla, .inl (plka, 100, .inl plA))]) [0, 1, 3, 4, 5, 6, 7] rfl
  have hDc := hD.sub (ws' := [(h0, .inr (6, [.ref tp, .int ts, .int fn, .int fp, .ref rd, .ref gd, .ref im, .ref rw, .ref gn, .ref ho, .ref sq])), (gd, .inr (0, [.ref pl, .int gdl, .long gdh, .long gdw, .int gdi, .int gde, .int gdc, .ref gdt, .int gdg, .ref gdu, .int gdn, .ref gdx])), (pl, .inr (3, [.int plw, .int pld, .int plc, .int pls, .long plm, .ref plf, .ref plo, .ref plb, .ref pla])), (plf, .inl (plkf, 40, .inl plF)), (plo, .inl (plko, 40, .inl plO)), (plb, .inl (plkb, 40, .inr (.inl plB))), (pla, .inl (plka, 100, .inl plA))]) [0, 1, 3, 4, 5, 6, 7] (by decide) rfl
  have hKc := hK.sub (tys' := [(plkf, .int), (plko, .int), (plkb, .long), (plka, .int)]) [1, 2, 3, 4] rfl
  have hFc := va_free (wc := [(h0, .inr (6, [.ref tp, .int ts, .int fn, .int fp, .ref rd, .ref gd, .ref im, .ref rw, .ref gn, .ref ho, .ref sq])), (gd, .inr (0, [.ref pl, .int gdl, .long gdh, .long gdw, .int gdi, .int gde, .int gdc, .ref gdt, .int gdg, .ref gdu, .int gdn, .ref gdx])), (pl, .inr (3, [.int plw, .int pld, .int plc, .int pls, .long plm, .ref plf, .ref plo, .ref plb, .ref pla])), (plf, .inl (plkf, 40, .inl plF)), (plo, .inl (plko, 40, .inl plO)), (plb, .inl (plkb, 40, .inr (.inl plB))), (pla, .inl (plka, 100, .inl plA))]) hD hS hA [0, 1, 3, 4, 5, 6, 7] rfl
  refine va_calli (va_runV (As := [.int p0, .int p1]) (rest := []) ⟨hx, hb, hml, hown, hts⟩ (c_X6_lawful l dC dI s.heap.size h0 tp ts fn fp rd gd im rw gn ho sq gdl gdh gdw gdi gde gdc gdt gdg gdu gdn gdx pl plw pld plc pls plm plf plo plb pla plkf plF plko plO plkb plB plka plA p0 p1 (by omega) hR_plf hR_plo) (cwV 2 hts g_X6_night_X6_lawful rfl rfl rfl (by decide +kernel) ⟨Nat.le_of_ble_eq_true rfl, Nat.le_of_ble_eq_true rfl⟩) ⟨fun a U g mk q => by obtain ⟨q0, q1, qP, qK, qD⟩ := q; exact ⟨q0, q1, qP, va_K.moved (u := U) (U := U.calling g mk a) (Vm.Alike.refl U.vm) qK, qD⟩, va_recv hKc hPc (ci := 6) (q0 := 0) rfl rfl, fun U hU hW => ⟨rfl, by rw [hU], by rw [hU]; exact hPc, va_K.moved hW.alike hKc, hDc.weaken (fun _ _ _ _ => trivial)⟩⟩ rfl rfl hl.1 rfl (lv_room (Nat.le_of_ble_eq_true rfl)) dX6_night_3 ⟨Nat.le_of_ble_eq_true rfl, Nat.le_of_ble_eq_true rfl⟩) hS (fun q _ h => hFc q h) hFc (fun r_1 u t H1 locs ht hvm hw_2 hB hz1 hk1 hS => ?_)
  obtain ⟨hP1, hK1, hD1⟩ := hB
  have hP1 : va_P (dC, dI) vwCl [(h0, .inr (6, [.ref tp, .int ts, .int fn, .int fp, .ref rd, .ref gd, .ref im, .ref rw, .ref gn, .ref ho, .ref sq])), (gd, .inr (0, [.ref pl, .int gdl, .long gdh, .long gdw, .int gdi, .int gde, .int gdc, .ref gdt, .int gdg, .ref gdu, .int gdn, .ref gdx])), (pl, .inr (3, [.int plw, .int pld, .int plc, .int pls, .long plm, .ref plf, .ref plo, .ref plb, .ref pla])), (plf, .inl (plkf, 40, .inl plF)), (plo, .inl (plko, 40, .inl plO)), (plb, .inl (plkb, 40, .inr (.inl plB))), (pla, .inl (plka, 100, .inl plA))] t.heap := hP1
  rw [ht] at hP1
  try dsimp only at hw_2
  obtain ⟨hP, hD⟩ := va_join (wr := [(gdx, .inl (gdkx, 99, .inl gdX))]) (w1 := [(h0, .inr (6, [.ref tp, .int ts, .int fn, .int fp, .ref rd, .ref gd, .ref im, .ref rw, .ref gn, .ref ho, .ref sq])), (gd, .inr (0, [.ref pl, .int gdl, .long gdh, .long gdw, .int gdi, .int gde, .int gdc, .ref gdt, .int gdg, .ref gdu, .int gdn, .ref gdx])), (pl, .inr (3, [.int plw, .int pld, .int plc, .int pls, .long plm, .ref plf, .ref plo, .ref plb, .ref pla])), (plf, .inl (plkf, 40, .inl plF)), (plo, .inl (plko, 40, .inl plO)), (plb, .inl (plkb, 40, .inr (.inl plB))), (pla, .inl (plka, 100, .inl plA))]) hP hD [0, 1, 3, 4, 5, 6, 7] [2] rfl rfl (by decide) (by decide) hk1 hFc hP1 hD1
  generalize H1 = H at hP hS ⊢
  have hP : va_P (dC, dI) vwCl [(gdx, .inl (gdkx, 99, .inl gdX)), (h0, .inr (6, [.ref tp, .int ts, .int fn, .int fp, .ref rd, .ref gd, .ref im, .ref rw, .ref gn, .ref ho, .ref sq])), (gd, .inr (0, [.ref pl, .int gdl, .long gdh, .long gdw, .int gdi, .int gde, .int gdc, .ref gdt, .int gdg, .ref gdu, .int gdn, .ref gdx])), (pl, .inr (3, [.int plw, .int pld, .int plc, .int pls, .long plm, .ref plf, .ref plo, .ref plb, .ref pla])), (plf, .inl (plkf, 40, .inl plF)), (plo, .inl (plko, 40, .inl plO)), (plb, .inl (plkb, 40, .inr (.inl plB))), (pla, .inl (plka, 100, .inl plA))] H := hP
  have hD : va_D A [(gdx, .inl (gdkx, 99, .inl gdX)), (h0, .inr (6, [.ref tp, .int ts, .int fn, .int fp, .ref rd, .ref gd, .ref im, .ref rw, .ref gn, .ref ho, .ref sq])), (gd, .inr (0, [.ref pl, .int gdl, .long gdh, .long gdw, .int gdi, .int gde, .int gdc, .ref gdt, .int gdg, .ref gdu, .int gdn, .ref gdx])), (pl, .inr (3, [.int plw, .int pld, .int plc, .int pls, .long plm, .ref plf, .ref plo, .ref plb, .ref pla])), (plf, .inl (plkf, 40, .inl plF)), (plo, .inl (plko, 40, .inl plO)), (plb, .inl (plkb, 40, .inr (.inl plB))), (pla, .inl (plka, 100, .inl plA))] := hD
  refine lv_istore_n (lv' := [(3, .int r_1), (0, .ref h0), (1, .int p0), (2, .int p1)]) hx hb dX6_night_6 rfl hl (by decide) rfl (fun ls hl => ?_)
  refine lv_iload_n hx hb dX6_night_7 rfl (lv_at hl 0 rfl) ?_
  refine lv_if_eq (tgt := 13) hx hb dX6_night_8 (by decide) (fun c_3 => ?_) (fun c_3 => ?_)
  · have c_3 : r_1.toInt = 0 := i_eq (a := r_1) (b := 0) rfl (by decide) c_3
    refine lv_aload_n hx hb dX6_night_13 rfl (lv_at hl 1 rfl) ?_
    refine va_get (D := (dC, dI)) (ci := 6) (v := .ref gd) (C := RX6) (T := TX6) (N := 11) hx hb hts in_X6_night_X6 hown hK hP 1 rfl rfl 5 (by decide) (hts _ wd_X6_night_0) (fun _ h9 => h9) rfl dX6_night_14 ?_
    refine va_get (D := (dC, dI)) (ci := 0) (v := .int gdn) (C := RX0) (T := TX0) (N := 12) hx hb hts in_X6_night_X0 hown hK hP 2 rfl rfl 10 (by decide) (hts _ wd_X6_night_1) (fun _ h9 => h9) rfl dX6_night_17 ?_
    refine lv_bipush (v := 99) hx hb dX6_night_20 (by decide) ?_
    refine lv_icmp_lt (tgt := 28) hx hb dX6_night_22 (by decide) (fun c_4 => ?_) (fun c_4 => ?_)
    · have c_4 : gdn.toInt < 99 := i_lt (a := gdn) (b := 99) rfl (by decide) c_4
      refine lv_bipush (v := 100) hx hb dX6_night_28 (by decide) ?_
      refine lv_iload_n hx hb dX6_night_30 rfl (lv_at hl 2 rfl) ?_
      refine lv_imul hx hb dX6_night_31 ?_
      refine lv_topi (fun x_5 ex_5 => ?_)
      refine lv_iload_n hx hb dX6_night_32 rfl (lv_at hl 3 rfl) ?_
      refine lv_iadd hx hb dX6_night_33 ?_
      refine lv_topi (fun x_6 ex_6 => ?_)
      refine lv_istore (lv' := [(4, .int x_6), (3, .int r_1), (0, .ref h0), (1, .int p0), (2, .int p1)]) hx hb dX6_night_34 hl (by decide) rfl (fun ls hl => ?_)
      refine lv_aload_n hx hb dX6_night_36 rfl (lv_at hl 2 rfl) ?_
      refine va_get (D := (dC, dI)) (ci := 6) (v := .ref gd) (C := RX6) (T := TX6) (N := 11) hx hb hts in_X6_night_X6 hown hK hP 1 rfl rfl 5 (by decide) (hts _ wd_X6_night_0) (fun _ h9 => h9) rfl dX6_night_37 ?_
      refine lv_aload_n hx hb dX6_night_40 rfl (lv_at hl 2 rfl) ?_
      refine va_get (D := (dC, dI)) (ci := 6) (v := .ref gd) (C := RX6) (T := TX6) (N := 11) hx hb hts in_X6_night_X6 hown hK hP 1 rfl rfl 5 (by decide) (hts _ wd_X6_night_0) (fun _ h9 => h9) rfl dX6_night_41 ?_
      refine lv_aload_n hx hb dX6_night_44 rfl (lv_at hl 2 rfl) ?_
      refine va_get (D := (dC, dI)) (ci := 6) (v := .ref gd) (C := RX6) (T := TX6) (N := 11) hx hb hts in_X6_night_X6 hown hK hP 1 rfl rfl 5 (by decide) (hts _ wd_X6_night_0) (fun _ h9 => h9) rfl dX6_night_45 ?_
      refine va_get (D := (dC, dI)) (ci := 0) (v := .long gdh) (C := RX0) (T := TX0) (N := 12) hx hb hts in_X6_night_X0 hown hK hP 2 rfl rfl 2 (by decide) (hts _ wd_X6_night_2) (fun _ h9 => h9) rfl dX6_night_48 ?_
      refine lv_iload hx hb dX6_night_51 (lv_at hl 0 rfl) ?_
      refine lv_i2l (v := x_6.toInt64) hx hb dX6_night_53 rfl ?_
      have hPc := hP.sub (ws' := [(gd, .inr (0, [.ref pl, .int gdl, .long gdh, .long gdw, .int gdi, .int gde, .int gdc, .ref gdt, .int gdg, .ref gdu, .int gdn, .ref gdx])), (pl, .inr (3, [.int plw, .int pld, .int plc, .int pls, .long plm, .ref plf, .ref plo, .ref plb, .ref pla])), (plb, .inl (plkb, 40, .inr (.inl plB)))]) [2, 3, 6] rfl
      have hDc := hD.sub (ws' := [(gd, .inr (0, [.ref pl, .int gdl, .long gdh, .long gdw, .int gdi, .int gde, .int gdc, .ref gdt, .int gdg, .ref gdu, .int gdn, .ref gdx])), (pl, .inr (3, [.int plw, .int pld, .int plc, .int pls, .long plm, .ref plf, .ref plo, .ref plb, .ref pla])), (plb, .inl (plkb, 40, .inr (.inl plB)))]) [2, 3, 6] (by decide) rfl
      have hKc := hK.sub (tys' := [(plkb, .long)]) [3] rfl
      have hFc := va_free (wc := [(gd, .inr (0, [.ref pl, .int gdl, .long gdh, .long gdw, .int gdi, .int gde, .int gdc, .ref gdt, .int gdg, .ref gdu, .int gdn, .ref gdx])), (pl, .inr (3, [.int plw, .int pld, .int plc, .int pls, .long plm, .ref plf, .ref plo, .ref plb, .ref pla])), (plb, .inl (plkb, 40, .inr (.inl plB)))]) hD hS hA [2, 3, 6] rfl
      refine va_calll (va_runV (As := [.long gdh, .long x_6.toInt64]) (rest := [.ref gd]) ⟨hx, hb, hml, hown, hts⟩ (c_X0_hedgesAfter l dC dI H.size gd gdl gdh gdw gdi gde gdc gdt gdg gdu gdn gdx pl plw pld plc pls plm plf plo plb pla plkb plB gdh x_6.toInt64 (by omega)) (cwV 2 hts g_X6_night_X0_hedgesAfter rfl rfl rfl (by decide +kernel) ⟨Nat.le_of_ble_eq_true rfl, Nat.le_of_ble_eq_true rfl⟩) ⟨fun a U g mk q => by obtain ⟨q0, q1, qP, qK, qD⟩ := q; exact ⟨q0, q1, qP, va_K.moved (u := U) (U := U.calling g mk a) (Vm.Alike.refl U.vm) qK, qD⟩, va_recv hKc hPc (ci := 0) (q0 := 0) rfl rfl, fun U hU hW => ⟨rfl, by rw [hU], by rw [hU]; exact hPc, va_K.moved hW.alike hKc, hDc.weaken (fun _ _ _ _ => trivial)⟩⟩ rfl rfl hl.1 rfl (lv_room (Nat.le_of_ble_eq_true rfl)) dX6_night_54 ⟨Nat.le_of_ble_eq_true rfl, Nat.le_of_ble_eq_true rfl⟩) hS (fun q _ h => hFc q h) hFc (fun r_7 u t H1 locs ht hvm hw_8 hB hz1 hk1 hS => ?_)
      obtain ⟨hP1, hK1, hD1⟩ := hB
      have hP1 : va_P (dC, dI) vwCl [(gd, .inr (0, [.ref pl, .int gdl, .long gdh, .long gdw, .int gdi, .int gde, .int gdc, .ref gdt, .int gdg, .ref gdu, .int gdn, .ref gdx])), (pl, .inr (3, [.int plw, .int pld, .int plc, .int pls, .long plm, .ref plf, .ref plo, .ref plb, .ref pla])), (plb, .inl (plkb, 40, .inr (.inl plB)))] t.heap := hP1
      rw [ht] at hP1
      try dsimp only at hw_8
      obtain ⟨hP, hD⟩ := va_join (wr := [(gdx, .inl (gdkx, 99, .inl gdX)), (h0, .inr (6, [.ref tp, .int ts, .int fn, .int fp, .ref rd, .ref gd, .ref im, .ref rw, .ref gn, .ref ho, .ref sq])), (plf, .inl (plkf, 40, .inl plF)), (plo, .inl (plko, 40, .inl plO)), (pla, .inl (plka, 100, .inl plA))]) (w1 := [(gd, .inr (0, [.ref pl, .int gdl, .long gdh, .long gdw, .int gdi, .int gde, .int gdc, .ref gdt, .int gdg, .ref gdu, .int gdn, .ref gdx])), (pl, .inr (3, [.int plw, .int pld, .int plc, .int pls, .long plm, .ref plf, .ref plo, .ref plb, .ref pla])), (plb, .inl (plkb, 40, .inr (.inl plB)))]) hP hD [2, 3, 6] [0, 1, 4, 5, 7] rfl rfl (by decide) (by decide) hk1 hFc hP1 hD1
      generalize H1 = H at hP hS ⊢
      have hP : va_P (dC, dI) vwCl [(gdx, .inl (gdkx, 99, .inl gdX)), (h0, .inr (6, [.ref tp, .int ts, .int fn, .int fp, .ref rd, .ref gd, .ref im, .ref rw, .ref gn, .ref ho, .ref sq])), (plf, .inl (plkf, 40, .inl plF)), (plo, .inl (plko, 40, .inl plO)), (pla, .inl (plka, 100, .inl plA)), (gd, .inr (0, [.ref pl, .int gdl, .long gdh, .long gdw, .int gdi, .int gde, .int gdc, .ref gdt, .int gdg, .ref gdu, .int gdn, .ref gdx])), (pl, .inr (3, [.int plw, .int pld, .int plc, .int pls, .long plm, .ref plf, .ref plo, .ref plb, .ref pla])), (plb, .inl (plkb, 40, .inr (.inl plB)))] H := hP
      have hD : va_D A [(gdx, .inl (gdkx, 99, .inl gdX)), (h0, .inr (6, [.ref tp, .int ts, .int fn, .int fp, .ref rd, .ref gd, .ref im, .ref rw, .ref gn, .ref ho, .ref sq])), (plf, .inl (plkf, 40, .inl plF)), (plo, .inl (plko, 40, .inl plO)), (pla, .inl (plka, 100, .inl plA)), (gd, .inr (0, [.ref pl, .int gdl, .long gdh, .long gdw, .int gdi, .int gde, .int gdc, .ref gdt, .int gdg, .ref gdu, .int gdn, .ref gdx])), (pl, .inr (3, [.int plw, .int pld, .int plc, .int pls, .long plm, .ref plf, .ref plo, .ref plb, .ref pla])), (plb, .inl (plkb, 40, .inr (.inl plB)))] := hD
      refine va_put (D := (dC, dI)) (ci := 0) (v := .long r_7) (ty := .long) (C := RX0) (T := TX0) (N := 12) hx hb hts in_X6_night_X0 tyX0 tyX0_ok nmX0 hown hK hP hD hS 5 rfl rfl 2 (by decide) (hts _ wd_X6_night_2) (fun _ h9 => h9) rfl (by decide +kernel) rfl rfl (Nat.le_of_ble_eq_true rfl) dX6_night_57 (fun H locs hP hD hS => ?_)
      have hP : va_P (dC, dI) vwCl [(gdx, .inl (gdkx, 99, .inl gdX)), (h0, .inr (6, [.ref tp, .int ts, .int fn, .int fp, .ref rd, .ref gd, .ref im, .ref rw, .ref gn, .ref ho, .ref sq])), (plf, .inl (plkf, 40, .inl plF)), (plo, .inl (plko, 40, .inl plO)), (pla, .inl (plka, 100, .inl plA)), (gd, .inr (0, [.ref pl, .int gdl, .long r_7, .long gdw, .int gdi, .int gde, .int gdc, .ref gdt, .int gdg, .ref gdu, .int gdn, .ref gdx])), (pl, .inr (3, [.int plw, .int pld, .int plc, .int pls, .long plm, .ref plf, .ref plo, .ref plb, .ref pla])), (plb, .inl (plkb, 40, .inr (.inl plB)))] H := hP
      have hD : va_D A [(gdx, .inl (gdkx, 99, .inl gdX)), (h0, .inr (6, [.ref tp, .int ts, .int fn, .int fp, .ref rd, .ref gd, .ref im, .ref rw, .ref gn, .ref ho, .ref sq])), (plf, .inl (plkf, 40, .inl plF)), (plo, .inl (plko, 40, .inl plO)), (pla, .inl (plka, 100, .inl plA)), (gd, .inr (0, [.ref pl, .int gdl, .long r_7, .long gdw, .int gdi, .int gde, .int gdc, .ref gdt, .int gdg, .ref gdu, .int gdn, .ref gdx])), (pl, .inr (3, [.int plw, .int pld, .int plc, .int pls, .long plm, .ref plf, .ref plo, .ref plb, .ref pla])), (plb, .inl (plkb, 40, .inr (.inl plB)))] := hD
      refine lv_aload_n hx hb dX6_night_60 rfl (lv_at hl 2 rfl) ?_
      refine va_get (D := (dC, dI)) (ci := 6) (v := .ref gd) (C := RX6) (T := TX6) (N := 11) hx hb hts in_X6_night_X6 hown hK hP 1 rfl rfl 5 (by decide) (hts _ wd_X6_night_0) (fun _ h9 => h9) rfl dX6_night_61 ?_
      refine va_get (D := (dC, dI)) (ci := 0) (v := .ref gdx) (C := RX0) (T := TX0) (N := 12) hx hb hts in_X6_night_X0 hown hK hP 5 rfl rfl 11 (by decide) (hts _ wd_X6_night_3) (fun _ h9 => h9) rfl dX6_night_64 ?_
      refine lv_aload_n hx hb dX6_night_67 rfl (lv_at hl 2 rfl) ?_
      refine va_get (D := (dC, dI)) (ci := 6) (v := .ref gd) (C := RX6) (T := TX6) (N := 11) hx hb hts in_X6_night_X6 hown hK hP 1 rfl rfl 5 (by decide) (hts _ wd_X6_night_0) (fun _ h9 => h9) rfl dX6_night_68 ?_
      refine va_get (D := (dC, dI)) (ci := 0) (v := .int gdn) (C := RX0) (T := TX0) (N := 12) hx hb hts in_X6_night_X0 hown hK hP 5 rfl rfl 10 (by decide) (hts _ wd_X6_night_1) (fun _ h9 => h9) rfl dX6_night_71 ?_
      refine lv_iload hx hb dX6_night_74 (lv_at hl 0 rfl) ?_
      refine va_iast hx hb hK hP hD hS 0 0 rfl rfl (i_in rfl (by omega) (by omega)) dX6_night_76 (fun H locs hP hD hS => ?_)
      have hP : va_P (dC, dI) vwCl [(gdx, .inl (gdkx, 99, .inl (upd gdX gdn.toNatClampNeg x_6))), (h0, .inr (6, [.ref tp, .int ts, .int fn, .int fp, .ref rd, .ref gd, .ref im, .ref rw, .ref gn, .ref ho, .ref sq])), (plf, .inl (plkf, 40, .inl plF)), (plo, .inl (plko, 40, .inl plO)), (pla, .inl (plka, 100, .inl plA)), (gd, .inr (0, [.ref pl, .int gdl, .long r_7, .long gdw, .int gdi, .int gde, .int gdc, .ref gdt, .int gdg, .ref gdu, .int gdn, .ref gdx])), (pl, .inr (3, [.int plw, .int pld, .int plc, .int pls, .long plm, .ref plf, .ref plo, .ref plb, .ref pla])), (plb, .inl (plkb, 40, .inr (.inl plB)))] H := hP
      have hD : va_D A [(gdx, .inl (gdkx, 99, .inl (upd gdX gdn.toNatClampNeg x_6))), (h0, .inr (6, [.ref tp, .int ts, .int fn, .int fp, .ref rd, .ref gd, .ref im, .ref rw, .ref gn, .ref ho, .ref sq])), (plf, .inl (plkf, 40, .inl plF)), (plo, .inl (plko, 40, .inl plO)), (pla, .inl (plka, 100, .inl plA)), (gd, .inr (0, [.ref pl, .int gdl, .long r_7, .long gdw, .int gdi, .int gde, .int gdc, .ref gdt, .int gdg, .ref gdu, .int gdn, .ref gdx])), (pl, .inr (3, [.int plw, .int pld, .int plc, .int pls, .long plm, .ref plf, .ref plo, .ref plb, .ref pla])), (plb, .inl (plkb, 40, .inr (.inl plB)))] := hD
      obtain ⟨f_9, ef_9⟩ : ∃ g, g = upd gdX gdn.toNatClampNeg x_6 := ⟨_, rfl⟩
      rw [← ef_9] at hP hD
      refine lv_aload_n hx hb dX6_night_77 rfl (lv_at hl 2 rfl) ?_
      refine va_get (D := (dC, dI)) (ci := 6) (v := .ref gd) (C := RX6) (T := TX6) (N := 11) hx hb hts in_X6_night_X6 hown hK hP 1 rfl rfl 5 (by decide) (hts _ wd_X6_night_0) (fun _ h9 => h9) rfl dX6_night_78 ?_
      refine lv_dup hx hb dX6_night_81 rfl ?_
      refine va_get (D := (dC, dI)) (ci := 0) (v := .int gdn) (C := RX0) (T := TX0) (N := 12) hx hb hts in_X6_night_X0 hown hK hP 5 rfl rfl 10 (by decide) (hts _ wd_X6_night_1) (fun _ h9 => h9) rfl dX6_night_82 ?_
      refine lv_iconst (v := 1) hx hb dX6_night_85 (by decide) ?_
      refine lv_iadd hx hb dX6_night_86 ?_
      refine lv_topi (fun x_10 ex_10 => ?_)
      have zx_10 : x_10.toInt = gdn.toInt + 1 := by rw [ex_10]; exact i_add rfl (by decide) (by omega) (by omega)
      refine va_put (D := (dC, dI)) (ci := 0) (v := .int x_10) (ty := .int) (C := RX0) (T := TX0) (N := 12) hx hb hts in_X6_night_X0 tyX0 tyX0_ok nmX0 hown hK hP hD hS 5 rfl rfl 10 (by decide) (hts _ wd_X6_night_1) (fun _ h9 => h9) rfl (by decide +kernel) rfl rfl (Nat.le_of_ble_eq_true rfl) dX6_night_87 (fun H locs hP hD hS => ?_)
      have hP : va_P (dC, dI) vwCl [(gdx, .inl (gdkx, 99, .inl f_9)), (h0, .inr (6, [.ref tp, .int ts, .int fn, .int fp, .ref rd, .ref gd, .ref im, .ref rw, .ref gn, .ref ho, .ref sq])), (plf, .inl (plkf, 40, .inl plF)), (plo, .inl (plko, 40, .inl plO)), (pla, .inl (plka, 100, .inl plA)), (gd, .inr (0, [.ref pl, .int gdl, .long r_7, .long gdw, .int gdi, .int gde, .int gdc, .ref gdt, .int gdg, .ref gdu, .int x_10, .ref gdx])), (pl, .inr (3, [.int plw, .int pld, .int plc, .int pls, .long plm, .ref plf, .ref plo, .ref plb, .ref pla])), (plb, .inl (plkb, 40, .inr (.inl plB)))] H := hP
      have hD : va_D A [(gdx, .inl (gdkx, 99, .inl f_9)), (h0, .inr (6, [.ref tp, .int ts, .int fn, .int fp, .ref rd, .ref gd, .ref im, .ref rw, .ref gn, .ref ho, .ref sq])), (plf, .inl (plkf, 40, .inl plF)), (plo, .inl (plko, 40, .inl plO)), (pla, .inl (plka, 100, .inl plA)), (gd, .inr (0, [.ref pl, .int gdl, .long r_7, .long gdw, .int gdi, .int gde, .int gdc, .ref gdt, .int gdg, .ref gdu, .int x_10, .ref gdx])), (pl, .inr (3, [.int plw, .int pld, .int plc, .int pls, .long plm, .ref plf, .ref plo, .ref plb, .ref pla])), (plb, .inl (plkb, 40, .inr (.inl plB)))] := hD
      refine lv_iconst (v := 0) hx hb dX6_night_90 (by decide) ?_
      have hP9 := hP.sub (ws' := [(h0, .inr (6, [.ref tp, .int ts, .int fn, .int fp, .ref rd, .ref gd, .ref im, .ref rw, .ref gn, .ref ho, .ref sq])), (gd, .inr (0, [.ref pl, .int gdl, .long r_7, .long gdw, .int gdi, .int gde, .int gdc, .ref gdt, .int gdg, .ref gdu, .int x_10, .ref gdx])), (gdx, .inl (gdkx, 99, .inl f_9)), (pl, .inr (3, [.int plw, .int pld, .int plc, .int pls, .long plm, .ref plf, .ref plo, .ref plb, .ref pla])), (plf, .inl (plkf, 40, .inl plF)), (plo, .inl (plko, 40, .inl plO)), (plb, .inl (plkb, 40, .inr (.inl plB))), (pla, .inl (plka, 100, .inl plA))]) [1, 5, 0, 6, 2, 3, 7, 4] rfl
      have hD9 := hD.sub (ws' := [(h0, .inr (6, [.ref tp, .int ts, .int fn, .int fp, .ref rd, .ref gd, .ref im, .ref rw, .ref gn, .ref ho, .ref sq])), (gd, .inr (0, [.ref pl, .int gdl, .long r_7, .long gdw, .int gdi, .int gde, .int gdc, .ref gdt, .int gdg, .ref gdu, .int x_10, .ref gdx])), (gdx, .inl (gdkx, 99, .inl f_9)), (pl, .inr (3, [.int plw, .int pld, .int plc, .int pls, .long plm, .ref plf, .ref plo, .ref plb, .ref pla])), (plf, .inl (plkf, 40, .inl plF)), (plo, .inl (plko, 40, .inl plO)), (plb, .inl (plkb, 40, .inr (.inl plB))), (pla, .inl (plka, 100, .inl plA))]) [1, 5, 0, 6, 2, 3, 7, 4] (by decide) rfl
      have hK9 := hK.sub (tys' := []) [] rfl
      refine W.widen (k := 0) (n := 0) (by omega) (by omega) ?_
      exact W.iret (v := 0) hx hb hr (fun t ht hW => ⟨⟨0, (r_7, x_10, f_9), rfl, (by have k0 : (0 : Int32).toInt = 0 := (by decide); first | rfl | trivial | (dsimp only; omega) | omega | (left; rfl) | (right; rfl) | (dsimp only; first | (left; rfl) | (right; rfl))), by rw [ht]; exact hP9, va_K.moved hW.alike hK9, hD9⟩, hS.F ht⟩) hS.2.2 dX6_night_91
    · have c_4 : 99 ≤ gdn.toInt := i_nlt (a := gdn) (b := 99) rfl (by decide) c_4
      refine lv_bipush (v := -3) hx hb dX6_night_25 (by decide) ?_
      have hP9 := hP.sub (ws' := [(h0, .inr (6, [.ref tp, .int ts, .int fn, .int fp, .ref rd, .ref gd, .ref im, .ref rw, .ref gn, .ref ho, .ref sq])), (gd, .inr (0, [.ref pl, .int gdl, .long gdh, .long gdw, .int gdi, .int gde, .int gdc, .ref gdt, .int gdg, .ref gdu, .int gdn, .ref gdx])), (gdx, .inl (gdkx, 99, .inl gdX)), (pl, .inr (3, [.int plw, .int pld, .int plc, .int pls, .long plm, .ref plf, .ref plo, .ref plb, .ref pla])), (plf, .inl (plkf, 40, .inl plF)), (plo, .inl (plko, 40, .inl plO)), (plb, .inl (plkb, 40, .inr (.inl plB))), (pla, .inl (plka, 100, .inl plA))]) [1, 2, 0, 3, 4, 5, 6, 7] rfl
      have hD9 := hD.sub (ws' := [(h0, .inr (6, [.ref tp, .int ts, .int fn, .int fp, .ref rd, .ref gd, .ref im, .ref rw, .ref gn, .ref ho, .ref sq])), (gd, .inr (0, [.ref pl, .int gdl, .long gdh, .long gdw, .int gdi, .int gde, .int gdc, .ref gdt, .int gdg, .ref gdu, .int gdn, .ref gdx])), (gdx, .inl (gdkx, 99, .inl gdX)), (pl, .inr (3, [.int plw, .int pld, .int plc, .int pls, .long plm, .ref plf, .ref plo, .ref plb, .ref pla])), (plf, .inl (plkf, 40, .inl plF)), (plo, .inl (plko, 40, .inl plO)), (plb, .inl (plkb, 40, .inr (.inl plB))), (pla, .inl (plka, 100, .inl plA))]) [1, 2, 0, 3, 4, 5, 6, 7] (by decide) rfl
      have hK9 := hK.sub (tys' := []) [] rfl
      refine W.widen (k := 0) (n := 0) (by omega) (by omega) ?_
      exact W.iret (v := -3) hx hb hr (fun t ht hW => ⟨⟨(-3), (gdh, gdn, gdX), rfl, (by have k0 : (-3 : Int32).toInt = -3 := (by decide); first | rfl | trivial | (dsimp only; omega) | omega | (left; rfl) | (right; rfl) | (dsimp only; first | (left; rfl) | (right; rfl))), by rw [ht]; exact hP9, va_K.moved hW.alike hK9, hD9⟩, hS.F ht⟩) hS.2.2 dX6_night_27
  · have c_3 : r_1.toInt ≠ 0 := i_ne (a := r_1) (b := 0) rfl (by decide) c_3
    refine lv_iload_n hx hb dX6_night_11 rfl (lv_at hl 0 rfl) ?_
    have hP9 := hP.sub (ws' := [(h0, .inr (6, [.ref tp, .int ts, .int fn, .int fp, .ref rd, .ref gd, .ref im, .ref rw, .ref gn, .ref ho, .ref sq])), (gd, .inr (0, [.ref pl, .int gdl, .long gdh, .long gdw, .int gdi, .int gde, .int gdc, .ref gdt, .int gdg, .ref gdu, .int gdn, .ref gdx])), (gdx, .inl (gdkx, 99, .inl gdX)), (pl, .inr (3, [.int plw, .int pld, .int plc, .int pls, .long plm, .ref plf, .ref plo, .ref plb, .ref pla])), (plf, .inl (plkf, 40, .inl plF)), (plo, .inl (plko, 40, .inl plO)), (plb, .inl (plkb, 40, .inr (.inl plB))), (pla, .inl (plka, 100, .inl plA))]) [1, 2, 0, 3, 4, 5, 6, 7] rfl
    have hD9 := hD.sub (ws' := [(h0, .inr (6, [.ref tp, .int ts, .int fn, .int fp, .ref rd, .ref gd, .ref im, .ref rw, .ref gn, .ref ho, .ref sq])), (gd, .inr (0, [.ref pl, .int gdl, .long gdh, .long gdw, .int gdi, .int gde, .int gdc, .ref gdt, .int gdg, .ref gdu, .int gdn, .ref gdx])), (gdx, .inl (gdkx, 99, .inl gdX)), (pl, .inr (3, [.int plw, .int pld, .int plc, .int pls, .long plm, .ref plf, .ref plo, .ref plb, .ref pla])), (plf, .inl (plkf, 40, .inl plF)), (plo, .inl (plko, 40, .inl plO)), (plb, .inl (plkb, 40, .inr (.inl plB))), (pla, .inl (plka, 100, .inl plA))]) [1, 2, 0, 3, 4, 5, 6, 7] (by decide) rfl
    have hK9 := hK.sub (tys' := []) [] rfl
    refine W.widen (k := 0) (n := 0) (by omega) (by omega) ?_
    exact W.iret (v := r_1) hx hb hr (fun t ht hW => ⟨⟨r_1, (gdh, gdn, gdX), rfl, (by first | rfl | trivial | (dsimp only; omega) | omega | (left; rfl) | (right; rfl) | (dsimp only; first | (left; rfl) | (right; rfl))), by rw [ht]; exact hP9, va_K.moved hW.alike hK9, hD9⟩, hS.F ht⟩) hS.2.2 dX6_night_12

theorem dX6_dawn_0 : decode cX6_dawn 0 = .ok (.aload_n 0, 1) := by decide +kernel
theorem dX6_dawn_1 : decode cX6_dawn 1 = .ok (.invokevirtual 86, 3) := by decide +kernel
theorem dX6_dawn_4 : decode cX6_dawn 4 = .ok (.ifCond .ne 6, 3) := by decide +kernel
theorem dX6_dawn_7 : decode cX6_dawn 7 = .ok (.bipush (-2), 2) := by decide +kernel
theorem dX6_dawn_9 : decode cX6_dawn 9 = .ok (.ireturn, 1) := by decide +kernel
theorem dX6_dawn_10 : decode cX6_dawn 10 = .ok (.aload_n 0, 1) := by decide +kernel
theorem dX6_dawn_11 : decode cX6_dawn 11 = .ok (.getfield 33, 3) := by decide +kernel
theorem dX6_dawn_14 : decode cX6_dawn 14 = .ok (.getfield 197, 3) := by decide +kernel
theorem dX6_dawn_17 : decode cX6_dawn 17 = .ok (.ifCond .gt 5, 3) := by decide +kernel
theorem dX6_dawn_20 : decode cX6_dawn 20 = .ok (.iconst 0, 1) := by decide +kernel
theorem dX6_dawn_21 : decode cX6_dawn 21 = .ok (.ireturn, 1) := by decide +kernel
theorem dX6_dawn_22 : decode cX6_dawn 22 = .ok (.aload_n 0, 1) := by decide +kernel
theorem dX6_dawn_23 : decode cX6_dawn 23 = .ok (.getfield 33, 3) := by decide +kernel
theorem dX6_dawn_26 : decode cX6_dawn 26 = .ok (.dup, 1) := by decide +kernel
theorem dX6_dawn_27 : decode cX6_dawn 27 = .ok (.getfield 197, 3) := by decide +kernel
theorem dX6_dawn_30 : decode cX6_dawn 30 = .ok (.iconst 1, 1) := by decide +kernel
theorem dX6_dawn_31 : decode cX6_dawn 31 = .ok (.isub, 1) := by decide +kernel
theorem dX6_dawn_32 : decode cX6_dawn 32 = .ok (.putfield 197, 3) := by decide +kernel
theorem dX6_dawn_35 : decode cX6_dawn 35 = .ok (.aload_n 0, 1) := by decide +kernel
theorem dX6_dawn_36 : decode cX6_dawn 36 = .ok (.getfield 33, 3) := by decide +kernel
theorem dX6_dawn_39 : decode cX6_dawn 39 = .ok (.aload_n 0, 1) := by decide +kernel
theorem dX6_dawn_40 : decode cX6_dawn 40 = .ok (.getfield 33, 3) := by decide +kernel
theorem dX6_dawn_43 : decode cX6_dawn 43 = .ok (.aload_n 0, 1) := by decide +kernel
theorem dX6_dawn_44 : decode cX6_dawn 44 = .ok (.getfield 33, 3) := by decide +kernel
theorem dX6_dawn_47 : decode cX6_dawn 47 = .ok (.getfield 117, 3) := by decide +kernel
theorem dX6_dawn_50 : decode cX6_dawn 50 = .ok (.aload_n 0, 1) := by decide +kernel
theorem dX6_dawn_51 : decode cX6_dawn 51 = .ok (.getfield 33, 3) := by decide +kernel
theorem dX6_dawn_54 : decode cX6_dawn 54 = .ok (.getfield 204, 3) := by decide +kernel
theorem dX6_dawn_57 : decode cX6_dawn 57 = .ok (.aload_n 0, 1) := by decide +kernel
theorem dX6_dawn_58 : decode cX6_dawn 58 = .ok (.getfield 33, 3) := by decide +kernel
theorem dX6_dawn_61 : decode cX6_dawn 61 = .ok (.getfield 197, 3) := by decide +kernel
theorem dX6_dawn_64 : decode cX6_dawn 64 = .ok (.iaload, 1) := by decide +kernel
theorem dX6_dawn_65 : decode cX6_dawn 65 = .ok (.i2l, 1) := by decide +kernel
theorem dX6_dawn_66 : decode cX6_dawn 66 = .ok (.invokevirtual 200, 3) := by decide +kernel
theorem dX6_dawn_69 : decode cX6_dawn 69 = .ok (.putfield 117, 3) := by decide +kernel
theorem dX6_dawn_72 : decode cX6_dawn 72 = .ok (.iconst 1, 1) := by decide +kernel
theorem dX6_dawn_73 : decode cX6_dawn 73 = .ok (.ireturn, 1) := by decide +kernel
def wz_X6_dawn : List Cond := .code yX6_dawn cX6_dawn 1 (some .int) :: ([Cond.fieldLink RX6 33 "HedgeMaze" "garden" "LHedgeMaze$Garden;", Cond.fieldLink RX6 197 "HedgeMaze$Garden" "goneCount" "I", Cond.fieldLink RX6 117 "HedgeMaze$Garden" "hedges" "J", Cond.fieldLink RX6 204 "HedgeMaze$Garden" "goneNights" "[I", Cond.methodLink RX6 86 yX6_hasMaze, Cond.instanceMethod yX6_hasMaze, Cond.selects RX6 yX6_hasMaze yX6_hasMaze, Cond.initialized RX6, Cond.code yX6_hasMaze cX6_hasMaze 1 (some .boolean), Cond.fieldLink RX6 83 "HedgeMaze$Garden" "lines" "I", Cond.methodLink RX6 200 yX0_hedgesAfter, Cond.instanceMethod yX0_hedgesAfter, Cond.selects RX0 yX0_hedgesAfter yX0_hedgesAfter, Cond.initialized RX0, Cond.code yX0_hedgesAfter cX0_hedgesAfter 5 (some .long), Cond.fieldLink RX0 12 "HedgeMaze$Garden" "plan" "LHedgeMaze$Plan;", Cond.constantLong RX0 88 (100), Cond.methodLink RX0 90 yX3_bitOf, Cond.instanceMethod yX3_bitOf, Cond.selects RX3 yX3_bitOf yX3_bitOf, Cond.initialized RX3, Cond.code yX3_bitOf cX3_bitOf 3 (some .long), Cond.fieldLink RX3 21 "HedgeMaze$Plan" "sideCount" "I", Cond.fieldLink RX3 35 "HedgeMaze$Plan" "bits" "[J"] ++ wsX60 ++ wsX00 ++ wsX30)
theorem wd_X6_dawn_0 : Cond.fieldLink RX6 33 "HedgeMaze" "garden" "LHedgeMaze$Garden;" ∈ wz_X6_dawn := List.mem_of_getElem? (i := 1) rfl
theorem wd_X6_dawn_1 : Cond.fieldLink RX6 197 "HedgeMaze$Garden" "goneCount" "I" ∈ wz_X6_dawn := List.mem_of_getElem? (i := 2) rfl
theorem wd_X6_dawn_2 : Cond.fieldLink RX6 117 "HedgeMaze$Garden" "hedges" "J" ∈ wz_X6_dawn := List.mem_of_getElem? (i := 3) rfl
theorem wd_X6_dawn_3 : Cond.fieldLink RX6 204 "HedgeMaze$Garden" "goneNights" "[I" ∈ wz_X6_dawn := List.mem_of_getElem? (i := 4) rfl
theorem in_X6_dawn_X6 : ∀ w ∈ wsX60, w ∈ wz_X6_dawn := fun _ h => List.mem_cons_of_mem _ (List.mem_append_left _ (List.mem_append_left _ (List.mem_append_right _ h)))
theorem in_X6_dawn_X0 : ∀ w ∈ wsX00, w ∈ wz_X6_dawn := fun _ h => List.mem_cons_of_mem _ (List.mem_append_left _ (List.mem_append_right _ h))
set_option maxRecDepth 20000 in
theorem g_X6_dawn_X6_hasMaze : GoodIn wz_X6_dawn (wsV RX6 86 RX6 yX6_hasMaze wz_X6_hasMaze) := goodIn_r _ [5, 6, 7, 8, 9, 1, 10, 25, 26, 27, 28, 29, 30, 31, 32, 33, 34, 35, 36, 37, 38, 39, 40, 41, 42, 43, 44, 45, 46, 47] rfl (by decide +kernel)
set_option maxRecDepth 20000 in
theorem g_X6_dawn_X0_hedgesAfter : GoodIn wz_X6_dawn (wsV RX6 200 RX0 yX0_hedgesAfter wz_X0_hedgesAfter) := goodIn_r _ [11, 12, 13, 14, 15, 16, 17, 18, 19, 20, 21, 22, 23, 24, 36, 37, 38, 39, 40, 41, 42, 43, 44, 45, 46, 47, 48, 49, 50, 51, 52, 53, 54, 55, 56] rfl (by decide +kernel)
set_option maxHeartbeats 4000000 in
set_option maxRecDepth 100000 in
theorem c_X6_dawn (l : Launch) (dC : Nat → ClassId) (dI : Nat → Nat → Nat) (sz : Nat) (h0 : Nat) (tp : Nat) (ts : Int32) (fn : Int32) (fp : Int32) (rd : Nat) (gd : Nat) (im : Nat) (rw : Nat) (gn : Nat) (ho : Nat) (sq : Nat) (gdl : Int32) (gdh : Int64) (gdw : Int64) (gdi : Int32) (gde : Int32) (gdc : Int32) (gdt : Nat) (gdg : Int32) (gdu : Nat) (gdn : Int32) (gdx : Nat) (gdkx : ClassId) (gdX : Nat → Int32) (pl : Nat) (plw : Int32) (pld : Int32) (plc : Int32) (pls : Int32) (plm : Int64) (plf : Nat) (plo : Nat) (plb : Nat) (pla : Nat) (plkb : ClassId) (plB : Nat → Int64) (h_gdn : 0 ≤ gdn.toInt ∧ gdn.toInt ≤ 99) (h_pls : 0 ≤ pls.toInt ∧ pls.toInt ≤ 40) : Met l yX6_dawn wz_X6_dawn ({ frames := 2, cells := 0, slots := 0, locals := 46 }) (va_Pc [.ref h0] (fun U => U.heap.size = sz ∧ va_P (dC, dI) vwCl [(h0, .inr (6, [.ref tp, .int ts, .int fn, .int fp, .ref rd, .ref gd, .ref im, .ref rw, .ref gn, .ref ho, .ref sq])), (gd, .inr (0, [.ref pl, .int gdl, .long gdh, .long gdw, .int gdi, .int gde, .int gdc, .ref gdt, .int gdg, .ref gdu, .int gdn, .ref gdx])), (gdx, .inl (gdkx, 99, .inl gdX)), (pl, .inr (3, [.int plw, .int pld, .int plc, .int pls, .long plm, .ref plf, .ref plo, .ref plb, .ref pla])), (plb, .inl (plkb, 40, .inr (.inl plB)))] U.heap ∧ va_K (dC, dI) vwCl [(gdkx, .int), (plkb, .long)] U ∧ va_D (fun _ => True) [(h0, .inr (6, [.ref tp, .int ts, .int fn, .int fp, .ref rd, .ref gd, .ref im, .ref rw, .ref gn, .ref ho, .ref sq])), (gd, .inr (0, [.ref pl, .int gdl, .long gdh, .long gdw, .int gdi, .int gde, .int gdc, .ref gdt, .int gdg, .ref gdu, .int gdn, .ref gdx])), (gdx, .inl (gdkx, 99, .inl gdX)), (pl, .inr (3, [.int plw, .int pld, .int plc, .int pls, .long plm, .ref plf, .ref plo, .ref plb, .ref pla])), (plb, .inl (plkb, 40, .inr (.inl plB)))])) (va_Qi (fun (r : Int32) (u : Int64 × Int32) => (0 ≤ u.2.toInt ∧ u.2.toInt ≤ 99)) (fun (u : Int64 × Int32) (t : State) => va_P (dC, dI) vwCl [(h0, .inr (6, [.ref tp, .int ts, .int fn, .int fp, .ref rd, .ref gd, .ref im, .ref rw, .ref gn, .ref ho, .ref sq])), (gd, .inr (0, [.ref pl, .int gdl, .long u.1, .long gdw, .int gdi, .int gde, .int gdc, .ref gdt, .int gdg, .ref gdu, .int u.2, .ref gdx])), (gdx, .inl (gdkx, 99, .inl gdX)), (pl, .inr (3, [.int plw, .int pld, .int plc, .int pls, .long plm, .ref plf, .ref plo, .ref plb, .ref pla])), (plb, .inl (plkb, 40, .inr (.inl plB)))] t.heap ∧ va_K (dC, dI) vwCl [] t ∧ va_D (va_A [(h0, .inr (6, [.ref tp, .int ts, .int fn, .int fp, .ref rd, .ref gd, .ref im, .ref rw, .ref gn, .ref ho, .ref sq])), (gd, .inr (0, [.ref pl, .int gdl, .long gdh, .long gdw, .int gdi, .int gde, .int gdc, .ref gdt, .int gdg, .ref gdu, .int gdn, .ref gdx])), (gdx, .inl (gdkx, 99, .inl gdX)), (pl, .inr (3, [.int plw, .int pld, .int plc, .int pls, .long plm, .ref plf, .ref plo, .ref plb, .ref pla])), (plb, .inl (plkb, 40, .inr (.inl plB)))] sz) [(h0, .inr (6, [.ref tp, .int ts, .int fn, .int fp, .ref rd, .ref gd, .ref im, .ref rw, .ref gn, .ref ho, .ref sq])), (gd, .inr (0, [.ref pl, .int gdl, .long u.1, .long gdw, .int gdi, .int gde, .int gdc, .ref gdt, .int gdg, .ref gdu, .int u.2, .ref gdx])), (gdx, .inl (gdkx, 99, .inl gdX)), (pl, .inr (3, [.int plw, .int pld, .int plc, .int pls, .long plm, .ref plf, .ref plo, .ref plb, .ref pla])), (plb, .inl (plkb, 40, .inr (.inl plB)))]) (va_A [(h0, .inr (6, [.ref tp, .int ts, .int fn, .int fp, .ref rd, .ref gd, .ref im, .ref rw, .ref gn, .ref ho, .ref sq])), (gd, .inr (0, [.ref pl, .int gdl, .long gdh, .long gdw, .int gdi, .int gde, .int gdc, .ref gdt, .int gdg, .ref gdu, .int gdn, .ref gdx])), (gdx, .inl (gdkx, 99, .inl gdX)), (pl, .inr (3, [.int plw, .int pld, .int plc, .int pls, .long plm, .ref plf, .ref plo, .ref plb, .ref pla])), (plb, .inl (plkb, 40, .inr (.inl plB)))] sz)) 0 0 (va_A [(h0, .inr (6, [.ref tp, .int ts, .int fn, .int fp, .ref rd, .ref gd, .ref im, .ref rw, .ref gn, .ref ho, .ref sq])), (gd, .inr (0, [.ref pl, .int gdl, .long gdh, .long gdw, .int gdi, .int gde, .int gdc, .ref gdt, .int gdg, .ref gdu, .int gdn, .ref gdx])), (gdx, .inl (gdkx, 99, .inl gdX)), (pl, .inr (3, [.int plw, .int pld, .int plc, .int pls, .long plm, .ref plf, .ref plo, .ref plb, .ref pla])), (plb, .inl (plkb, 40, .inr (.inl plB)))] sz) := by
  refine Met.ofW (cc := cX6_dawn) (maxL := 1) (ret := (some .int)) (by decide) rfl ?_
  intro p e s m args below meth c s₁ B hml hv
  obtain ⟨rfl, hsz, hP, hK, hD0⟩ := hv
  have hx := B.exec
  have hb := B.bytes
  have hr := B.returns
  have hts := atoms_spec (ws := wz_X6_dawn) B.pre
  have hown : s.vm.findClass RX6 = some m.cls := findClass_of_methodNamed B.named
  have hlocks := B.notSynchronized
  subst hsz
  have hD := hD0.self (sz := s.heap.size)
  generalize hAe : va_A [(h0, .inr (6, [.ref tp, .int ts, .int fn, .int fp, .ref rd, .ref gd, .ref im, .ref rw, .ref gn, .ref ho, .ref sq])), (gd, .inr (0, [.ref pl, .int gdl, .long gdh, .long gdw, .int gdi, .int gde, .int gdc, .ref gdt, .int gdg, .ref gdu, .int gdn, .ref gdx])), (gdx, .inl (gdkx, 99, .inl gdX)), (pl, .inr (3, [.int plw, .int pld, .int plc, .int pls, .long plm, .ref plf, .ref plo, .ref plb, .ref pla])), (plb, .inl (plkb, 40, .inr (.inl plB)))] s.heap.size = A at hD ⊢
  have hA : ∀ q : Nat, s.heap.size ≤ q → A q := fun q h => by rw [← hAe]; exact Or.inr h
  have hS : va_S A s.heap s.heap [] := va_S.rf
  have hP : va_P (dC, dI) vwCl [(h0, .inr (6, [.ref tp, .int ts, .int fn, .int fp, .ref rd, .ref gd, .ref im, .ref rw, .ref gn, .ref ho, .ref sq])), (gd, .inr (0, [.ref pl, .int gdl, .long gdh, .long gdw, .int gdi, .int gde, .int gdc, .ref gdt, .int gdg, .ref gdu, .int gdn, .ref gdx])), (gdx, .inl (gdkx, 99, .inl gdX)), (pl, .inr (3, [.int plw, .int pld, .int plc, .int pls, .long plm, .ref plf, .ref plo, .ref plb, .ref pla])), (plb, .inl (plkb, 40, .inr (.inl plB)))] s.heap := hP
  have hl := lv_entry ([.ref h0]) (n := 1) (Nat.le_of_ble_eq_true rfl)
  rw [lg_entry_eq]
  generalize (lg_sl ([.ref h0]) ++ List.replicate (1 - (lg_sl ([.ref h0])).length) Slot.unset).toArray = ls at hl ⊢
  have hl : lv_has ls 1 [(0, .ref h0)] := hl
  refine lv_aload_n hx hb dX6_dawn_0 rfl (lv_at hl 0 rfl) ?_
  have hPc := hP.sub (ws' := [(h0, .inr (6, [.ref tp, .int ts, .int fn, .int fp, .ref rd, .ref gd, .ref im, .ref rw, .ref gn, .ref ho, .ref sq])), (gd, .inr (0, [.ref pl, .int gdl, .long gdh, .long gdw, .int gdi, .int gde, .int gdc, .ref gdt, .int gdg, .ref gdu, .int gdn, .ref gdx]))]) [0, 1] rfl
  have hDc := hD.sub (ws' := [(h0, .inr (6, [.ref tp, .int ts, .int fn, .int fp, .ref rd, .ref gd, .ref im, .ref rw, .ref gn, .ref ho, .ref sq])), (gd, .inr (0, [.ref pl, .int gdl, .long gdh, .long gdw, .int gdi, .int gde, .int gdc, .ref gdt, .int gdg, .ref gdu, .int gdn, .ref gdx]))]) [0, 1] (by decide) rfl
  have hKc := hK.sub (tys' := []) [] rfl
  have hFc := va_free (wc := [(h0, .inr (6, [.ref tp, .int ts, .int fn, .int fp, .ref rd, .ref gd, .ref im, .ref rw, .ref gn, .ref ho, .ref sq])), (gd, .inr (0, [.ref pl, .int gdl, .long gdh, .long gdw, .int gdi, .int gde, .int gdc, .ref gdt, .int gdg, .ref gdu, .int gdn, .ref gdx]))]) hD hS hA [0, 1] rfl
  refine va_calli (va_runV (As := []) (rest := []) ⟨hx, hb, hml, hown, hts⟩ (c_X6_hasMaze l dC dI s.heap.size h0 tp ts fn fp rd gd im rw gn ho sq gdl gdh gdw gdi gde gdc gdt gdg gdu gdn gdx pl ) (cwV 0 hts g_X6_dawn_X6_hasMaze rfl rfl rfl (by decide +kernel) ⟨Nat.le_of_ble_eq_true rfl, Nat.le_of_ble_eq_true rfl⟩) ⟨fun a U g mk q => by obtain ⟨q0, q1, qP, qK, qD⟩ := q; exact ⟨q0, q1, qP, va_K.moved (u := U) (U := U.calling g mk a) (Vm.Alike.refl U.vm) qK, qD⟩, va_recv hKc hPc (ci := 6) (q0 := 0) rfl rfl, fun U hU hW => ⟨rfl, by rw [hU], by rw [hU]; exact hPc, va_K.moved hW.alike hKc, hDc.weaken (fun _ _ _ _ => trivial)⟩⟩ rfl rfl hl.1 rfl (lv_room (Nat.le_of_ble_eq_true rfl)) dX6_dawn_1 ⟨Nat.le_of_ble_eq_true rfl, Nat.le_of_ble_eq_true rfl⟩) hS (fun q _ h => hFc q h) hFc (fun r_1 u t H1 locs ht hvm hw_2 hB hz1 hk1 hS => ?_)
  obtain ⟨hP1, hK1, hD1⟩ := hB
  have hP1 : va_P (dC, dI) vwCl [(h0, .inr (6, [.ref tp, .int ts, .int fn, .int fp, .ref rd, .ref gd, .ref im, .ref rw, .ref gn, .ref ho, .ref sq])), (gd, .inr (0, [.ref pl, .int gdl, .long gdh, .long gdw, .int gdi, .int gde, .int gdc, .ref gdt, .int gdg, .ref gdu, .int gdn, .ref gdx]))] t.heap := hP1
  rw [ht] at hP1
  try dsimp only at hw_2
  obtain ⟨hP, hD⟩ := va_join (wr := [(gdx, .inl (gdkx, 99, .inl gdX)), (pl, .inr (3, [.int plw, .int pld, .int plc, .int pls, .long plm, .ref plf, .ref plo, .ref plb, .ref pla])), (plb, .inl (plkb, 40, .inr (.inl plB)))]) (w1 := [(h0, .inr (6, [.ref tp, .int ts, .int fn, .int fp, .ref rd, .ref gd, .ref im, .ref rw, .ref gn, .ref ho, .ref sq])), (gd, .inr (0, [.ref pl, .int gdl, .long gdh, .long gdw, .int gdi, .int gde, .int gdc, .ref gdt, .int gdg, .ref gdu, .int gdn, .ref gdx]))]) hP hD [0, 1] [2, 3, 4] rfl rfl (by decide) (by decide) hk1 hFc hP1 hD1
  generalize H1 = H at hP hS ⊢
  have hP : va_P (dC, dI) vwCl [(gdx, .inl (gdkx, 99, .inl gdX)), (pl, .inr (3, [.int plw, .int pld, .int plc, .int pls, .long plm, .ref plf, .ref plo, .ref plb, .ref pla])), (plb, .inl (plkb, 40, .inr (.inl plB))), (h0, .inr (6, [.ref tp, .int ts, .int fn, .int fp, .ref rd, .ref gd, .ref im, .ref rw, .ref gn, .ref ho, .ref sq])), (gd, .inr (0, [.ref pl, .int gdl, .long gdh, .long gdw, .int gdi, .int gde, .int gdc, .ref gdt, .int gdg, .ref gdu, .int gdn, .ref gdx]))] H := hP
  have hD : va_D A [(gdx, .inl (gdkx, 99, .inl gdX)), (pl, .inr (3, [.int plw, .int pld, .int plc, .int pls, .long plm, .ref plf, .ref plo, .ref plb, .ref pla])), (plb, .inl (plkb, 40, .inr (.inl plB))), (h0, .inr (6, [.ref tp, .int ts, .int fn, .int fp, .ref rd, .ref gd, .ref im, .ref rw, .ref gn, .ref ho, .ref sq])), (gd, .inr (0, [.ref pl, .int gdl, .long gdh, .long gdw, .int gdi, .int gde, .int gdc, .ref gdt, .int gdg, .ref gdu, .int gdn, .ref gdx]))] := hD
  rcases i_bool hw_2 with ⟨r_19, hC⟩ | ⟨r_19, hC⟩
  · obtain rfl : r_1 = 1 := r_19
    have hC_3 := hC
    refine lv_if_ne (tgt := 10) hx hb dX6_dawn_4 (by decide) (fun _ => ?_) (fun h => absurd h (by decide))
    refine lv_aload_n hx hb dX6_dawn_10 rfl (lv_at hl 0 rfl) ?_
    refine va_get (D := (dC, dI)) (ci := 6) (v := .ref gd) (C := RX6) (T := TX6) (N := 11) hx hb hts in_X6_dawn_X6 hown hK hP 3 rfl rfl 5 (by decide) (hts _ wd_X6_dawn_0) (fun _ h9 => h9) rfl dX6_dawn_11 ?_
    refine va_get (D := (dC, dI)) (ci := 0) (v := .int gdn) (C := RX0) (T := TX0) (N := 12) hx hb hts in_X6_dawn_X0 hown hK hP 4 rfl rfl 10 (by decide) (hts _ wd_X6_dawn_1) (fun _ h9 => h9) rfl dX6_dawn_14 ?_
    refine lv_if_gt (tgt := 22) hx hb dX6_dawn_17 (by decide) (fun c_5 => ?_) (fun c_5 => ?_)
    · have c_5 : 0 < gdn.toInt := i_lt (a := 0) (b := gdn) (by decide) rfl c_5
      refine lv_aload_n hx hb dX6_dawn_22 rfl (lv_at hl 0 rfl) ?_
      refine va_get (D := (dC, dI)) (ci := 6) (v := .ref gd) (C := RX6) (T := TX6) (N := 11) hx hb hts in_X6_dawn_X6 hown hK hP 3 rfl rfl 5 (by decide) (hts _ wd_X6_dawn_0) (fun _ h9 => h9) rfl dX6_dawn_23 ?_
      refine lv_dup hx hb dX6_dawn_26 rfl ?_
      refine va_get (D := (dC, dI)) (ci := 0) (v := .int gdn) (C := RX0) (T := TX0) (N := 12) hx hb hts in_X6_dawn_X0 hown hK hP 4 rfl rfl 10 (by decide) (hts _ wd_X6_dawn_1) (fun _ h9 => h9) rfl dX6_dawn_27 ?_
      refine lv_iconst (v := 1) hx hb dX6_dawn_30 (by decide) ?_
      refine lv_isub hx hb dX6_dawn_31 ?_
      refine lv_topi (fun x_6 ex_6 => ?_)
      have zx_6 : x_6.toInt = gdn.toInt - 1 := by rw [ex_6]; exact i_sub rfl (by decide) (by omega) (by omega)
      refine va_put (D := (dC, dI)) (ci := 0) (v := .int x_6) (ty := .int) (C := RX0) (T := TX0) (N := 12) hx hb hts in_X6_dawn_X0 tyX0 tyX0_ok nmX0 hown hK hP hD hS 4 rfl rfl 10 (by decide) (hts _ wd_X6_dawn_1) (fun _ h9 => h9) rfl (by decide +kernel) rfl rfl (Nat.le_of_ble_eq_true rfl) dX6_dawn_32 (fun H locs hP hD hS => ?_)
      have hP : va_P (dC, dI) vwCl [(gdx, .inl (gdkx, 99, .inl gdX)), (pl, .inr (3, [.int plw, .int pld, .int plc, .int pls, .long plm, .ref plf, .ref plo, .ref plb, .ref pla])), (plb, .inl (plkb, 40, .inr (.inl plB))), (h0, .inr (6, [.ref tp, .int ts, .int fn, .int fp, .ref rd, .ref gd, .ref im, .ref rw, .ref gn, .ref ho, .ref sq])), (gd, .inr (0, [.ref pl, .int gdl, .long gdh, .long gdw, .int gdi, .int gde, .int gdc, .ref gdt, .int gdg, .ref gdu, .int x_6, .ref gdx]))] H := hP
      have hD : va_D A [(gdx, .inl (gdkx, 99, .inl gdX)), (pl, .inr (3, [.int plw, .int pld, .int plc, .int pls, .long plm, .ref plf, .ref plo, .ref plb, .ref pla])), (plb, .inl (plkb, 40, .inr (.inl plB))), (h0, .inr (6, [.ref tp, .int ts, .int fn, .int fp, .ref rd, .ref gd, .ref im, .ref rw, .ref gn, .ref ho, .ref sq])), (gd, .inr (0, [.ref pl, .int gdl, .long gdh, .long gdw, .int gdi, .int gde, .int gdc, .ref gdt, .int gdg, .ref gdu, .int x_6, .ref gdx]))] := hD
      refine lv_aload_n hx hb dX6_dawn_35 rfl (lv_at hl 0 rfl) ?_
      refine va_get (D := (dC, dI)) (ci := 6) (v := .ref gd) (C := RX6) (T := TX6) (N := 11) hx hb hts in_X6_dawn_X6 hown hK hP 3 rfl rfl 5 (by decide) (hts _ wd_X6_dawn_0) (fun _ h9 => h9) rfl dX6_dawn_36 ?_
      refine lv_aload_n hx hb dX6_dawn_39 rfl (lv_at hl 0 rfl) ?_
      refine va_get (D := (dC, dI)) (ci := 6) (v := .ref gd) (C := RX6) (T := TX6) (N := 11) hx hb hts in_X6_dawn_X6 hown hK hP 3 rfl rfl 5 (by decide) (hts _ wd_X6_dawn_0) (fun _ h9 => h9) rfl dX6_dawn_40 ?_
      refine lv_aload_n hx hb dX6_dawn_43 rfl (lv_at hl 0 rfl) ?_
      refine va_get (D := (dC, dI)) (ci := 6) (v := .ref gd) (C := RX6) (T := TX6) (N := 11) hx hb hts in_X6_dawn_X6 hown hK hP 3 rfl rfl 5 (by decide) (hts _ wd_X6_dawn_0) (fun _ h9 => h9) rfl dX6_dawn_44 ?_
      refine va_get (D := (dC, dI)) (ci := 0) (v := .long gdh) (C := RX0) (T := TX0) (N := 12) hx hb hts in_X6_dawn_X0 hown hK hP 4 rfl rfl 2 (by decide) (hts _ wd_X6_dawn_2) (fun _ h9 => h9) rfl dX6_dawn_47 ?_
      refine lv_aload_n hx hb dX6_dawn_50 rfl (lv_at hl 0 rfl) ?_
      refine va_get (D := (dC, dI)) (ci := 6) (v := .ref gd) (C := RX6) (T := TX6) (N := 11) hx hb hts in_X6_dawn_X6 hown hK hP 3 rfl rfl 5 (by decide) (hts _ wd_X6_dawn_0) (fun _ h9 => h9) rfl dX6_dawn_51 ?_
      refine va_get (D := (dC, dI)) (ci := 0) (v := .ref gdx) (C := RX0) (T := TX0) (N := 12) hx hb hts in_X6_dawn_X0 hown hK hP 4 rfl rfl 11 (by decide) (hts _ wd_X6_dawn_3) (fun _ h9 => h9) rfl dX6_dawn_54 ?_
      refine lv_aload_n hx hb dX6_dawn_57 rfl (lv_at hl 0 rfl) ?_
      refine va_get (D := (dC, dI)) (ci := 6) (v := .ref gd) (C := RX6) (T := TX6) (N := 11) hx hb hts in_X6_dawn_X6 hown hK hP 3 rfl rfl 5 (by decide) (hts _ wd_X6_dawn_0) (fun _ h9 => h9) rfl dX6_dawn_58 ?_
      refine va_get (D := (dC, dI)) (ci := 0) (v := .int x_6) (C := RX0) (T := TX0) (N := 12) hx hb hts in_X6_dawn_X0 hown hK hP 4 rfl rfl 10 (by decide) (hts _ wd_X6_dawn_1) (fun _ h9 => h9) rfl dX6_dawn_61 ?_
      refine va_iald hx hb hK hP 0 0 rfl rfl (i_in rfl (by omega) (by omega)) dX6_dawn_64 ?_
      refine lv_topi (fun v_7 ev_7 => ?_)
      refine lv_i2l (v := v_7.toInt64) hx hb dX6_dawn_65 rfl ?_
      have hPc := hP.sub (ws' := [(gd, .inr (0, [.ref pl, .int gdl, .long gdh, .long gdw, .int gdi, .int gde, .int gdc, .ref gdt, .int gdg, .ref gdu, .int x_6, .ref gdx])), (pl, .inr (3, [.int plw, .int pld, .int plc, .int pls, .long plm, .ref plf, .ref plo, .ref plb, .ref pla])), (plb, .inl (plkb, 40, .inr (.inl plB)))]) [4, 1, 2] rfl
      have hDc := hD.sub (ws' := [(gd, .inr (0, [.ref pl, .int gdl, .long gdh, .long gdw, .int gdi, .int gde, .int gdc, .ref gdt, .int gdg, .ref gdu, .int x_6, .ref gdx])), (pl, .inr (3, [.int plw, .int pld, .int plc, .int pls, .long plm, .ref plf, .ref plo, .ref plb, .ref pla])), (plb, .inl (plkb, 40, .inr (.inl plB)))]) [4, 1, 2] (by decide) rfl
      have hKc := hK.sub (tys' := [(plkb, .long)]) [1] rfl
      have hFc := va_free (wc := [(gd, .inr (0, [.ref pl, .int gdl, .long gdh, .long gdw, .int gdi, .int gde, .int gdc, .ref gdt, .int gdg, .ref gdu, .int x_6, .ref gdx])), (pl, .inr (3, [.int plw, .int pld, .int plc, .int pls, .long plm, .ref plf, .ref plo, .ref plb, .ref pla])), (plb, .inl (plkb, 40, .inr (.inl plB)))]) hD hS hA [4, 1, 2] rfl
      refine va_calll (va_runV (As := [.long gdh, .long v_7.toInt64]) (rest := [.ref gd]) ⟨hx, hb, hml, hown, hts⟩ (c_X0_hedgesAfter l dC dI H.size gd gdl gdh gdw gdi gde gdc gdt gdg gdu x_6 gdx pl plw pld plc pls plm plf plo plb pla plkb plB gdh v_7.toInt64 (by omega)) (cwV 2 hts g_X6_dawn_X0_hedgesAfter rfl rfl rfl (by decide +kernel) ⟨Nat.le_of_ble_eq_true rfl, Nat.le_of_ble_eq_true rfl⟩) ⟨fun a U g mk q => by obtain ⟨q0, q1, qP, qK, qD⟩ := q; exact ⟨q0, q1, qP, va_K.moved (u := U) (U := U.calling g mk a) (Vm.Alike.refl U.vm) qK, qD⟩, va_recv hKc hPc (ci := 0) (q0 := 0) rfl rfl, fun U hU hW => ⟨rfl, by rw [hU], by rw [hU]; exact hPc, va_K.moved hW.alike hKc, hDc.weaken (fun _ _ _ _ => trivial)⟩⟩ rfl rfl hl.1 rfl (lv_room (Nat.le_of_ble_eq_true rfl)) dX6_dawn_66 ⟨Nat.le_of_ble_eq_true rfl, Nat.le_of_ble_eq_true rfl⟩) hS (fun q _ h => hFc q h) hFc (fun r_8 u t H1 locs ht hvm hw_9 hB hz1 hk1 hS => ?_)
      obtain ⟨hP1, hK1, hD1⟩ := hB
      have hP1 : va_P (dC, dI) vwCl [(gd, .inr (0, [.ref pl, .int gdl, .long gdh, .long gdw, .int gdi, .int gde, .int gdc, .ref gdt, .int gdg, .ref gdu, .int x_6, .ref gdx])), (pl, .inr (3, [.int plw, .int pld, .int plc, .int pls, .long plm, .ref plf, .ref plo, .ref plb, .ref pla])), (plb, .inl (plkb, 40, .inr (.inl plB)))] t.heap := hP1
      rw [ht] at hP1
      try dsimp only at hw_9
      obtain ⟨hP, hD⟩ := va_join (wr := [(gdx, .inl (gdkx, 99, .inl gdX)), (h0, .inr (6, [.ref tp, .int ts, .int fn, .int fp, .ref rd, .ref gd, .ref im, .ref rw, .ref gn, .ref ho, .ref sq]))]) (w1 := [(gd, .inr (0, [.ref pl, .int gdl, .long gdh, .long gdw, .int gdi, .int gde, .int gdc, .ref gdt, .int gdg, .ref gdu, .int x_6, .ref gdx])), (pl, .inr (3, [.int plw, .int pld, .int plc, .int pls, .long plm, .ref plf, .ref plo, .ref plb, .ref pla])), (plb, .inl (plkb, 40, .inr (.inl plB)))]) hP hD [4, 1, 2] [0, 3] rfl rfl (by decide) (by decide) hk1 hFc hP1 hD1
      generalize H1 = H at hP hS ⊢
      have hP : va_P (dC, dI) vwCl [(gdx, .inl (gdkx, 99, .inl gdX)), (h0, .inr (6, [.ref tp, .int ts, .int fn, .int fp, .ref rd, .ref gd, .ref im, .ref rw, .ref gn, .ref ho, .ref sq])), (gd, .inr (0, [.ref pl, .int gdl, .long gdh, .long gdw, .int gdi, .int gde, .int gdc, .ref gdt, .int gdg, .ref gdu, .int x_6, .ref gdx])), (pl, .inr (3, [.int plw, .int pld, .int plc, .int pls, .long plm, .ref plf, .ref plo, .ref plb, .ref pla])), (plb, .inl (plkb, 40, .inr (.inl plB)))] H := hP
      have hD : va_D A [(gdx, .inl (gdkx, 99, .inl gdX)), (h0, .inr (6, [.ref tp, .int ts, .int fn, .int fp, .ref rd, .ref gd, .ref im, .ref rw, .ref gn, .ref ho, .ref sq])), (gd, .inr (0, [.ref pl, .int gdl, .long gdh, .long gdw, .int gdi, .int gde, .int gdc, .ref gdt, .int gdg, .ref gdu, .int x_6, .ref gdx])), (pl, .inr (3, [.int plw, .int pld, .int plc, .int pls, .long plm, .ref plf, .ref plo, .ref plb, .ref pla])), (plb, .inl (plkb, 40, .inr (.inl plB)))] := hD
      refine va_put (D := (dC, dI)) (ci := 0) (v := .long r_8) (ty := .long) (C := RX0) (T := TX0) (N := 12) hx hb hts in_X6_dawn_X0 tyX0 tyX0_ok nmX0 hown hK hP hD hS 2 rfl rfl 2 (by decide) (hts _ wd_X6_dawn_2) (fun _ h9 => h9) rfl (by decide +kernel) rfl rfl (Nat.le_of_ble_eq_true rfl) dX6_dawn_69 (fun H locs hP hD hS => ?_)
      have hP : va_P (dC, dI) vwCl [(gdx, .inl (gdkx, 99, .inl gdX)), (h0, .inr (6, [.ref tp, .int ts, .int fn, .int fp, .ref rd, .ref gd, .ref im, .ref rw, .ref gn, .ref ho, .ref sq])), (gd, .inr (0, [.ref pl, .int gdl, .long r_8, .long gdw, .int gdi, .int gde, .int gdc, .ref gdt, .int gdg, .ref gdu, .int x_6, .ref gdx])), (pl, .inr (3, [.int plw, .int pld, .int plc, .int pls, .long plm, .ref plf, .ref plo, .ref plb, .ref pla])), (plb, .inl (plkb, 40, .inr (.inl plB)))] H := hP
      have hD : va_D A [(gdx, .inl (gdkx, 99, .inl gdX)), (h0, .inr (6, [.ref tp, .int ts, .int fn, .int fp, .ref rd, .ref gd, .ref im, .ref rw, .ref gn, .ref ho, .ref sq])), (gd, .inr (0, [.ref pl, .int gdl, .long r_8, .long gdw, .int gdi, .int gde, .int gdc, .ref gdt, .int gdg, .ref gdu, .int x_6, .ref gdx])), (pl, .inr (3, [.int plw, .int pld, .int plc, .int pls, .long plm, .ref plf, .ref plo, .ref plb, .ref pla])), (plb, .inl (plkb, 40, .inr (.inl plB)))] := hD
      refine lv_iconst (v := 1) hx hb dX6_dawn_72 (by decide) ?_
      have hP9 := hP.sub (ws' := [(h0, .inr (6, [.ref tp, .int ts, .int fn, .int fp, .ref rd, .ref gd, .ref im, .ref rw, .ref gn, .ref ho, .ref sq])), (gd, .inr (0, [.ref pl, .int gdl, .long r_8, .long gdw, .int gdi, .int gde, .int gdc, .ref gdt, .int gdg, .ref gdu, .int x_6, .ref gdx])), (gdx, .inl (gdkx, 99, .inl gdX)), (pl, .inr (3, [.int plw, .int pld, .int plc, .int pls, .long plm, .ref plf, .ref plo, .ref plb, .ref pla])), (plb, .inl (plkb, 40, .inr (.inl plB)))]) [1, 2, 0, 3, 4] rfl
      have hD9 := hD.sub (ws' := [(h0, .inr (6, [.ref tp, .int ts, .int fn, .int fp, .ref rd, .ref gd, .ref im, .ref rw, .ref gn, .ref ho, .ref sq])), (gd, .inr (0, [.ref pl, .int gdl, .long r_8, .long gdw, .int gdi, .int gde, .int gdc, .ref gdt, .int gdg, .ref gdu, .int x_6, .ref gdx])), (gdx, .inl (gdkx, 99, .inl gdX)), (pl, .inr (3, [.int plw, .int pld, .int plc, .int pls, .long plm, .ref plf, .ref plo, .ref plb, .ref pla])), (plb, .inl (plkb, 40, .inr (.inl plB)))]) [1, 2, 0, 3, 4] (by decide) rfl
      have hK9 := hK.sub (tys' := []) [] rfl
      refine W.widen (k := 0) (n := 0) (by omega) (by omega) ?_
      exact W.iret (v := 1) hx hb hr (fun t ht hW => ⟨⟨1, (r_8, x_6), rfl, (by have k0 : (1 : Int32).toInt = 1 := (by decide); first | rfl | trivial | (dsimp only; omega) | omega | (left; rfl) | (right; rfl) | (dsimp only; first | (left; rfl) | (right; rfl))), by rw [ht]; exact hP9, va_K.moved hW.alike hK9, hD9⟩, hS.F ht⟩) hS.2.2 dX6_dawn_73
    · have c_5 : gdn.toInt ≤ 0 := i_nlt (a := 0) (b := gdn) (by decide) rfl c_5
      refine lv_iconst (v := 0) hx hb dX6_dawn_20 (by decide) ?_
      have hP9 := hP.sub (ws' := [(h0, .inr (6, [.ref tp, .int ts, .int fn, .int fp, .ref rd, .ref gd, .ref im, .ref rw, .ref gn, .ref ho, .ref sq])), (gd, .inr (0, [.ref pl, .int gdl, .long gdh, .long gdw, .int gdi, .int gde, .int gdc, .ref gdt, .int gdg, .ref gdu, .int gdn, .ref gdx])), (gdx, .inl (gdkx, 99, .inl gdX)), (pl, .inr (3, [.int plw, .int pld, .int plc, .int pls, .long plm, .ref plf, .ref plo, .ref plb, .ref pla])), (plb, .inl (plkb, 40, .inr (.inl plB)))]) [3, 4, 0, 1, 2] rfl
      have hD9 := hD.sub (ws' := [(h0, .inr (6, [.ref tp, .int ts, .int fn, .int fp, .ref rd, .ref gd, .ref im, .ref rw, .ref gn, .ref ho, .ref sq])), (gd, .inr (0, [.ref pl, .int gdl, .long gdh, .long gdw, .int gdi, .int gde, .int gdc, .ref gdt, .int gdg, .ref gdu, .int gdn, .ref gdx])), (gdx, .inl (gdkx, 99, .inl gdX)), (pl, .inr (3, [.int plw, .int pld, .int plc, .int pls, .long plm, .ref plf, .ref plo, .ref plb, .ref pla])), (plb, .inl (plkb, 40, .inr (.inl plB)))]) [3, 4, 0, 1, 2] (by decide) rfl
      have hK9 := hK.sub (tys' := []) [] rfl
      refine W.widen (k := 0) (n := 0) (by omega) (by omega) ?_
      exact W.iret (v := 0) hx hb hr (fun t ht hW => ⟨⟨0, (gdh, gdn), rfl, (by have k0 : (0 : Int32).toInt = 0 := (by decide); first | rfl | trivial | (dsimp only; omega) | omega | (left; rfl) | (right; rfl) | (dsimp only; first | (left; rfl) | (right; rfl))), by rw [ht]; exact hP9, va_K.moved hW.alike hK9, hD9⟩, hS.F ht⟩) hS.2.2 dX6_dawn_21
  · obtain rfl : r_1 = 0 := r_19
    have hC_10 := hC
    refine lv_if_ne (tgt := 10) hx hb dX6_dawn_4 (by decide) (fun h => absurd (by decide) h) (fun _ => ?_)
    refine lv_bipush (v := -2) hx hb dX6_dawn_7 (by decide) ?_
    have hP9 := hP.sub (ws' := [(h0, .inr (6, [.ref tp, .int ts, .int fn, .int fp, .ref rd, .ref gd, .ref im, .ref rw, .ref gn, .ref ho, .ref sq])), (gd, .inr (0, [.ref pl, .int gdl, .long gdh, .long gdw, .int gdi, .int gde, .int gdc, .ref gdt, .int gdg, .ref gdu, .int gdn, .ref gdx])), (gdx, .inl (gdkx, 99, .inl gdX)), (pl, .inr (3, [.int plw, .int pld, .int plc, .int pls, .long plm, .ref plf, .ref plo, .ref plb, .ref pla])), (plb, .inl (plkb, 40, .inr (.inl plB)))]) [3, 4, 0, 1, 2] rfl
    have hD9 := hD.sub (ws' := [(h0, .inr (6, [.ref tp, .int ts, .int fn, .int fp, .ref rd, .ref gd, .ref im, .ref rw, .ref gn, .ref ho, .ref sq])), (gd, .inr (0, [.ref pl, .int gdl, .long gdh, .long gdw, .int gdi, .int gde, .int gdc, .ref gdt, .int gdg, .ref gdu, .int gdn, .ref gdx])), (gdx, .inl (gdkx, 99, .inl gdX)), (pl, .inr (3, [.int plw, .int pld, .int plc, .int pls, .long plm, .ref plf, .ref plo, .ref plb, .ref pla])), (plb, .inl (plkb, 40, .inr (.inl plB)))]) [3, 4, 0, 1, 2] (by decide) rfl
    have hK9 := hK.sub (tys' := []) [] rfl
    refine W.widen (k := 0) (n := 0) (by omega) (by omega) ?_
    exact W.iret (v := -2) hx hb hr (fun t ht hW => ⟨⟨(-2), (gdh, gdn), rfl, (by have k0 : (-2 : Int32).toInt = -2 := (by decide); first | rfl | trivial | (dsimp only; omega) | omega | (left; rfl) | (right; rfl) | (dsimp only; first | (left; rfl) | (right; rfl))), by rw [ht]; exact hP9, va_K.moved hW.alike hK9, hD9⟩, hS.F ht⟩) hS.2.2 dX6_dawn_9

