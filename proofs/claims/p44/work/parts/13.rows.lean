theorem dX6_putBytes_0 : decode cX6_putBytes 0 = .ok (.bipush 24, 2) := by decide +kernel
theorem dX6_putBytes_2 : decode cX6_putBytes 2 = .ok (.istore_n 2, 1) := by decide +kernel
theorem dX6_putBytes_3 : decode cX6_putBytes 3 = .ok (.iload_n 2, 1) := by decide +kernel
theorem dX6_putBytes_4 : decode cX6_putBytes 4 = .ok (.ifCond .lt 42, 3) := by decide +kernel
theorem dX6_putBytes_7 : decode cX6_putBytes 7 = .ok (.aload_n 0, 1) := by decide +kernel
theorem dX6_putBytes_8 : decode cX6_putBytes 8 = .ok (.getfield 13, 3) := by decide +kernel
theorem dX6_putBytes_11 : decode cX6_putBytes 11 = .ok (.sipush 1600, 3) := by decide +kernel
theorem dX6_putBytes_14 : decode cX6_putBytes 14 = .ok (.if_icmp .ge 26, 3) := by decide +kernel
theorem dX6_putBytes_17 : decode cX6_putBytes 17 = .ok (.aload_n 0, 1) := by decide +kernel
theorem dX6_putBytes_18 : decode cX6_putBytes 18 = .ok (.getfield 9, 3) := by decide +kernel
theorem dX6_putBytes_21 : decode cX6_putBytes 21 = .ok (.aload_n 0, 1) := by decide +kernel
theorem dX6_putBytes_22 : decode cX6_putBytes 22 = .ok (.getfield 13, 3) := by decide +kernel
theorem dX6_putBytes_25 : decode cX6_putBytes 25 = .ok (.iload_n 1, 1) := by decide +kernel
theorem dX6_putBytes_26 : decode cX6_putBytes 26 = .ok (.iload_n 2, 1) := by decide +kernel
theorem dX6_putBytes_27 : decode cX6_putBytes 27 = .ok (.ishr, 1) := by decide +kernel
theorem dX6_putBytes_28 : decode cX6_putBytes 28 = .ok (.i2b, 1) := by decide +kernel
theorem dX6_putBytes_29 : decode cX6_putBytes 29 = .ok (.bastore, 1) := by decide +kernel
theorem dX6_putBytes_30 : decode cX6_putBytes 30 = .ok (.aload_n 0, 1) := by decide +kernel
theorem dX6_putBytes_31 : decode cX6_putBytes 31 = .ok (.dup, 1) := by decide +kernel
theorem dX6_putBytes_32 : decode cX6_putBytes 32 = .ok (.getfield 13, 3) := by decide +kernel
theorem dX6_putBytes_35 : decode cX6_putBytes 35 = .ok (.iconst 1, 1) := by decide +kernel
theorem dX6_putBytes_36 : decode cX6_putBytes 36 = .ok (.iadd, 1) := by decide +kernel
theorem dX6_putBytes_37 : decode cX6_putBytes 37 = .ok (.putfield 13, 3) := by decide +kernel
theorem dX6_putBytes_40 : decode cX6_putBytes 40 = .ok (.iinc 2 (-8), 3) := by decide +kernel
theorem dX6_putBytes_43 : decode cX6_putBytes 43 = .ok (.goto (-40), 3) := by decide +kernel
theorem dX6_putBytes_46 : decode cX6_putBytes 46 = .ok (.return_, 1) := by decide +kernel
def wz_X6_putBytes : List Cond := .code yX6_putBytes cX6_putBytes 3 none :: ([Cond.fieldLink RX6 13 "HedgeMaze" "tapeSize" "I", Cond.fieldLink RX6 9 "HedgeMaze" "tape" "[B"] ++ wsX60)
theorem wd_X6_putBytes_0 : Cond.fieldLink RX6 13 "HedgeMaze" "tapeSize" "I" ∈ wz_X6_putBytes := List.mem_of_getElem? (i := 1) rfl
theorem wd_X6_putBytes_1 : Cond.fieldLink RX6 9 "HedgeMaze" "tape" "[B" ∈ wz_X6_putBytes := List.mem_of_getElem? (i := 2) rfl
theorem in_X6_putBytes_X6 : ∀ w ∈ wsX60, w ∈ wz_X6_putBytes := fun _ h => List.mem_cons_of_mem _ (List.mem_append_right _ h)
set_option maxHeartbeats 4000000 in
set_option maxRecDepth 100000 in
theorem c_X6_putBytes (l : Launch) (dC : Nat → ClassId) (dI : Nat → Nat → Nat) (sz : Nat) (h0 : Nat) (tp : Nat) (ts : Int32) (fn : Int32) (fp : Int32) (rd : Nat) (gd : Nat) (im : Nat) (rw : Nat) (gn : Nat) (ho : Nat) (sq : Nat) (ktp : ClassId) (tF : Nat → Int32) (p0 : Int32) (h_ts : 0 ≤ ts.toInt ∧ ts.toInt ≤ 1600) : Met l yX6_putBytes wz_X6_putBytes ({ frames := 0, cells := 0, slots := 0, locals := 0 }) (va_Pc [.ref h0, .int p0] (fun U => U.heap.size = sz ∧ va_P (dC, dI) vwCl [(h0, .inr (6, [.ref tp, .int ts, .int fn, .int fp, .ref rd, .ref gd, .ref im, .ref rw, .ref gn, .ref ho, .ref sq])), (tp, .inl (ktp, 1600, .inl tF))] U.heap ∧ va_K (dC, dI) vwCl [(ktp, .byte)] U ∧ va_D (fun _ => True) [(h0, .inr (6, [.ref tp, .int ts, .int fn, .int fp, .ref rd, .ref gd, .ref im, .ref rw, .ref gn, .ref ho, .ref sq])), (tp, .inl (ktp, 1600, .inl tF))])) (va_Qv (fun (u : Int32 × (Nat → Int32)) => (0 ≤ u.1.toInt ∧ u.1.toInt ≤ 1600)) (fun (u : Int32 × (Nat → Int32)) (t : State) => va_P (dC, dI) vwCl [(h0, .inr (6, [.ref tp, .int u.1, .int fn, .int fp, .ref rd, .ref gd, .ref im, .ref rw, .ref gn, .ref ho, .ref sq])), (tp, .inl (ktp, 1600, .inl u.2))] t.heap ∧ va_K (dC, dI) vwCl [] t ∧ va_D (va_A [(h0, .inr (6, [.ref tp, .int ts, .int fn, .int fp, .ref rd, .ref gd, .ref im, .ref rw, .ref gn, .ref ho, .ref sq])), (tp, .inl (ktp, 1600, .inl tF))] sz) [(h0, .inr (6, [.ref tp, .int u.1, .int fn, .int fp, .ref rd, .ref gd, .ref im, .ref rw, .ref gn, .ref ho, .ref sq])), (tp, .inl (ktp, 1600, .inl u.2))]) (va_A [(h0, .inr (6, [.ref tp, .int ts, .int fn, .int fp, .ref rd, .ref gd, .ref im, .ref rw, .ref gn, .ref ho, .ref sq])), (tp, .inl (ktp, 1600, .inl tF))] sz)) 0 0 (va_A [(h0, .inr (6, [.ref tp, .int ts, .int fn, .int fp, .ref rd, .ref gd, .ref im, .ref rw, .ref gn, .ref ho, .ref sq])), (tp, .inl (ktp, 1600, .inl tF))] sz) := by
  refine Met.ofW (cc := cX6_putBytes) (maxL := 3) (ret := none) (by decide) rfl ?_
  intro p e s m args below meth c s₁ B hml hv
  obtain ⟨rfl, hsz, hP, hK, hD0⟩ := hv
  have hx := B.exec
  have hb := B.bytes
  have hr := B.returns
  have hts := atoms_spec (ws := wz_X6_putBytes) B.pre
  have hown : s.vm.findClass RX6 = some m.cls := findClass_of_methodNamed B.named
  have hlocks := B.notSynchronized
  subst hsz
  have hD := hD0.self (sz := s.heap.size)
  generalize hAe : va_A [(h0, .inr (6, [.ref tp, .int ts, .int fn, .int fp, .ref rd, .ref gd, .ref im, .ref rw, .ref gn, .ref ho, .ref sq])), (tp, .inl (ktp, 1600, .inl tF))] s.heap.size = A at hD ⊢
  have hA : ∀ q : Nat, s.heap.size ≤ q → A q := fun q h => by rw [← hAe]; exact Or.inr h
  have hS : va_S A s.heap s.heap [] := va_S.rf
  have hP : va_P (dC, dI) vwCl [(h0, .inr (6, [.ref tp, .int ts, .int fn, .int fp, .ref rd, .ref gd, .ref im, .ref rw, .ref gn, .ref ho, .ref sq])), (tp, .inl (ktp, 1600, .inl tF))] s.heap := hP
  have hl := lv_entry ([.ref h0, .int p0]) (n := 3) (Nat.le_of_ble_eq_true rfl)
  rw [lg_entry_eq]
  generalize (lg_sl ([.ref h0, .int p0]) ++ List.replicate (3 - (lg_sl ([.ref h0, .int p0])).length) Slot.unset).toArray = ls at hl ⊢
  have hl : lv_has ls 3 [(0, .ref h0), (1, .int p0)] := hl
  refine lv_bipush (v := 24) hx hb dX6_putBytes_0 (by decide) ?_
  refine lv_istore_n (lv' := [(2, .int 24), (0, .ref h0), (1, .int p0)]) hx hb dX6_putBytes_2 rfl hl (by decide) rfl (fun ls hl => ?_)
  refine lv_iload_n hx hb dX6_putBytes_3 rfl (lv_at hl 0 rfl) ?_
  refine lv_if_lt (tgt := 46) hx hb dX6_putBytes_4 (by decide) (fun h => absurd h (by decide)) (fun _ => ?_)
  refine lv_aload_n hx hb dX6_putBytes_7 rfl (lv_at hl 1 rfl) ?_
  refine va_get (D := (dC, dI)) (ci := 6) (v := .int ts) (C := RX6) (T := TX6) (N := 11) hx hb hts in_X6_putBytes_X6 hown hK hP 0 rfl rfl 1 (by decide) (hts _ wd_X6_putBytes_0) (fun _ h9 => h9) rfl dX6_putBytes_8 ?_
  refine lv_sipush (v := 1600) hx hb dX6_putBytes_11 (by decide) ?_
  refine lv_icmp_ge (tgt := 40) hx hb dX6_putBytes_14 (by decide) (fun c_2 => ?_) (fun c_2 => ?_)
  · have c_2 : 1600 ≤ ts.toInt := i_le (a := 1600) (b := ts) (by decide) rfl c_2
    refine lv_iinc (v := 16) (lv' := [(2, .int 16), (0, .ref h0), (1, .int p0)]) hx hb dX6_putBytes_40 hl (k := 0) rfl (by decide) (by decide) rfl (fun ls hl => ?_)
    refine lv_goto (tgt := 3) hx hb dX6_putBytes_43 (by decide) ?_
    refine lv_iload_n hx hb dX6_putBytes_3 rfl (lv_at hl 0 rfl) ?_
    refine lv_if_lt (tgt := 46) hx hb dX6_putBytes_4 (by decide) (fun h => absurd h (by decide)) (fun _ => ?_)
    refine lv_aload_n hx hb dX6_putBytes_7 rfl (lv_at hl 1 rfl) ?_
    refine va_get (D := (dC, dI)) (ci := 6) (v := .int ts) (C := RX6) (T := TX6) (N := 11) hx hb hts in_X6_putBytes_X6 hown hK hP 0 rfl rfl 1 (by decide) (hts _ wd_X6_putBytes_0) (fun _ h9 => h9) rfl dX6_putBytes_8 ?_
    refine lv_sipush (v := 1600) hx hb dX6_putBytes_11 (by decide) ?_
    refine lv_icmp_ge (tgt := 40) hx hb dX6_putBytes_14 (by decide) (fun c_4 => ?_) (fun c_4 => ?_)
    · have c_4 : 1600 ≤ ts.toInt := i_le (a := 1600) (b := ts) (by decide) rfl c_4
      refine lv_iinc (v := 8) (lv' := [(2, .int 8), (0, .ref h0), (1, .int p0)]) hx hb dX6_putBytes_40 hl (k := 0) rfl (by decide) (by decide) rfl (fun ls hl => ?_)
      refine lv_goto (tgt := 3) hx hb dX6_putBytes_43 (by decide) ?_
      refine lv_iload_n hx hb dX6_putBytes_3 rfl (lv_at hl 0 rfl) ?_
      refine lv_if_lt (tgt := 46) hx hb dX6_putBytes_4 (by decide) (fun h => absurd h (by decide)) (fun _ => ?_)
      refine lv_aload_n hx hb dX6_putBytes_7 rfl (lv_at hl 1 rfl) ?_
      refine va_get (D := (dC, dI)) (ci := 6) (v := .int ts) (C := RX6) (T := TX6) (N := 11) hx hb hts in_X6_putBytes_X6 hown hK hP 0 rfl rfl 1 (by decide) (hts _ wd_X6_putBytes_0) (fun _ h9 => h9) rfl dX6_putBytes_8 ?_
      refine lv_sipush (v := 1600) hx hb dX6_putBytes_11 (by decide) ?_
      refine lv_icmp_ge (tgt := 40) hx hb dX6_putBytes_14 (by decide) (fun c_6 => ?_) (fun c_6 => ?_)
      · have c_6 : 1600 ≤ ts.toInt := i_le (a := 1600) (b := ts) (by decide) rfl c_6
        refine lv_iinc (v := 0) (lv' := [(2, .int 0), (0, .ref h0), (1, .int p0)]) hx hb dX6_putBytes_40 hl (k := 0) rfl (by decide) (by decide) rfl (fun ls hl => ?_)
        refine lv_goto (tgt := 3) hx hb dX6_putBytes_43 (by decide) ?_
        refine lv_iload_n hx hb dX6_putBytes_3 rfl (lv_at hl 0 rfl) ?_
        refine lv_if_lt (tgt := 46) hx hb dX6_putBytes_4 (by decide) (fun h => absurd h (by decide)) (fun _ => ?_)
        refine lv_aload_n hx hb dX6_putBytes_7 rfl (lv_at hl 1 rfl) ?_
        refine va_get (D := (dC, dI)) (ci := 6) (v := .int ts) (C := RX6) (T := TX6) (N := 11) hx hb hts in_X6_putBytes_X6 hown hK hP 0 rfl rfl 1 (by decide) (hts _ wd_X6_putBytes_0) (fun _ h9 => h9) rfl dX6_putBytes_8 ?_
        refine lv_sipush (v := 1600) hx hb dX6_putBytes_11 (by decide) ?_
        refine lv_icmp_ge (tgt := 40) hx hb dX6_putBytes_14 (by decide) (fun c_8 => ?_) (fun c_8 => ?_)
        · have c_8 : 1600 ≤ ts.toInt := i_le (a := 1600) (b := ts) (by decide) rfl c_8
          refine lv_iinc (v := -8) (lv' := [(2, .int (-8)), (0, .ref h0), (1, .int p0)]) hx hb dX6_putBytes_40 hl (k := 0) rfl (by decide) (by decide) rfl (fun ls hl => ?_)
          refine lv_goto (tgt := 3) hx hb dX6_putBytes_43 (by decide) ?_
          refine lv_iload_n hx hb dX6_putBytes_3 rfl (lv_at hl 0 rfl) ?_
          refine lv_if_lt (tgt := 46) hx hb dX6_putBytes_4 (by decide) (fun _ => ?_) (fun h => absurd (by decide) h)
          have hP9 := hP.sub (ws' := [(h0, .inr (6, [.ref tp, .int ts, .int fn, .int fp, .ref rd, .ref gd, .ref im, .ref rw, .ref gn, .ref ho, .ref sq])), (tp, .inl (ktp, 1600, .inl tF))]) [0, 1] rfl
          have hD9 := hD.sub (ws' := [(h0, .inr (6, [.ref tp, .int ts, .int fn, .int fp, .ref rd, .ref gd, .ref im, .ref rw, .ref gn, .ref ho, .ref sq])), (tp, .inl (ktp, 1600, .inl tF))]) [0, 1] (by decide) rfl
          have hK9 := hK.sub (tys' := []) [] rfl
          refine W.widen (k := 0) (n := 0) (by omega) (by omega) ?_
          exact W.vret hx hb hr (fun t ht hW => ⟨⟨(ts, tF), rfl, (by first | rfl | trivial | (dsimp only; omega) | omega | (left; rfl) | (right; rfl) | (dsimp only; first | (left; rfl) | (right; rfl))), by rw [ht]; exact hP9, va_K.moved hW.alike hK9, hD9⟩, hS.F ht⟩) hS.2.2 dX6_putBytes_46
        · have c_8 : ts.toInt < 1600 := i_nle (a := 1600) (b := ts) (by decide) rfl c_8
          refine lv_aload_n hx hb dX6_putBytes_17 rfl (lv_at hl 1 rfl) ?_
          refine va_get (D := (dC, dI)) (ci := 6) (v := .ref tp) (C := RX6) (T := TX6) (N := 11) hx hb hts in_X6_putBytes_X6 hown hK hP 0 rfl rfl 0 (by decide) (hts _ wd_X6_putBytes_1) (fun _ h9 => h9) rfl dX6_putBytes_18 ?_
          refine lv_aload_n hx hb dX6_putBytes_21 rfl (lv_at hl 1 rfl) ?_
          refine va_get (D := (dC, dI)) (ci := 6) (v := .int ts) (C := RX6) (T := TX6) (N := 11) hx hb hts in_X6_putBytes_X6 hown hK hP 0 rfl rfl 1 (by decide) (hts _ wd_X6_putBytes_0) (fun _ h9 => h9) rfl dX6_putBytes_22 ?_
          refine lv_iload_n hx hb dX6_putBytes_25 rfl (lv_at hl 2 rfl) ?_
          refine lv_iload_n hx hb dX6_putBytes_26 rfl (lv_at hl 0 rfl) ?_
          refine lv_ishr hx hb dX6_putBytes_27 ?_
          refine lv_topi (fun x_10 ex_10 => ?_)
          refine lv_i2b (v := x_10.toInt8.toInt32) hx hb dX6_putBytes_28 rfl ?_
          refine lv_topi (fun x_11 ex_11 => ?_)
          refine va_bast hx hb hK hP hD hS 1 0 rfl rfl (i_in rfl (by omega) (by omega)) dX6_putBytes_29 (fun H locs hP hD hS => ?_)
          have hP : va_P (dC, dI) vwCl [(h0, .inr (6, [.ref tp, .int ts, .int fn, .int fp, .ref rd, .ref gd, .ref im, .ref rw, .ref gn, .ref ho, .ref sq])), (tp, .inl (ktp, 1600, .inl (upd tF ts.toNatClampNeg (vp_nar .byte x_11))))] H := hP
          have hD : va_D A [(h0, .inr (6, [.ref tp, .int ts, .int fn, .int fp, .ref rd, .ref gd, .ref im, .ref rw, .ref gn, .ref ho, .ref sq])), (tp, .inl (ktp, 1600, .inl (upd tF ts.toNatClampNeg (vp_nar .byte x_11))))] := hD
          obtain ⟨f_12, ef_12⟩ : ∃ g, g = upd tF ts.toNatClampNeg (vp_nar .byte x_11) := ⟨_, rfl⟩
          rw [← ef_12] at hP hD
          refine lv_aload_n hx hb dX6_putBytes_30 rfl (lv_at hl 1 rfl) ?_
          refine lv_dup hx hb dX6_putBytes_31 rfl ?_
          refine va_get (D := (dC, dI)) (ci := 6) (v := .int ts) (C := RX6) (T := TX6) (N := 11) hx hb hts in_X6_putBytes_X6 hown hK hP 0 rfl rfl 1 (by decide) (hts _ wd_X6_putBytes_0) (fun _ h9 => h9) rfl dX6_putBytes_32 ?_
          refine lv_iconst (v := 1) hx hb dX6_putBytes_35 (by decide) ?_
          refine lv_iadd hx hb dX6_putBytes_36 ?_
          refine lv_topi (fun x_13 ex_13 => ?_)
          have zx_13 : x_13.toInt = ts.toInt + 1 := by rw [ex_13]; exact i_add rfl (by decide) (by omega) (by omega)
          refine va_put (D := (dC, dI)) (ci := 6) (v := .int x_13) (ty := .int) (C := RX6) (T := TX6) (N := 11) hx hb hts in_X6_putBytes_X6 tyX6 tyX6_ok nmX6 hown hK hP hD hS 0 rfl rfl 1 (by decide) (hts _ wd_X6_putBytes_0) (fun _ h9 => h9) rfl (by decide +kernel) rfl rfl (Nat.le_of_ble_eq_true rfl) dX6_putBytes_37 (fun H locs hP hD hS => ?_)
          have hP : va_P (dC, dI) vwCl [(h0, .inr (6, [.ref tp, .int x_13, .int fn, .int fp, .ref rd, .ref gd, .ref im, .ref rw, .ref gn, .ref ho, .ref sq])), (tp, .inl (ktp, 1600, .inl f_12))] H := hP
          have hD : va_D A [(h0, .inr (6, [.ref tp, .int x_13, .int fn, .int fp, .ref rd, .ref gd, .ref im, .ref rw, .ref gn, .ref ho, .ref sq])), (tp, .inl (ktp, 1600, .inl f_12))] := hD
          refine lv_iinc (v := -8) (lv' := [(2, .int (-8)), (0, .ref h0), (1, .int p0)]) hx hb dX6_putBytes_40 hl (k := 0) rfl (by decide) (by decide) rfl (fun ls hl => ?_)
          refine lv_goto (tgt := 3) hx hb dX6_putBytes_43 (by decide) ?_
          refine lv_iload_n hx hb dX6_putBytes_3 rfl (lv_at hl 0 rfl) ?_
          refine lv_if_lt (tgt := 46) hx hb dX6_putBytes_4 (by decide) (fun _ => ?_) (fun h => absurd (by decide) h)
          have hP9 := hP.sub (ws' := [(h0, .inr (6, [.ref tp, .int x_13, .int fn, .int fp, .ref rd, .ref gd, .ref im, .ref rw, .ref gn, .ref ho, .ref sq])), (tp, .inl (ktp, 1600, .inl f_12))]) [0, 1] rfl
          have hD9 := hD.sub (ws' := [(h0, .inr (6, [.ref tp, .int x_13, .int fn, .int fp, .ref rd, .ref gd, .ref im, .ref rw, .ref gn, .ref ho, .ref sq])), (tp, .inl (ktp, 1600, .inl f_12))]) [0, 1] (by decide) rfl
          have hK9 := hK.sub (tys' := []) [] rfl
          refine W.widen (k := 0) (n := 0) (by omega) (by omega) ?_
          exact W.vret hx hb hr (fun t ht hW => ⟨⟨(x_13, f_12), rfl, (by first | rfl | trivial | (dsimp only; omega) | omega | (left; rfl) | (right; rfl) | (dsimp only; first | (left; rfl) | (right; rfl))), by rw [ht]; exact hP9, va_K.moved hW.alike hK9, hD9⟩, hS.F ht⟩) hS.2.2 dX6_putBytes_46
      · have c_6 : ts.toInt < 1600 := i_nle (a := 1600) (b := ts) (by decide) rfl c_6
        refine lv_aload_n hx hb dX6_putBytes_17 rfl (lv_at hl 1 rfl) ?_
        refine va_get (D := (dC, dI)) (ci := 6) (v := .ref tp) (C := RX6) (T := TX6) (N := 11) hx hb hts in_X6_putBytes_X6 hown hK hP 0 rfl rfl 0 (by decide) (hts _ wd_X6_putBytes_1) (fun _ h9 => h9) rfl dX6_putBytes_18 ?_
        refine lv_aload_n hx hb dX6_putBytes_21 rfl (lv_at hl 1 rfl) ?_
        refine va_get (D := (dC, dI)) (ci := 6) (v := .int ts) (C := RX6) (T := TX6) (N := 11) hx hb hts in_X6_putBytes_X6 hown hK hP 0 rfl rfl 1 (by decide) (hts _ wd_X6_putBytes_0) (fun _ h9 => h9) rfl dX6_putBytes_22 ?_
        refine lv_iload_n hx hb dX6_putBytes_25 rfl (lv_at hl 2 rfl) ?_
        refine lv_iload_n hx hb dX6_putBytes_26 rfl (lv_at hl 0 rfl) ?_
        refine lv_ishr hx hb dX6_putBytes_27 ?_
        refine lv_topi (fun x_15 ex_15 => ?_)
        refine lv_i2b (v := x_15.toInt8.toInt32) hx hb dX6_putBytes_28 rfl ?_
        refine lv_topi (fun x_16 ex_16 => ?_)
        refine va_bast hx hb hK hP hD hS 1 0 rfl rfl (i_in rfl (by omega) (by omega)) dX6_putBytes_29 (fun H locs hP hD hS => ?_)
        have hP : va_P (dC, dI) vwCl [(h0, .inr (6, [.ref tp, .int ts, .int fn, .int fp, .ref rd, .ref gd, .ref im, .ref rw, .ref gn, .ref ho, .ref sq])), (tp, .inl (ktp, 1600, .inl (upd tF ts.toNatClampNeg (vp_nar .byte x_16))))] H := hP
        have hD : va_D A [(h0, .inr (6, [.ref tp, .int ts, .int fn, .int fp, .ref rd, .ref gd, .ref im, .ref rw, .ref gn, .ref ho, .ref sq])), (tp, .inl (ktp, 1600, .inl (upd tF ts.toNatClampNeg (vp_nar .byte x_16))))] := hD
        obtain ⟨f_17, ef_17⟩ : ∃ g, g = upd tF ts.toNatClampNeg (vp_nar .byte x_16) := ⟨_, rfl⟩
        rw [← ef_17] at hP hD
        refine lv_aload_n hx hb dX6_putBytes_30 rfl (lv_at hl 1 rfl) ?_
        refine lv_dup hx hb dX6_putBytes_31 rfl ?_
        refine va_get (D := (dC, dI)) (ci := 6) (v := .int ts) (C := RX6) (T := TX6) (N := 11) hx hb hts in_X6_putBytes_X6 hown hK hP 0 rfl rfl 1 (by decide) (hts _ wd_X6_putBytes_0) (fun _ h9 => h9) rfl dX6_putBytes_32 ?_
        refine lv_iconst (v := 1) hx hb dX6_putBytes_35 (by decide) ?_
        refine lv_iadd hx hb dX6_putBytes_36 ?_
        refine lv_topi (fun x_18 ex_18 => ?_)
        have zx_18 : x_18.toInt = ts.toInt + 1 := by rw [ex_18]; exact i_add rfl (by decide) (by omega) (by omega)
        refine va_put (D := (dC, dI)) (ci := 6) (v := .int x_18) (ty := .int) (C := RX6) (T := TX6) (N := 11) hx hb hts in_X6_putBytes_X6 tyX6 tyX6_ok nmX6 hown hK hP hD hS 0 rfl rfl 1 (by decide) (hts _ wd_X6_putBytes_0) (fun _ h9 => h9) rfl (by decide +kernel) rfl rfl (Nat.le_of_ble_eq_true rfl) dX6_putBytes_37 (fun H locs hP hD hS => ?_)
        have hP : va_P (dC, dI) vwCl [(h0, .inr (6, [.ref tp, .int x_18, .int fn, .int fp, .ref rd, .ref gd, .ref im, .ref rw, .ref gn, .ref ho, .ref sq])), (tp, .inl (ktp, 1600, .inl f_17))] H := hP
        have hD : va_D A [(h0, .inr (6, [.ref tp, .int x_18, .int fn, .int fp, .ref rd, .ref gd, .ref im, .ref rw, .ref gn, .ref ho, .ref sq])), (tp, .inl (ktp, 1600, .inl f_17))] := hD
        refine lv_iinc (v := 0) (lv' := [(2, .int 0), (0, .ref h0), (1, .int p0)]) hx hb dX6_putBytes_40 hl (k := 0) rfl (by decide) (by decide) rfl (fun ls hl => ?_)
        refine lv_goto (tgt := 3) hx hb dX6_putBytes_43 (by decide) ?_
        refine lv_iload_n hx hb dX6_putBytes_3 rfl (lv_at hl 0 rfl) ?_
        refine lv_if_lt (tgt := 46) hx hb dX6_putBytes_4 (by decide) (fun h => absurd h (by decide)) (fun _ => ?_)
        refine lv_aload_n hx hb dX6_putBytes_7 rfl (lv_at hl 1 rfl) ?_
        refine va_get (D := (dC, dI)) (ci := 6) (v := .int x_18) (C := RX6) (T := TX6) (N := 11) hx hb hts in_X6_putBytes_X6 hown hK hP 0 rfl rfl 1 (by decide) (hts _ wd_X6_putBytes_0) (fun _ h9 => h9) rfl dX6_putBytes_8 ?_
        refine lv_sipush (v := 1600) hx hb dX6_putBytes_11 (by decide) ?_
        refine lv_icmp_ge (tgt := 40) hx hb dX6_putBytes_14 (by decide) (fun c_20 => ?_) (fun c_20 => ?_)
        · have c_20 : 1600 ≤ x_18.toInt := i_le (a := 1600) (b := x_18) (by decide) rfl c_20
          refine lv_iinc (v := -8) (lv' := [(2, .int (-8)), (0, .ref h0), (1, .int p0)]) hx hb dX6_putBytes_40 hl (k := 0) rfl (by decide) (by decide) rfl (fun ls hl => ?_)
          refine lv_goto (tgt := 3) hx hb dX6_putBytes_43 (by decide) ?_
          refine lv_iload_n hx hb dX6_putBytes_3 rfl (lv_at hl 0 rfl) ?_
          refine lv_if_lt (tgt := 46) hx hb dX6_putBytes_4 (by decide) (fun _ => ?_) (fun h => absurd (by decide) h)
          have hP9 := hP.sub (ws' := [(h0, .inr (6, [.ref tp, .int x_18, .int fn, .int fp, .ref rd, .ref gd, .ref im, .ref rw, .ref gn, .ref ho, .ref sq])), (tp, .inl (ktp, 1600, .inl f_17))]) [0, 1] rfl
          have hD9 := hD.sub (ws' := [(h0, .inr (6, [.ref tp, .int x_18, .int fn, .int fp, .ref rd, .ref gd, .ref im, .ref rw, .ref gn, .ref ho, .ref sq])), (tp, .inl (ktp, 1600, .inl f_17))]) [0, 1] (by decide) rfl
          have hK9 := hK.sub (tys' := []) [] rfl
          refine W.widen (k := 0) (n := 0) (by omega) (by omega) ?_
          exact W.vret hx hb hr (fun t ht hW => ⟨⟨(x_18, f_17), rfl, (by first | rfl | trivial | (dsimp only; omega) | omega | (left; rfl) | (right; rfl) | (dsimp only; first | (left; rfl) | (right; rfl))), by rw [ht]; exact hP9, va_K.moved hW.alike hK9, hD9⟩, hS.F ht⟩) hS.2.2 dX6_putBytes_46
        · have c_20 : x_18.toInt < 1600 := i_nle (a := 1600) (b := x_18) (by decide) rfl c_20
          refine lv_aload_n hx hb dX6_putBytes_17 rfl (lv_at hl 1 rfl) ?_
          refine va_get (D := (dC, dI)) (ci := 6) (v := .ref tp) (C := RX6) (T := TX6) (N := 11) hx hb hts in_X6_putBytes_X6 hown hK hP 0 rfl rfl 0 (by decide) (hts _ wd_X6_putBytes_1) (fun _ h9 => h9) rfl dX6_putBytes_18 ?_
          refine lv_aload_n hx hb dX6_putBytes_21 rfl (lv_at hl 1 rfl) ?_
          refine va_get (D := (dC, dI)) (ci := 6) (v := .int x_18) (C := RX6) (T := TX6) (N := 11) hx hb hts in_X6_putBytes_X6 hown hK hP 0 rfl rfl 1 (by decide) (hts _ wd_X6_putBytes_0) (fun _ h9 => h9) rfl dX6_putBytes_22 ?_
          refine lv_iload_n hx hb dX6_putBytes_25 rfl (lv_at hl 2 rfl) ?_
          refine lv_iload_n hx hb dX6_putBytes_26 rfl (lv_at hl 0 rfl) ?_
          refine lv_ishr hx hb dX6_putBytes_27 ?_
          refine lv_topi (fun x_22 ex_22 => ?_)
          refine lv_i2b (v := x_22.toInt8.toInt32) hx hb dX6_putBytes_28 rfl ?_
          refine lv_topi (fun x_23 ex_23 => ?_)
          refine va_bast hx hb hK hP hD hS 1 0 rfl rfl (i_in rfl (by omega) (by omega)) dX6_putBytes_29 (fun H locs hP hD hS => ?_)
          have hP : va_P (dC, dI) vwCl [(h0, .inr (6, [.ref tp, .int x_18, .int fn, .int fp, .ref rd, .ref gd, .ref im, .ref rw, .ref gn, .ref ho, .ref sq])), (tp, .inl (ktp, 1600, .inl (upd f_17 x_18.toNatClampNeg (vp_nar .byte x_23))))] H := hP
          have hD : va_D A [(h0, .inr (6, [.ref tp, .int x_18, .int fn, .int fp, .ref rd, .ref gd, .ref im, .ref rw, .ref gn, .ref ho, .ref sq])), (tp, .inl (ktp, 1600, .inl (upd f_17 x_18.toNatClampNeg (vp_nar .byte x_23))))] := hD
          obtain ⟨f_24, ef_24⟩ : ∃ g, g = upd f_17 x_18.toNatClampNeg (vp_nar .byte x_23) := ⟨_, rfl⟩
          rw [← ef_24] at hP hD
          refine lv_aload_n hx hb dX6_putBytes_30 rfl (lv_at hl 1 rfl) ?_
          refine lv_dup hx hb dX6_putBytes_31 rfl ?_
          refine va_get (D := (dC, dI)) (ci := 6) (v := .int x_18) (C := RX6) (T := TX6) (N := 11) hx hb hts in_X6_putBytes_X6 hown hK hP 0 rfl rfl 1 (by decide) (hts _ wd_X6_putBytes_0) (fun _ h9 => h9) rfl dX6_putBytes_32 ?_
          refine lv_iconst (v := 1) hx hb dX6_putBytes_35 (by decide) ?_
          refine lv_iadd hx hb dX6_putBytes_36 ?_
          refine lv_topi (fun x_25 ex_25 => ?_)
          have zx_25 : x_25.toInt = x_18.toInt + 1 := by rw [ex_25]; exact i_add rfl (by decide) (by omega) (by omega)
          refine va_put (D := (dC, dI)) (ci := 6) (v := .int x_25) (ty := .int) (C := RX6) (T := TX6) (N := 11) hx hb hts in_X6_putBytes_X6 tyX6 tyX6_ok nmX6 hown hK hP hD hS 0 rfl rfl 1 (by decide) (hts _ wd_X6_putBytes_0) (fun _ h9 => h9) rfl (by decide +kernel) rfl rfl (Nat.le_of_ble_eq_true rfl) dX6_putBytes_37 (fun H locs hP hD hS => ?_)
          have hP : va_P (dC, dI) vwCl [(h0, .inr (6, [.ref tp, .int x_25, .int fn, .int fp, .ref rd, .ref gd, .ref im, .ref rw, .ref gn, .ref ho, .ref sq])), (tp, .inl (ktp, 1600, .inl f_24))] H := hP
          have hD : va_D A [(h0, .inr (6, [.ref tp, .int x_25, .int fn, .int fp, .ref rd, .ref gd, .ref im, .ref rw, .ref gn, .ref ho, .ref sq])), (tp, .inl (ktp, 1600, .inl f_24))] := hD
          refine lv_iinc (v := -8) (lv' := [(2, .int (-8)), (0, .ref h0), (1, .int p0)]) hx hb dX6_putBytes_40 hl (k := 0) rfl (by decide) (by decide) rfl (fun ls hl => ?_)
          refine lv_goto (tgt := 3) hx hb dX6_putBytes_43 (by decide) ?_
          refine lv_iload_n hx hb dX6_putBytes_3 rfl (lv_at hl 0 rfl) ?_
          refine lv_if_lt (tgt := 46) hx hb dX6_putBytes_4 (by decide) (fun _ => ?_) (fun h => absurd (by decide) h)
          have hP9 := hP.sub (ws' := [(h0, .inr (6, [.ref tp, .int x_25, .int fn, .int fp, .ref rd, .ref gd, .ref im, .ref rw, .ref gn, .ref ho, .ref sq])), (tp, .inl (ktp, 1600, .inl f_24))]) [0, 1] rfl
          have hD9 := hD.sub (ws' := [(h0, .inr (6, [.ref tp, .int x_25, .int fn, .int fp, .ref rd, .ref gd, .ref im, .ref rw, .ref gn, .ref ho, .ref sq])), (tp, .inl (ktp, 1600, .inl f_24))]) [0, 1] (by decide) rfl
          have hK9 := hK.sub (tys' := []) [] rfl
          refine W.widen (k := 0) (n := 0) (by omega) (by omega) ?_
          exact W.vret hx hb hr (fun t ht hW => ⟨⟨(x_25, f_24), rfl, (by first | rfl | trivial | (dsimp only; omega) | omega | (left; rfl) | (right; rfl) | (dsimp only; first | (left; rfl) | (right; rfl))), by rw [ht]; exact hP9, va_K.moved hW.alike hK9, hD9⟩, hS.F ht⟩) hS.2.2 dX6_putBytes_46
    · have c_4 : ts.toInt < 1600 := i_nle (a := 1600) (b := ts) (by decide) rfl c_4
      refine lv_aload_n hx hb dX6_putBytes_17 rfl (lv_at hl 1 rfl) ?_
      refine va_get (D := (dC, dI)) (ci := 6) (v := .ref tp) (C := RX6) (T := TX6) (N := 11) hx hb hts in_X6_putBytes_X6 hown hK hP 0 rfl rfl 0 (by decide) (hts _ wd_X6_putBytes_1) (fun _ h9 => h9) rfl dX6_putBytes_18 ?_
      refine lv_aload_n hx hb dX6_putBytes_21 rfl (lv_at hl 1 rfl) ?_
      refine va_get (D := (dC, dI)) (ci := 6) (v := .int ts) (C := RX6) (T := TX6) (N := 11) hx hb hts in_X6_putBytes_X6 hown hK hP 0 rfl rfl 1 (by decide) (hts _ wd_X6_putBytes_0) (fun _ h9 => h9) rfl dX6_putBytes_22 ?_
      refine lv_iload_n hx hb dX6_putBytes_25 rfl (lv_at hl 2 rfl) ?_
      refine lv_iload_n hx hb dX6_putBytes_26 rfl (lv_at hl 0 rfl) ?_
      refine lv_ishr hx hb dX6_putBytes_27 ?_
      refine lv_topi (fun x_27 ex_27 => ?_)
      refine lv_i2b (v := x_27.toInt8.toInt32) hx hb dX6_putBytes_28 rfl ?_
      refine lv_topi (fun x_28 ex_28 => ?_)
      refine va_bast hx hb hK hP hD hS 1 0 rfl rfl (i_in rfl (by omega) (by omega)) dX6_putBytes_29 (fun H locs hP hD hS => ?_)
      have hP : va_P (dC, dI) vwCl [(h0, .inr (6, [.ref tp, .int ts, .int fn, .int fp, .ref rd, .ref gd, .ref im, .ref rw, .ref gn, .ref ho, .ref sq])), (tp, .inl (ktp, 1600, .inl (upd tF ts.toNatClampNeg (vp_nar .byte x_28))))] H := hP
      have hD : va_D A [(h0, .inr (6, [.ref tp, .int ts, .int fn, .int fp, .ref rd, .ref gd, .ref im, .ref rw, .ref gn, .ref ho, .ref sq])), (tp, .inl (ktp, 1600, .inl (upd tF ts.toNatClampNeg (vp_nar .byte x_28))))] := hD
      obtain ⟨f_29, ef_29⟩ : ∃ g, g = upd tF ts.toNatClampNeg (vp_nar .byte x_28) := ⟨_, rfl⟩
      rw [← ef_29] at hP hD
      refine lv_aload_n hx hb dX6_putBytes_30 rfl (lv_at hl 1 rfl) ?_
      refine lv_dup hx hb dX6_putBytes_31 rfl ?_
      refine va_get (D := (dC, dI)) (ci := 6) (v := .int ts) (C := RX6) (T := TX6) (N := 11) hx hb hts in_X6_putBytes_X6 hown hK hP 0 rfl rfl 1 (by decide) (hts _ wd_X6_putBytes_0) (fun _ h9 => h9) rfl dX6_putBytes_32 ?_
      refine lv_iconst (v := 1) hx hb dX6_putBytes_35 (by decide) ?_
      refine lv_iadd hx hb dX6_putBytes_36 ?_
      refine lv_topi (fun x_30 ex_30 => ?_)
      have zx_30 : x_30.toInt = ts.toInt + 1 := by rw [ex_30]; exact i_add rfl (by decide) (by omega) (by omega)
      refine va_put (D := (dC, dI)) (ci := 6) (v := .int x_30) (ty := .int) (C := RX6) (T := TX6) (N := 11) hx hb hts in_X6_putBytes_X6 tyX6 tyX6_ok nmX6 hown hK hP hD hS 0 rfl rfl 1 (by decide) (hts _ wd_X6_putBytes_0) (fun _ h9 => h9) rfl (by decide +kernel) rfl rfl (Nat.le_of_ble_eq_true rfl) dX6_putBytes_37 (fun H locs hP hD hS => ?_)
      have hP : va_P (dC, dI) vwCl [(h0, .inr (6, [.ref tp, .int x_30, .int fn, .int fp, .ref rd, .ref gd, .ref im, .ref rw, .ref gn, .ref ho, .ref sq])), (tp, .inl (ktp, 1600, .inl f_29))] H := hP
      have hD : va_D A [(h0, .inr (6, [.ref tp, .int x_30, .int fn, .int fp, .ref rd, .ref gd, .ref im, .ref rw, .ref gn, .ref ho, .ref sq])), (tp, .inl (ktp, 1600, .inl f_29))] := hD
      refine lv_iinc (v := 8) (lv' := [(2, .int 8), (0, .ref h0), (1, .int p0)]) hx hb dX6_putBytes_40 hl (k := 0) rfl (by decide) (by decide) rfl (fun ls hl => ?_)
      refine lv_goto (tgt := 3) hx hb dX6_putBytes_43 (by decide) ?_
      refine lv_iload_n hx hb dX6_putBytes_3 rfl (lv_at hl 0 rfl) ?_
      refine lv_if_lt (tgt := 46) hx hb dX6_putBytes_4 (by decide) (fun h => absurd h (by decide)) (fun _ => ?_)
      refine lv_aload_n hx hb dX6_putBytes_7 rfl (lv_at hl 1 rfl) ?_
      refine va_get (D := (dC, dI)) (ci := 6) (v := .int x_30) (C := RX6) (T := TX6) (N := 11) hx hb hts in_X6_putBytes_X6 hown hK hP 0 rfl rfl 1 (by decide) (hts _ wd_X6_putBytes_0) (fun _ h9 => h9) rfl dX6_putBytes_8 ?_
      refine lv_sipush (v := 1600) hx hb dX6_putBytes_11 (by decide) ?_
      refine lv_icmp_ge (tgt := 40) hx hb dX6_putBytes_14 (by decide) (fun c_32 => ?_) (fun c_32 => ?_)
      · have c_32 : 1600 ≤ x_30.toInt := i_le (a := 1600) (b := x_30) (by decide) rfl c_32
        refine lv_iinc (v := 0) (lv' := [(2, .int 0), (0, .ref h0), (1, .int p0)]) hx hb dX6_putBytes_40 hl (k := 0) rfl (by decide) (by decide) rfl (fun ls hl => ?_)
        refine lv_goto (tgt := 3) hx hb dX6_putBytes_43 (by decide) ?_
        refine lv_iload_n hx hb dX6_putBytes_3 rfl (lv_at hl 0 rfl) ?_
        refine lv_if_lt (tgt := 46) hx hb dX6_putBytes_4 (by decide) (fun h => absurd h (by decide)) (fun _ => ?_)
        refine lv_aload_n hx hb dX6_putBytes_7 rfl (lv_at hl 1 rfl) ?_
        refine va_get (D := (dC, dI)) (ci := 6) (v := .int x_30) (C := RX6) (T := TX6) (N := 11) hx hb hts in_X6_putBytes_X6 hown hK hP 0 rfl rfl 1 (by decide) (hts _ wd_X6_putBytes_0) (fun _ h9 => h9) rfl dX6_putBytes_8 ?_
        refine lv_sipush (v := 1600) hx hb dX6_putBytes_11 (by decide) ?_
        refine lv_icmp_ge (tgt := 40) hx hb dX6_putBytes_14 (by decide) (fun c_34 => ?_) (fun c_34 => ?_)
        · have c_34 : 1600 ≤ x_30.toInt := i_le (a := 1600) (b := x_30) (by decide) rfl c_34
          refine lv_iinc (v := -8) (lv' := [(2, .int (-8)), (0, .ref h0), (1, .int p0)]) hx hb dX6_putBytes_40 hl (k := 0) rfl (by decide) (by decide) rfl (fun ls hl => ?_)
          refine lv_goto (tgt := 3) hx hb dX6_putBytes_43 (by decide) ?_
          refine lv_iload_n hx hb dX6_putBytes_3 rfl (lv_at hl 0 rfl) ?_
          refine lv_if_lt (tgt := 46) hx hb dX6_putBytes_4 (by decide) (fun _ => ?_) (fun h => absurd (by decide) h)
          have hP9 := hP.sub (ws' := [(h0, .inr (6, [.ref tp, .int x_30, .int fn, .int fp, .ref rd, .ref gd, .ref im, .ref rw, .ref gn, .ref ho, .ref sq])), (tp, .inl (ktp, 1600, .inl f_29))]) [0, 1] rfl
          have hD9 := hD.sub (ws' := [(h0, .inr (6, [.ref tp, .int x_30, .int fn, .int fp, .ref rd, .ref gd, .ref im, .ref rw, .ref gn, .ref ho, .ref sq])), (tp, .inl (ktp, 1600, .inl f_29))]) [0, 1] (by decide) rfl
          have hK9 := hK.sub (tys' := []) [] rfl
          refine W.widen (k := 0) (n := 0) (by omega) (by omega) ?_
          exact W.vret hx hb hr (fun t ht hW => ⟨⟨(x_30, f_29), rfl, (by first | rfl | trivial | (dsimp only; omega) | omega | (left; rfl) | (right; rfl) | (dsimp only; first | (left; rfl) | (right; rfl))), by rw [ht]; exact hP9, va_K.moved hW.alike hK9, hD9⟩, hS.F ht⟩) hS.2.2 dX6_putBytes_46
        · have c_34 : x_30.toInt < 1600 := i_nle (a := 1600) (b := x_30) (by decide) rfl c_34
          refine lv_aload_n hx hb dX6_putBytes_17 rfl (lv_at hl 1 rfl) ?_
          refine va_get (D := (dC, dI)) (ci := 6) (v := .ref tp) (C := RX6) (T := TX6) (N := 11) hx hb hts in_X6_putBytes_X6 hown hK hP 0 rfl rfl 0 (by decide) (hts _ wd_X6_putBytes_1) (fun _ h9 => h9) rfl dX6_putBytes_18 ?_
          refine lv_aload_n hx hb dX6_putBytes_21 rfl (lv_at hl 1 rfl) ?_
          refine va_get (D := (dC, dI)) (ci := 6) (v := .int x_30) (C := RX6) (T := TX6) (N := 11) hx hb hts in_X6_putBytes_X6 hown hK hP 0 rfl rfl 1 (by decide) (hts _ wd_X6_putBytes_0) (fun _ h9 => h9) rfl dX6_putBytes_22 ?_
          refine lv_iload_n hx hb dX6_putBytes_25 rfl (lv_at hl 2 rfl) ?_
          refine lv_iload_n hx hb dX6_putBytes_26 rfl (lv_at hl 0 rfl) ?_
          refine lv_ishr hx hb dX6_putBytes_27 ?_
          refine lv_topi (fun x_36 ex_36 => ?_)
          refine lv_i2b (v := x_36.toInt8.toInt32) hx hb dX6_putBytes_28 rfl ?_
          refine lv_topi (fun x_37 ex_37 => ?_)
          refine va_bast hx hb hK hP hD hS 1 0 rfl rfl (i_in rfl (by omega) (by omega)) dX6_putBytes_29 (fun H locs hP hD hS => ?_)
          have hP : va_P (dC, dI) vwCl [(h0, .inr (6, [.ref tp, .int x_30, .int fn, .int fp, .ref rd, .ref gd, .ref im, .ref rw, .ref gn, .ref ho, .ref sq])), (tp, .inl (ktp, 1600, .inl (upd f_29 x_30.toNatClampNeg (vp_nar .byte x_37))))] H := hP
          have hD : va_D A [(h0, .inr (6, [.ref tp, .int x_30, .int fn, .int fp, .ref rd, .ref gd, .ref im, .ref rw, .ref gn, .ref ho, .ref sq])), (tp, .inl (ktp, 1600, .inl (upd f_29 x_30.toNatClampNeg (vp_nar .byte x_37))))] := hD
          obtain ⟨f_38, ef_38⟩ : ∃ g, g = upd f_29 x_30.toNatClampNeg (vp_nar .byte x_37) := ⟨_, rfl⟩
          rw [← ef_38] at hP hD
          refine lv_aload_n hx hb dX6_putBytes_30 rfl (lv_at hl 1 rfl) ?_
          refine lv_dup hx hb dX6_putBytes_31 rfl ?_
          refine va_get (D := (dC, dI)) (ci := 6) (v := .int x_30) (C := RX6) (T := TX6) (N := 11) hx hb hts in_X6_putBytes_X6 hown hK hP 0 rfl rfl 1 (by decide) (hts _ wd_X6_putBytes_0) (fun _ h9 => h9) rfl dX6_putBytes_32 ?_
          refine lv_iconst (v := 1) hx hb dX6_putBytes_35 (by decide) ?_
          refine lv_iadd hx hb dX6_putBytes_36 ?_
          refine lv_topi (fun x_39 ex_39 => ?_)
          have zx_39 : x_39.toInt = x_30.toInt + 1 := by rw [ex_39]; exact i_add rfl (by decide) (by omega) (by omega)
          refine va_put (D := (dC, dI)) (ci := 6) (v := .int x_39) (ty := .int) (C := RX6) (T := TX6) (N := 11) hx hb hts in_X6_putBytes_X6 tyX6 tyX6_ok nmX6 hown hK hP hD hS 0 rfl rfl 1 (by decide) (hts _ wd_X6_putBytes_0) (fun _ h9 => h9) rfl (by decide +kernel) rfl rfl (Nat.le_of_ble_eq_true rfl) dX6_putBytes_37 (fun H locs hP hD hS => ?_)
          have hP : va_P (dC, dI) vwCl [(h0, .inr (6, [.ref tp, .int x_39, .int fn, .int fp, .ref rd, .ref gd, .ref im, .ref rw, .ref gn, .ref ho, .ref sq])), (tp, .inl (ktp, 1600, .inl f_38))] H := hP
          have hD : va_D A [(h0, .inr (6, [.ref tp, .int x_39, .int fn, .int fp, .ref rd, .ref gd, .ref im, .ref rw, .ref gn, .ref ho, .ref sq])), (tp, .inl (ktp, 1600, .inl f_38))] := hD
          refine lv_iinc (v := -8) (lv' := [(2, .int (-8)), (0, .ref h0), (1, .int p0)]) hx hb dX6_putBytes_40 hl (k := 0) rfl (by decide) (by decide) rfl (fun ls hl => ?_)
          refine lv_goto (tgt := 3) hx hb dX6_putBytes_43 (by decide) ?_
          refine lv_iload_n hx hb dX6_putBytes_3 rfl (lv_at hl 0 rfl) ?_
          refine lv_if_lt (tgt := 46) hx hb dX6_putBytes_4 (by decide) (fun _ => ?_) (fun h => absurd (by decide) h)
          have hP9 := hP.sub (ws' := [(h0, .inr (6, [.ref tp, .int x_39, .int fn, .int fp, .ref rd, .ref gd, .ref im, .ref rw, .ref gn, .ref ho, .ref sq])), (tp, .inl (ktp, 1600, .inl f_38))]) [0, 1] rfl
          have hD9 := hD.sub (ws' := [(h0, .inr (6, [.ref tp, .int x_39, .int fn, .int fp, .ref rd, .ref gd, .ref im, .ref rw, .ref gn, .ref ho, .ref sq])), (tp, .inl (ktp, 1600, .inl f_38))]) [0, 1] (by decide) rfl
          have hK9 := hK.sub (tys' := []) [] rfl
          refine W.widen (k := 0) (n := 0) (by omega) (by omega) ?_
          exact W.vret hx hb hr (fun t ht hW => ⟨⟨(x_39, f_38), rfl, (by first | rfl | trivial | (dsimp only; omega) | omega | (left; rfl) | (right; rfl) | (dsimp only; first | (left; rfl) | (right; rfl))), by rw [ht]; exact hP9, va_K.moved hW.alike hK9, hD9⟩, hS.F ht⟩) hS.2.2 dX6_putBytes_46
      · have c_32 : x_30.toInt < 1600 := i_nle (a := 1600) (b := x_30) (by decide) rfl c_32
        refine lv_aload_n hx hb dX6_putBytes_17 rfl (lv_at hl 1 rfl) ?_
        refine va_get (D := (dC, dI)) (ci := 6) (v := .ref tp) (C := RX6) (T := TX6) (N := 11) hx hb hts in_X6_putBytes_X6 hown hK hP 0 rfl rfl 0 (by decide) (hts _ wd_X6_putBytes_1) (fun _ h9 => h9) rfl dX6_putBytes_18 ?_
        refine lv_aload_n hx hb dX6_putBytes_21 rfl (lv_at hl 1 rfl) ?_
        refine va_get (D := (dC, dI)) (ci := 6) (v := .int x_30) (C := RX6) (T := TX6) (N := 11) hx hb hts in_X6_putBytes_X6 hown hK hP 0 rfl rfl 1 (by decide) (hts _ wd_X6_putBytes_0) (fun _ h9 => h9) rfl dX6_putBytes_22 ?_
        refine lv_iload_n hx hb dX6_putBytes_25 rfl (lv_at hl 2 rfl) ?_
        refine lv_iload_n hx hb dX6_putBytes_26 rfl (lv_at hl 0 rfl) ?_
        refine lv_ishr hx hb dX6_putBytes_27 ?_
        refine lv_topi (fun x_41 ex_41 => ?_)
        refine lv_i2b (v := x_41.toInt8.toInt32) hx hb dX6_putBytes_28 rfl ?_
        refine lv_topi (fun x_42 ex_42 => ?_)
        refine va_bast hx hb hK hP hD hS 1 0 rfl rfl (i_in rfl (by omega) (by omega)) dX6_putBytes_29 (fun H locs hP hD hS => ?_)
        have hP : va_P (dC, dI) vwCl [(h0, .inr (6, [.ref tp, .int x_30, .int fn, .int fp, .ref rd, .ref gd, .ref im, .ref rw, .ref gn, .ref ho, .ref sq])), (tp, .inl (ktp, 1600, .inl (upd f_29 x_30.toNatClampNeg (vp_nar .byte x_42))))] H := hP
        have hD : va_D A [(h0, .inr (6, [.ref tp, .int x_30, .int fn, .int fp, .ref rd, .ref gd, .ref im, .ref rw, .ref gn, .ref ho, .ref sq])), (tp, .inl (ktp, 1600, .inl (upd f_29 x_30.toNatClampNeg (vp_nar .byte x_42))))] := hD
        obtain ⟨f_43, ef_43⟩ : ∃ g, g = upd f_29 x_30.toNatClampNeg (vp_nar .byte x_42) := ⟨_, rfl⟩
        rw [← ef_43] at hP hD
        refine lv_aload_n hx hb dX6_putBytes_30 rfl (lv_at hl 1 rfl) ?_
        refine lv_dup hx hb dX6_putBytes_31 rfl ?_
        refine va_get (D := (dC, dI)) (ci := 6) (v := .int x_30) (C := RX6) (T := TX6) (N := 11) hx hb hts in_X6_putBytes_X6 hown hK hP 0 rfl rfl 1 (by decide) (hts _ wd_X6_putBytes_0) (fun _ h9 => h9) rfl dX6_putBytes_32 ?_
        refine lv_iconst (v := 1) hx hb dX6_putBytes_35 (by decide) ?_
        refine lv_iadd hx hb dX6_putBytes_36 ?_
        refine lv_topi (fun x_44 ex_44 => ?_)
        have zx_44 : x_44.toInt = x_30.toInt + 1 := by rw [ex_44]; exact i_add rfl (by decide) (by omega) (by omega)
        refine va_put (D := (dC, dI)) (ci := 6) (v := .int x_44) (ty := .int) (C := RX6) (T := TX6) (N := 11) hx hb hts in_X6_putBytes_X6 tyX6 tyX6_ok nmX6 hown hK hP hD hS 0 rfl rfl 1 (by decide) (hts _ wd_X6_putBytes_0) (fun _ h9 => h9) rfl (by decide +kernel) rfl rfl (Nat.le_of_ble_eq_true rfl) dX6_putBytes_37 (fun H locs hP hD hS => ?_)
        have hP : va_P (dC, dI) vwCl [(h0, .inr (6, [.ref tp, .int x_44, .int fn, .int fp, .ref rd, .ref gd, .ref im, .ref rw, .ref gn, .ref ho, .ref sq])), (tp, .inl (ktp, 1600, .inl f_43))] H := hP
        have hD : va_D A [(h0, .inr (6, [.ref tp, .int x_44, .int fn, .int fp, .ref rd, .ref gd, .ref im, .ref rw, .ref gn, .ref ho, .ref sq])), (tp, .inl (ktp, 1600, .inl f_43))] := hD
        refine lv_iinc (v := 0) (lv' := [(2, .int 0), (0, .ref h0), (1, .int p0)]) hx hb dX6_putBytes_40 hl (k := 0) rfl (by decide) (by decide) rfl (fun ls hl => ?_)
        refine lv_goto (tgt := 3) hx hb dX6_putBytes_43 (by decide) ?_
        refine lv_iload_n hx hb dX6_putBytes_3 rfl (lv_at hl 0 rfl) ?_
        refine lv_if_lt (tgt := 46) hx hb dX6_putBytes_4 (by decide) (fun h => absurd h (by decide)) (fun _ => ?_)
        refine lv_aload_n hx hb dX6_putBytes_7 rfl (lv_at hl 1 rfl) ?_
        refine va_get (D := (dC, dI)) (ci := 6) (v := .int x_44) (C := RX6) (T := TX6) (N := 11) hx hb hts in_X6_putBytes_X6 hown hK hP 0 rfl rfl 1 (by decide) (hts _ wd_X6_putBytes_0) (fun _ h9 => h9) rfl dX6_putBytes_8 ?_
        refine lv_sipush (v := 1600) hx hb dX6_putBytes_11 (by decide) ?_
        refine lv_icmp_ge (tgt := 40) hx hb dX6_putBytes_14 (by decide) (fun c_46 => ?_) (fun c_46 => ?_)
        · have c_46 : 1600 ≤ x_44.toInt := i_le (a := 1600) (b := x_44) (by decide) rfl c_46
          refine lv_iinc (v := -8) (lv' := [(2, .int (-8)), (0, .ref h0), (1, .int p0)]) hx hb dX6_putBytes_40 hl (k := 0) rfl (by decide) (by decide) rfl (fun ls hl => ?_)
          refine lv_goto (tgt := 3) hx hb dX6_putBytes_43 (by decide) ?_
          refine lv_iload_n hx hb dX6_putBytes_3 rfl (lv_at hl 0 rfl) ?_
          refine lv_if_lt (tgt := 46) hx hb dX6_putBytes_4 (by decide) (fun _ => ?_) (fun h => absurd (by decide) h)
          have hP9 := hP.sub (ws' := [(h0, .inr (6, [.ref tp, .int x_44, .int fn, .int fp, .ref rd, .ref gd, .ref im, .ref rw, .ref gn, .ref ho, .ref sq])), (tp, .inl (ktp, 1600, .inl f_43))]) [0, 1] rfl
          have hD9 := hD.sub (ws' := [(h0, .inr (6, [.ref tp, .int x_44, .int fn, .int fp, .ref rd, .ref gd, .ref im, .ref rw, .ref gn, .ref ho, .ref sq])), (tp, .inl (ktp, 1600, .inl f_43))]) [0, 1] (by decide) rfl
          have hK9 := hK.sub (tys' := []) [] rfl
          refine W.widen (k := 0) (n := 0) (by omega) (by omega) ?_
          exact W.vret hx hb hr (fun t ht hW => ⟨⟨(x_44, f_43), rfl, (by first | rfl | trivial | (dsimp only; omega) | omega | (left; rfl) | (right; rfl) | (dsimp only; first | (left; rfl) | (right; rfl))), by rw [ht]; exact hP9, va_K.moved hW.alike hK9, hD9⟩, hS.F ht⟩) hS.2.2 dX6_putBytes_46
        · have c_46 : x_44.toInt < 1600 := i_nle (a := 1600) (b := x_44) (by decide) rfl c_46
          refine lv_aload_n hx hb dX6_putBytes_17 rfl (lv_at hl 1 rfl) ?_
          refine va_get (D := (dC, dI)) (ci := 6) (v := .ref tp) (C := RX6) (T := TX6) (N := 11) hx hb hts in_X6_putBytes_X6 hown hK hP 0 rfl rfl 0 (by decide) (hts _ wd_X6_putBytes_1) (fun _ h9 => h9) rfl dX6_putBytes_18 ?_
          refine lv_aload_n hx hb dX6_putBytes_21 rfl (lv_at hl 1 rfl) ?_
          refine va_get (D := (dC, dI)) (ci := 6) (v := .int x_44) (C := RX6) (T := TX6) (N := 11) hx hb hts in_X6_putBytes_X6 hown hK hP 0 rfl rfl 1 (by decide) (hts _ wd_X6_putBytes_0) (fun _ h9 => h9) rfl dX6_putBytes_22 ?_
          refine lv_iload_n hx hb dX6_putBytes_25 rfl (lv_at hl 2 rfl) ?_
          refine lv_iload_n hx hb dX6_putBytes_26 rfl (lv_at hl 0 rfl) ?_
          refine lv_ishr hx hb dX6_putBytes_27 ?_
          refine lv_topi (fun x_48 ex_48 => ?_)
          refine lv_i2b (v := x_48.toInt8.toInt32) hx hb dX6_putBytes_28 rfl ?_
          refine lv_topi (fun x_49 ex_49 => ?_)
          refine va_bast hx hb hK hP hD hS 1 0 rfl rfl (i_in rfl (by omega) (by omega)) dX6_putBytes_29 (fun H locs hP hD hS => ?_)
          have hP : va_P (dC, dI) vwCl [(h0, .inr (6, [.ref tp, .int x_44, .int fn, .int fp, .ref rd, .ref gd, .ref im, .ref rw, .ref gn, .ref ho, .ref sq])), (tp, .inl (ktp, 1600, .inl (upd f_43 x_44.toNatClampNeg (vp_nar .byte x_49))))] H := hP
          have hD : va_D A [(h0, .inr (6, [.ref tp, .int x_44, .int fn, .int fp, .ref rd, .ref gd, .ref im, .ref rw, .ref gn, .ref ho, .ref sq])), (tp, .inl (ktp, 1600, .inl (upd f_43 x_44.toNatClampNeg (vp_nar .byte x_49))))] := hD
          obtain ⟨f_50, ef_50⟩ : ∃ g, g = upd f_43 x_44.toNatClampNeg (vp_nar .byte x_49) := ⟨_, rfl⟩
          rw [← ef_50] at hP hD
          refine lv_aload_n hx hb dX6_putBytes_30 rfl (lv_at hl 1 rfl) ?_
          refine lv_dup hx hb dX6_putBytes_31 rfl ?_
          refine va_get (D := (dC, dI)) (ci := 6) (v := .int x_44) (C := RX6) (T := TX6) (N := 11) hx hb hts in_X6_putBytes_X6 hown hK hP 0 rfl rfl 1 (by decide) (hts _ wd_X6_putBytes_0) (fun _ h9 => h9) rfl dX6_putBytes_32 ?_
          refine lv_iconst (v := 1) hx hb dX6_putBytes_35 (by decide) ?_
          refine lv_iadd hx hb dX6_putBytes_36 ?_
          refine lv_topi (fun x_51 ex_51 => ?_)
          have zx_51 : x_51.toInt = x_44.toInt + 1 := by rw [ex_51]; exact i_add rfl (by decide) (by omega) (by omega)
          refine va_put (D := (dC, dI)) (ci := 6) (v := .int x_51) (ty := .int) (C := RX6) (T := TX6) (N := 11) hx hb hts in_X6_putBytes_X6 tyX6 tyX6_ok nmX6 hown hK hP hD hS 0 rfl rfl 1 (by decide) (hts _ wd_X6_putBytes_0) (fun _ h9 => h9) rfl (by decide +kernel) rfl rfl (Nat.le_of_ble_eq_true rfl) dX6_putBytes_37 (fun H locs hP hD hS => ?_)
          have hP : va_P (dC, dI) vwCl [(h0, .inr (6, [.ref tp, .int x_51, .int fn, .int fp, .ref rd, .ref gd, .ref im, .ref rw, .ref gn, .ref ho, .ref sq])), (tp, .inl (ktp, 1600, .inl f_50))] H := hP
          have hD : va_D A [(h0, .inr (6, [.ref tp, .int x_51, .int fn, .int fp, .ref rd, .ref gd, .ref im, .ref rw, .ref gn, .ref ho, .ref sq])), (tp, .inl (ktp, 1600, .inl f_50))] := hD
          refine lv_iinc (v := -8) (lv' := [(2, .int (-8)), (0, .ref h0), (1, .int p0)]) hx hb dX6_putBytes_40 hl (k := 0) rfl (by decide) (by decide) rfl (fun ls hl => ?_)
          refine lv_goto (tgt := 3) hx hb dX6_putBytes_43 (by decide) ?_
          refine lv_iload_n hx hb dX6_putBytes_3 rfl (lv_at hl 0 rfl) ?_
          refine lv_if_lt (tgt := 46) hx hb dX6_putBytes_4 (by decide) (fun _ => ?_) (fun h => absurd (by decide) h)
          have hP9 := hP.sub (ws' := [(h0, .inr (6, [.ref tp, .int x_51, .int fn, .int fp, .ref rd, .ref gd, .ref im, .ref rw, .ref gn, .ref ho, .ref sq])), (tp, .inl (ktp, 1600, .inl f_50))]) [0, 1] rfl
          have hD9 := hD.sub (ws' := [(h0, .inr (6, [.ref tp, .int x_51, .int fn, .int fp, .ref rd, .ref gd, .ref im, .ref rw, .ref gn, .ref ho, .ref sq])), (tp, .inl (ktp, 1600, .inl f_50))]) [0, 1] (by decide) rfl
          have hK9 := hK.sub (tys' := []) [] rfl
          refine W.widen (k := 0) (n := 0) (by omega) (by omega) ?_
          exact W.vret hx hb hr (fun t ht hW => ⟨⟨(x_51, f_50), rfl, (by first | rfl | trivial | (dsimp only; omega) | omega | (left; rfl) | (right; rfl) | (dsimp only; first | (left; rfl) | (right; rfl))), by rw [ht]; exact hP9, va_K.moved hW.alike hK9, hD9⟩, hS.F ht⟩) hS.2.2 dX6_putBytes_46
  · have c_2 : ts.toInt < 1600 := i_nle (a := 1600) (b := ts) (by decide) rfl c_2
    refine lv_aload_n hx hb dX6_putBytes_17 rfl (lv_at hl 1 rfl) ?_
    refine va_get (D := (dC, dI)) (ci := 6) (v := .ref tp) (C := RX6) (T := TX6) (N := 11) hx hb hts in_X6_putBytes_X6 hown hK hP 0 rfl rfl 0 (by decide) (hts _ wd_X6_putBytes_1) (fun _ h9 => h9) rfl dX6_putBytes_18 ?_
    refine lv_aload_n hx hb dX6_putBytes_21 rfl (lv_at hl 1 rfl) ?_
    refine va_get (D := (dC, dI)) (ci := 6) (v := .int ts) (C := RX6) (T := TX6) (N := 11) hx hb hts in_X6_putBytes_X6 hown hK hP 0 rfl rfl 1 (by decide) (hts _ wd_X6_putBytes_0) (fun _ h9 => h9) rfl dX6_putBytes_22 ?_
    refine lv_iload_n hx hb dX6_putBytes_25 rfl (lv_at hl 2 rfl) ?_
    refine lv_iload_n hx hb dX6_putBytes_26 rfl (lv_at hl 0 rfl) ?_
    refine lv_ishr hx hb dX6_putBytes_27 ?_
    refine lv_topi (fun x_53 ex_53 => ?_)
    refine lv_i2b (v := x_53.toInt8.toInt32) hx hb dX6_putBytes_28 rfl ?_
    refine lv_topi (fun x_54 ex_54 => ?_)
    refine va_bast hx hb hK hP hD hS 1 0 rfl rfl (i_in rfl (by omega) (by omega)) dX6_putBytes_29 (fun H locs hP hD hS => ?_)
    have hP : va_P (dC, dI) vwCl [(h0, .inr (6, [.ref tp, .int ts, .int fn, .int fp, .ref rd, .ref gd, .ref im, .ref rw, .ref gn, .ref ho, .ref sq])), (tp, .inl (ktp, 1600, .inl (upd tF ts.toNatClampNeg (vp_nar .byte x_54))))] H := hP
    have hD : va_D A [(h0, .inr (6, [.ref tp, .int ts, .int fn, .int fp, .ref rd, .ref gd, .ref im, .ref rw, .ref gn, .ref ho, .ref sq])), (tp, .inl (ktp, 1600, .inl (upd tF ts.toNatClampNeg (vp_nar .byte x_54))))] := hD
    obtain ⟨f_55, ef_55⟩ : ∃ g, g = upd tF ts.toNatClampNeg (vp_nar .byte x_54) := ⟨_, rfl⟩
    rw [← ef_55] at hP hD
    refine lv_aload_n hx hb dX6_putBytes_30 rfl (lv_at hl 1 rfl) ?_
    refine lv_dup hx hb dX6_putBytes_31 rfl ?_
    refine va_get (D := (dC, dI)) (ci := 6) (v := .int ts) (C := RX6) (T := TX6) (N := 11) hx hb hts in_X6_putBytes_X6 hown hK hP 0 rfl rfl 1 (by decide) (hts _ wd_X6_putBytes_0) (fun _ h9 => h9) rfl dX6_putBytes_32 ?_
    refine lv_iconst (v := 1) hx hb dX6_putBytes_35 (by decide) ?_
    refine lv_iadd hx hb dX6_putBytes_36 ?_
    refine lv_topi (fun x_56 ex_56 => ?_)
    have zx_56 : x_56.toInt = ts.toInt + 1 := by rw [ex_56]; exact i_add rfl (by decide) (by omega) (by omega)
    refine va_put (D := (dC, dI)) (ci := 6) (v := .int x_56) (ty := .int) (C := RX6) (T := TX6) (N := 11) hx hb hts in_X6_putBytes_X6 tyX6 tyX6_ok nmX6 hown hK hP hD hS 0 rfl rfl 1 (by decide) (hts _ wd_X6_putBytes_0) (fun _ h9 => h9) rfl (by decide +kernel) rfl rfl (Nat.le_of_ble_eq_true rfl) dX6_putBytes_37 (fun H locs hP hD hS => ?_)
    have hP : va_P (dC, dI) vwCl [(h0, .inr (6, [.ref tp, .int x_56, .int fn, .int fp, .ref rd, .ref gd, .ref im, .ref rw, .ref gn, .ref ho, .ref sq])), (tp, .inl (ktp, 1600, .inl f_55))] H := hP
    have hD : va_D A [(h0, .inr (6, [.ref tp, .int x_56, .int fn, .int fp, .ref rd, .ref gd, .ref im, .ref rw, .ref gn, .ref ho, .ref sq])), (tp, .inl (ktp, 1600, .inl f_55))] := hD
    refine lv_iinc (v := 16) (lv' := [(2, .int 16), (0, .ref h0), (1, .int p0)]) hx hb dX6_putBytes_40 hl (k := 0) rfl (by decide) (by decide) rfl (fun ls hl => ?_)
    refine lv_goto (tgt := 3) hx hb dX6_putBytes_43 (by decide) ?_
    refine lv_iload_n hx hb dX6_putBytes_3 rfl (lv_at hl 0 rfl) ?_
    refine lv_if_lt (tgt := 46) hx hb dX6_putBytes_4 (by decide) (fun h => absurd h (by decide)) (fun _ => ?_)
    refine lv_aload_n hx hb dX6_putBytes_7 rfl (lv_at hl 1 rfl) ?_
    refine va_get (D := (dC, dI)) (ci := 6) (v := .int x_56) (C := RX6) (T := TX6) (N := 11) hx hb hts in_X6_putBytes_X6 hown hK hP 0 rfl rfl 1 (by decide) (hts _ wd_X6_putBytes_0) (fun _ h9 => h9) rfl dX6_putBytes_8 ?_
    refine lv_sipush (v := 1600) hx hb dX6_putBytes_11 (by decide) ?_
    refine lv_icmp_ge (tgt := 40) hx hb dX6_putBytes_14 (by decide) (fun c_58 => ?_) (fun c_58 => ?_)
    · have c_58 : 1600 ≤ x_56.toInt := i_le (a := 1600) (b := x_56) (by decide) rfl c_58
      refine lv_iinc (v := 8) (lv' := [(2, .int 8), (0, .ref h0), (1, .int p0)]) hx hb dX6_putBytes_40 hl (k := 0) rfl (by decide) (by decide) rfl (fun ls hl => ?_)
      refine lv_goto (tgt := 3) hx hb dX6_putBytes_43 (by decide) ?_
      refine lv_iload_n hx hb dX6_putBytes_3 rfl (lv_at hl 0 rfl) ?_
      refine lv_if_lt (tgt := 46) hx hb dX6_putBytes_4 (by decide) (fun h => absurd h (by decide)) (fun _ => ?_)
      refine lv_aload_n hx hb dX6_putBytes_7 rfl (lv_at hl 1 rfl) ?_
      refine va_get (D := (dC, dI)) (ci := 6) (v := .int x_56) (C := RX6) (T := TX6) (N := 11) hx hb hts in_X6_putBytes_X6 hown hK hP 0 rfl rfl 1 (by decide) (hts _ wd_X6_putBytes_0) (fun _ h9 => h9) rfl dX6_putBytes_8 ?_
      refine lv_sipush (v := 1600) hx hb dX6_putBytes_11 (by decide) ?_
      refine lv_icmp_ge (tgt := 40) hx hb dX6_putBytes_14 (by decide) (fun c_60 => ?_) (fun c_60 => ?_)
      · have c_60 : 1600 ≤ x_56.toInt := i_le (a := 1600) (b := x_56) (by decide) rfl c_60
        refine lv_iinc (v := 0) (lv' := [(2, .int 0), (0, .ref h0), (1, .int p0)]) hx hb dX6_putBytes_40 hl (k := 0) rfl (by decide) (by decide) rfl (fun ls hl => ?_)
        refine lv_goto (tgt := 3) hx hb dX6_putBytes_43 (by decide) ?_
        refine lv_iload_n hx hb dX6_putBytes_3 rfl (lv_at hl 0 rfl) ?_
        refine lv_if_lt (tgt := 46) hx hb dX6_putBytes_4 (by decide) (fun h => absurd h (by decide)) (fun _ => ?_)
        refine lv_aload_n hx hb dX6_putBytes_7 rfl (lv_at hl 1 rfl) ?_
        refine va_get (D := (dC, dI)) (ci := 6) (v := .int x_56) (C := RX6) (T := TX6) (N := 11) hx hb hts in_X6_putBytes_X6 hown hK hP 0 rfl rfl 1 (by decide) (hts _ wd_X6_putBytes_0) (fun _ h9 => h9) rfl dX6_putBytes_8 ?_
        refine lv_sipush (v := 1600) hx hb dX6_putBytes_11 (by decide) ?_
        refine lv_icmp_ge (tgt := 40) hx hb dX6_putBytes_14 (by decide) (fun c_62 => ?_) (fun c_62 => ?_)
        · have c_62 : 1600 ≤ x_56.toInt := i_le (a := 1600) (b := x_56) (by decide) rfl c_62
          refine lv_iinc (v := -8) (lv' := [(2, .int (-8)), (0, .ref h0), (1, .int p0)]) hx hb dX6_putBytes_40 hl (k := 0) rfl (by decide) (by decide) rfl (fun ls hl => ?_)
          refine lv_goto (tgt := 3) hx hb dX6_putBytes_43 (by decide) ?_
          refine lv_iload_n hx hb dX6_putBytes_3 rfl (lv_at hl 0 rfl) ?_
          refine lv_if_lt (tgt := 46) hx hb dX6_putBytes_4 (by decide) (fun _ => ?_) (fun h => absurd (by decide) h)
          have hP9 := hP.sub (ws' := [(h0, .inr (6, [.ref tp, .int x_56, .int fn, .int fp, .ref rd, .ref gd, .ref im, .ref rw, .ref gn, .ref ho, .ref sq])), (tp, .inl (ktp, 1600, .inl f_55))]) [0, 1] rfl
          have hD9 := hD.sub (ws' := [(h0, .inr (6, [.ref tp, .int x_56, .int fn, .int fp, .ref rd, .ref gd, .ref im, .ref rw, .ref gn, .ref ho, .ref sq])), (tp, .inl (ktp, 1600, .inl f_55))]) [0, 1] (by decide) rfl
          have hK9 := hK.sub (tys' := []) [] rfl
          refine W.widen (k := 0) (n := 0) (by omega) (by omega) ?_
          exact W.vret hx hb hr (fun t ht hW => ⟨⟨(x_56, f_55), rfl, (by first | rfl | trivial | (dsimp only; omega) | omega | (left; rfl) | (right; rfl) | (dsimp only; first | (left; rfl) | (right; rfl))), by rw [ht]; exact hP9, va_K.moved hW.alike hK9, hD9⟩, hS.F ht⟩) hS.2.2 dX6_putBytes_46
        · have c_62 : x_56.toInt < 1600 := i_nle (a := 1600) (b := x_56) (by decide) rfl c_62
          refine lv_aload_n hx hb dX6_putBytes_17 rfl (lv_at hl 1 rfl) ?_
          refine va_get (D := (dC, dI)) (ci := 6) (v := .ref tp) (C := RX6) (T := TX6) (N := 11) hx hb hts in_X6_putBytes_X6 hown hK hP 0 rfl rfl 0 (by decide) (hts _ wd_X6_putBytes_1) (fun _ h9 => h9) rfl dX6_putBytes_18 ?_
          refine lv_aload_n hx hb dX6_putBytes_21 rfl (lv_at hl 1 rfl) ?_
          refine va_get (D := (dC, dI)) (ci := 6) (v := .int x_56) (C := RX6) (T := TX6) (N := 11) hx hb hts in_X6_putBytes_X6 hown hK hP 0 rfl rfl 1 (by decide) (hts _ wd_X6_putBytes_0) (fun _ h9 => h9) rfl dX6_putBytes_22 ?_
          refine lv_iload_n hx hb dX6_putBytes_25 rfl (lv_at hl 2 rfl) ?_
          refine lv_iload_n hx hb dX6_putBytes_26 rfl (lv_at hl 0 rfl) ?_
          refine lv_ishr hx hb dX6_putBytes_27 ?_
          refine lv_topi (fun x_64 ex_64 => ?_)
          refine lv_i2b (v := x_64.toInt8.toInt32) hx hb dX6_putBytes_28 rfl ?_
          refine lv_topi (fun x_65 ex_65 => ?_)
          refine va_bast hx hb hK hP hD hS 1 0 rfl rfl (i_in rfl (by omega) (by omega)) dX6_putBytes_29 (fun H locs hP hD hS => ?_)
          have hP : va_P (dC, dI) vwCl [(h0, .inr (6, [.ref tp, .int x_56, .int fn, .int fp, .ref rd, .ref gd, .ref im, .ref rw, .ref gn, .ref ho, .ref sq])), (tp, .inl (ktp, 1600, .inl (upd f_55 x_56.toNatClampNeg (vp_nar .byte x_65))))] H := hP
          have hD : va_D A [(h0, .inr (6, [.ref tp, .int x_56, .int fn, .int fp, .ref rd, .ref gd, .ref im, .ref rw, .ref gn, .ref ho, .ref sq])), (tp, .inl (ktp, 1600, .inl (upd f_55 x_56.toNatClampNeg (vp_nar .byte x_65))))] := hD
          obtain ⟨f_66, ef_66⟩ : ∃ g, g = upd f_55 x_56.toNatClampNeg (vp_nar .byte x_65) := ⟨_, rfl⟩
          rw [← ef_66] at hP hD
          refine lv_aload_n hx hb dX6_putBytes_30 rfl (lv_at hl 1 rfl) ?_
          refine lv_dup hx hb dX6_putBytes_31 rfl ?_
          refine va_get (D := (dC, dI)) (ci := 6) (v := .int x_56) (C := RX6) (T := TX6) (N := 11) hx hb hts in_X6_putBytes_X6 hown hK hP 0 rfl rfl 1 (by decide) (hts _ wd_X6_putBytes_0) (fun _ h9 => h9) rfl dX6_putBytes_32 ?_
          refine lv_iconst (v := 1) hx hb dX6_putBytes_35 (by decide) ?_
          refine lv_iadd hx hb dX6_putBytes_36 ?_
          refine lv_topi (fun x_67 ex_67 => ?_)
          have zx_67 : x_67.toInt = x_56.toInt + 1 := by rw [ex_67]; exact i_add rfl (by decide) (by omega) (by omega)
          refine va_put (D := (dC, dI)) (ci := 6) (v := .int x_67) (ty := .int) (C := RX6) (T := TX6) (N := 11) hx hb hts in_X6_putBytes_X6 tyX6 tyX6_ok nmX6 hown hK hP hD hS 0 rfl rfl 1 (by decide) (hts _ wd_X6_putBytes_0) (fun _ h9 => h9) rfl (by decide +kernel) rfl rfl (Nat.le_of_ble_eq_true rfl) dX6_putBytes_37 (fun H locs hP hD hS => ?_)
          have hP : va_P (dC, dI) vwCl [(h0, .inr (6, [.ref tp, .int x_67, .int fn, .int fp, .ref rd, .ref gd, .ref im, .ref rw, .ref gn, .ref ho, .ref sq])), (tp, .inl (ktp, 1600, .inl f_66))] H := hP
          have hD : va_D A [(h0, .inr (6, [.ref tp, .int x_67, .int fn, .int fp, .ref rd, .ref gd, .ref im, .ref rw, .ref gn, .ref ho, .ref sq])), (tp, .inl (ktp, 1600, .inl f_66))] := hD
          refine lv_iinc (v := -8) (lv' := [(2, .int (-8)), (0, .ref h0), (1, .int p0)]) hx hb dX6_putBytes_40 hl (k := 0) rfl (by decide) (by decide) rfl (fun ls hl => ?_)
          refine lv_goto (tgt := 3) hx hb dX6_putBytes_43 (by decide) ?_
          refine lv_iload_n hx hb dX6_putBytes_3 rfl (lv_at hl 0 rfl) ?_
          refine lv_if_lt (tgt := 46) hx hb dX6_putBytes_4 (by decide) (fun _ => ?_) (fun h => absurd (by decide) h)
          have hP9 := hP.sub (ws' := [(h0, .inr (6, [.ref tp, .int x_67, .int fn, .int fp, .ref rd, .ref gd, .ref im, .ref rw, .ref gn, .ref ho, .ref sq])), (tp, .inl (ktp, 1600, .inl f_66))]) [0, 1] rfl
          have hD9 := hD.sub (ws' := [(h0, .inr (6, [.ref tp, .int x_67, .int fn, .int fp, .ref rd, .ref gd, .ref im, .ref rw, .ref gn, .ref ho, .ref sq])), (tp, .inl (ktp, 1600, .inl f_66))]) [0, 1] (by decide) rfl
          have hK9 := hK.sub (tys' := []) [] rfl
          refine W.widen (k := 0) (n := 0) (by omega) (by omega) ?_
          exact W.vret hx hb hr (fun t ht hW => ⟨⟨(x_67, f_66), rfl, (by first | rfl | trivial | (dsimp only; omega) | omega | (left; rfl) | (right; rfl) | (dsimp only; first | (left; rfl) | (right; rfl))), by rw [ht]; exact hP9, va_K.moved hW.alike hK9, hD9⟩, hS.F ht⟩) hS.2.2 dX6_putBytes_46
      · have c_60 : x_56.toInt < 1600 := i_nle (a := 1600) (b := x_56) (by decide) rfl c_60
        refine lv_aload_n hx hb dX6_putBytes_17 rfl (lv_at hl 1 rfl) ?_
        refine va_get (D := (dC, dI)) (ci := 6) (v := .ref tp) (C := RX6) (T := TX6) (N := 11) hx hb hts in_X6_putBytes_X6 hown hK hP 0 rfl rfl 0 (by decide) (hts _ wd_X6_putBytes_1) (fun _ h9 => h9) rfl dX6_putBytes_18 ?_
        refine lv_aload_n hx hb dX6_putBytes_21 rfl (lv_at hl 1 rfl) ?_
        refine va_get (D := (dC, dI)) (ci := 6) (v := .int x_56) (C := RX6) (T := TX6) (N := 11) hx hb hts in_X6_putBytes_X6 hown hK hP 0 rfl rfl 1 (by decide) (hts _ wd_X6_putBytes_0) (fun _ h9 => h9) rfl dX6_putBytes_22 ?_
        refine lv_iload_n hx hb dX6_putBytes_25 rfl (lv_at hl 2 rfl) ?_
        refine lv_iload_n hx hb dX6_putBytes_26 rfl (lv_at hl 0 rfl) ?_
        refine lv_ishr hx hb dX6_putBytes_27 ?_
        refine lv_topi (fun x_69 ex_69 => ?_)
        refine lv_i2b (v := x_69.toInt8.toInt32) hx hb dX6_putBytes_28 rfl ?_
        refine lv_topi (fun x_70 ex_70 => ?_)
        refine va_bast hx hb hK hP hD hS 1 0 rfl rfl (i_in rfl (by omega) (by omega)) dX6_putBytes_29 (fun H locs hP hD hS => ?_)
        have hP : va_P (dC, dI) vwCl [(h0, .inr (6, [.ref tp, .int x_56, .int fn, .int fp, .ref rd, .ref gd, .ref im, .ref rw, .ref gn, .ref ho, .ref sq])), (tp, .inl (ktp, 1600, .inl (upd f_55 x_56.toNatClampNeg (vp_nar .byte x_70))))] H := hP
        have hD : va_D A [(h0, .inr (6, [.ref tp, .int x_56, .int fn, .int fp, .ref rd, .ref gd, .ref im, .ref rw, .ref gn, .ref ho, .ref sq])), (tp, .inl (ktp, 1600, .inl (upd f_55 x_56.toNatClampNeg (vp_nar .byte x_70))))] := hD
        obtain ⟨f_71, ef_71⟩ : ∃ g, g = upd f_55 x_56.toNatClampNeg (vp_nar .byte x_70) := ⟨_, rfl⟩
        rw [← ef_71] at hP hD
        refine lv_aload_n hx hb dX6_putBytes_30 rfl (lv_at hl 1 rfl) ?_
        refine lv_dup hx hb dX6_putBytes_31 rfl ?_
        refine va_get (D := (dC, dI)) (ci := 6) (v := .int x_56) (C := RX6) (T := TX6) (N := 11) hx hb hts in_X6_putBytes_X6 hown hK hP 0 rfl rfl 1 (by decide) (hts _ wd_X6_putBytes_0) (fun _ h9 => h9) rfl dX6_putBytes_32 ?_
        refine lv_iconst (v := 1) hx hb dX6_putBytes_35 (by decide) ?_
        refine lv_iadd hx hb dX6_putBytes_36 ?_
        refine lv_topi (fun x_72 ex_72 => ?_)
        have zx_72 : x_72.toInt = x_56.toInt + 1 := by rw [ex_72]; exact i_add rfl (by decide) (by omega) (by omega)
        refine va_put (D := (dC, dI)) (ci := 6) (v := .int x_72) (ty := .int) (C := RX6) (T := TX6) (N := 11) hx hb hts in_X6_putBytes_X6 tyX6 tyX6_ok nmX6 hown hK hP hD hS 0 rfl rfl 1 (by decide) (hts _ wd_X6_putBytes_0) (fun _ h9 => h9) rfl (by decide +kernel) rfl rfl (Nat.le_of_ble_eq_true rfl) dX6_putBytes_37 (fun H locs hP hD hS => ?_)
        have hP : va_P (dC, dI) vwCl [(h0, .inr (6, [.ref tp, .int x_72, .int fn, .int fp, .ref rd, .ref gd, .ref im, .ref rw, .ref gn, .ref ho, .ref sq])), (tp, .inl (ktp, 1600, .inl f_71))] H := hP
        have hD : va_D A [(h0, .inr (6, [.ref tp, .int x_72, .int fn, .int fp, .ref rd, .ref gd, .ref im, .ref rw, .ref gn, .ref ho, .ref sq])), (tp, .inl (ktp, 1600, .inl f_71))] := hD
        refine lv_iinc (v := 0) (lv' := [(2, .int 0), (0, .ref h0), (1, .int p0)]) hx hb dX6_putBytes_40 hl (k := 0) rfl (by decide) (by decide) rfl (fun ls hl => ?_)
        refine lv_goto (tgt := 3) hx hb dX6_putBytes_43 (by decide) ?_
        refine lv_iload_n hx hb dX6_putBytes_3 rfl (lv_at hl 0 rfl) ?_
        refine lv_if_lt (tgt := 46) hx hb dX6_putBytes_4 (by decide) (fun h => absurd h (by decide)) (fun _ => ?_)
        refine lv_aload_n hx hb dX6_putBytes_7 rfl (lv_at hl 1 rfl) ?_
        refine va_get (D := (dC, dI)) (ci := 6) (v := .int x_72) (C := RX6) (T := TX6) (N := 11) hx hb hts in_X6_putBytes_X6 hown hK hP 0 rfl rfl 1 (by decide) (hts _ wd_X6_putBytes_0) (fun _ h9 => h9) rfl dX6_putBytes_8 ?_
        refine lv_sipush (v := 1600) hx hb dX6_putBytes_11 (by decide) ?_
        refine lv_icmp_ge (tgt := 40) hx hb dX6_putBytes_14 (by decide) (fun c_74 => ?_) (fun c_74 => ?_)
        · have c_74 : 1600 ≤ x_72.toInt := i_le (a := 1600) (b := x_72) (by decide) rfl c_74
          refine lv_iinc (v := -8) (lv' := [(2, .int (-8)), (0, .ref h0), (1, .int p0)]) hx hb dX6_putBytes_40 hl (k := 0) rfl (by decide) (by decide) rfl (fun ls hl => ?_)
          refine lv_goto (tgt := 3) hx hb dX6_putBytes_43 (by decide) ?_
          refine lv_iload_n hx hb dX6_putBytes_3 rfl (lv_at hl 0 rfl) ?_
          refine lv_if_lt (tgt := 46) hx hb dX6_putBytes_4 (by decide) (fun _ => ?_) (fun h => absurd (by decide) h)
          have hP9 := hP.sub (ws' := [(h0, .inr (6, [.ref tp, .int x_72, .int fn, .int fp, .ref rd, .ref gd, .ref im, .ref rw, .ref gn, .ref ho, .ref sq])), (tp, .inl (ktp, 1600, .inl f_71))]) [0, 1] rfl
          have hD9 := hD.sub (ws' := [(h0, .inr (6, [.ref tp, .int x_72, .int fn, .int fp, .ref rd, .ref gd, .ref im, .ref rw, .ref gn, .ref ho, .ref sq])), (tp, .inl (ktp, 1600, .inl f_71))]) [0, 1] (by decide) rfl
          have hK9 := hK.sub (tys' := []) [] rfl
          refine W.widen (k := 0) (n := 0) (by omega) (by omega) ?_
          exact W.vret hx hb hr (fun t ht hW => ⟨⟨(x_72, f_71), rfl, (by first | rfl | trivial | (dsimp only; omega) | omega | (left; rfl) | (right; rfl) | (dsimp only; first | (left; rfl) | (right; rfl))), by rw [ht]; exact hP9, va_K.moved hW.alike hK9, hD9⟩, hS.F ht⟩) hS.2.2 dX6_putBytes_46
        · have c_74 : x_72.toInt < 1600 := i_nle (a := 1600) (b := x_72) (by decide) rfl c_74
          refine lv_aload_n hx hb dX6_putBytes_17 rfl (lv_at hl 1 rfl) ?_
          refine va_get (D := (dC, dI)) (ci := 6) (v := .ref tp) (C := RX6) (T := TX6) (N := 11) hx hb hts in_X6_putBytes_X6 hown hK hP 0 rfl rfl 0 (by decide) (hts _ wd_X6_putBytes_1) (fun _ h9 => h9) rfl dX6_putBytes_18 ?_
          refine lv_aload_n hx hb dX6_putBytes_21 rfl (lv_at hl 1 rfl) ?_
          refine va_get (D := (dC, dI)) (ci := 6) (v := .int x_72) (C := RX6) (T := TX6) (N := 11) hx hb hts in_X6_putBytes_X6 hown hK hP 0 rfl rfl 1 (by decide) (hts _ wd_X6_putBytes_0) (fun _ h9 => h9) rfl dX6_putBytes_22 ?_
          refine lv_iload_n hx hb dX6_putBytes_25 rfl (lv_at hl 2 rfl) ?_
          refine lv_iload_n hx hb dX6_putBytes_26 rfl (lv_at hl 0 rfl) ?_
          refine lv_ishr hx hb dX6_putBytes_27 ?_
          refine lv_topi (fun x_76 ex_76 => ?_)
          refine lv_i2b (v := x_76.toInt8.toInt32) hx hb dX6_putBytes_28 rfl ?_
          refine lv_topi (fun x_77 ex_77 => ?_)
          refine va_bast hx hb hK hP hD hS 1 0 rfl rfl (i_in rfl (by omega) (by omega)) dX6_putBytes_29 (fun H locs hP hD hS => ?_)
          have hP : va_P (dC, dI) vwCl [(h0, .inr (6, [.ref tp, .int x_72, .int fn, .int fp, .ref rd, .ref gd, .ref im, .ref rw, .ref gn, .ref ho, .ref sq])), (tp, .inl (ktp, 1600, .inl (upd f_71 x_72.toNatClampNeg (vp_nar .byte x_77))))] H := hP
          have hD : va_D A [(h0, .inr (6, [.ref tp, .int x_72, .int fn, .int fp, .ref rd, .ref gd, .ref im, .ref rw, .ref gn, .ref ho, .ref sq])), (tp, .inl (ktp, 1600, .inl (upd f_71 x_72.toNatClampNeg (vp_nar .byte x_77))))] := hD
          obtain ⟨f_78, ef_78⟩ : ∃ g, g = upd f_71 x_72.toNatClampNeg (vp_nar .byte x_77) := ⟨_, rfl⟩
          rw [← ef_78] at hP hD
          refine lv_aload_n hx hb dX6_putBytes_30 rfl (lv_at hl 1 rfl) ?_
          refine lv_dup hx hb dX6_putBytes_31 rfl ?_
          refine va_get (D := (dC, dI)) (ci := 6) (v := .int x_72) (C := RX6) (T := TX6) (N := 11) hx hb hts in_X6_putBytes_X6 hown hK hP 0 rfl rfl 1 (by decide) (hts _ wd_X6_putBytes_0) (fun _ h9 => h9) rfl dX6_putBytes_32 ?_
          refine lv_iconst (v := 1) hx hb dX6_putBytes_35 (by decide) ?_
          refine lv_iadd hx hb dX6_putBytes_36 ?_
          refine lv_topi (fun x_79 ex_79 => ?_)
          have zx_79 : x_79.toInt = x_72.toInt + 1 := by rw [ex_79]; exact i_add rfl (by decide) (by omega) (by omega)
          refine va_put (D := (dC, dI)) (ci := 6) (v := .int x_79) (ty := .int) (C := RX6) (T := TX6) (N := 11) hx hb hts in_X6_putBytes_X6 tyX6 tyX6_ok nmX6 hown hK hP hD hS 0 rfl rfl 1 (by decide) (hts _ wd_X6_putBytes_0) (fun _ h9 => h9) rfl (by decide +kernel) rfl rfl (Nat.le_of_ble_eq_true rfl) dX6_putBytes_37 (fun H locs hP hD hS => ?_)
          have hP : va_P (dC, dI) vwCl [(h0, .inr (6, [.ref tp, .int x_79, .int fn, .int fp, .ref rd, .ref gd, .ref im, .ref rw, .ref gn, .ref ho, .ref sq])), (tp, .inl (ktp, 1600, .inl f_78))] H := hP
          have hD : va_D A [(h0, .inr (6, [.ref tp, .int x_79, .int fn, .int fp, .ref rd, .ref gd, .ref im, .ref rw, .ref gn, .ref ho, .ref sq])), (tp, .inl (ktp, 1600, .inl f_78))] := hD
          refine lv_iinc (v := -8) (lv' := [(2, .int (-8)), (0, .ref h0), (1, .int p0)]) hx hb dX6_putBytes_40 hl (k := 0) rfl (by decide) (by decide) rfl (fun ls hl => ?_)
          refine lv_goto (tgt := 3) hx hb dX6_putBytes_43 (by decide) ?_
          refine lv_iload_n hx hb dX6_putBytes_3 rfl (lv_at hl 0 rfl) ?_
          refine lv_if_lt (tgt := 46) hx hb dX6_putBytes_4 (by decide) (fun _ => ?_) (fun h => absurd (by decide) h)
          have hP9 := hP.sub (ws' := [(h0, .inr (6, [.ref tp, .int x_79, .int fn, .int fp, .ref rd, .ref gd, .ref im, .ref rw, .ref gn, .ref ho, .ref sq])), (tp, .inl (ktp, 1600, .inl f_78))]) [0, 1] rfl
          have hD9 := hD.sub (ws' := [(h0, .inr (6, [.ref tp, .int x_79, .int fn, .int fp, .ref rd, .ref gd, .ref im, .ref rw, .ref gn, .ref ho, .ref sq])), (tp, .inl (ktp, 1600, .inl f_78))]) [0, 1] (by decide) rfl
          have hK9 := hK.sub (tys' := []) [] rfl
          refine W.widen (k := 0) (n := 0) (by omega) (by omega) ?_
          exact W.vret hx hb hr (fun t ht hW => ⟨⟨(x_79, f_78), rfl, (by first | rfl | trivial | (dsimp only; omega) | omega | (left; rfl) | (right; rfl) | (dsimp only; first | (left; rfl) | (right; rfl))), by rw [ht]; exact hP9, va_K.moved hW.alike hK9, hD9⟩, hS.F ht⟩) hS.2.2 dX6_putBytes_46
    · have c_58 : x_56.toInt < 1600 := i_nle (a := 1600) (b := x_56) (by decide) rfl c_58
      refine lv_aload_n hx hb dX6_putBytes_17 rfl (lv_at hl 1 rfl) ?_
      refine va_get (D := (dC, dI)) (ci := 6) (v := .ref tp) (C := RX6) (T := TX6) (N := 11) hx hb hts in_X6_putBytes_X6 hown hK hP 0 rfl rfl 0 (by decide) (hts _ wd_X6_putBytes_1) (fun _ h9 => h9) rfl dX6_putBytes_18 ?_
      refine lv_aload_n hx hb dX6_putBytes_21 rfl (lv_at hl 1 rfl) ?_
      refine va_get (D := (dC, dI)) (ci := 6) (v := .int x_56) (C := RX6) (T := TX6) (N := 11) hx hb hts in_X6_putBytes_X6 hown hK hP 0 rfl rfl 1 (by decide) (hts _ wd_X6_putBytes_0) (fun _ h9 => h9) rfl dX6_putBytes_22 ?_
      refine lv_iload_n hx hb dX6_putBytes_25 rfl (lv_at hl 2 rfl) ?_
      refine lv_iload_n hx hb dX6_putBytes_26 rfl (lv_at hl 0 rfl) ?_
      refine lv_ishr hx hb dX6_putBytes_27 ?_
      refine lv_topi (fun x_81 ex_81 => ?_)
      refine lv_i2b (v := x_81.toInt8.toInt32) hx hb dX6_putBytes_28 rfl ?_
      refine lv_topi (fun x_82 ex_82 => ?_)
      refine va_bast hx hb hK hP hD hS 1 0 rfl rfl (i_in rfl (by omega) (by omega)) dX6_putBytes_29 (fun H locs hP hD hS => ?_)
      have hP : va_P (dC, dI) vwCl [(h0, .inr (6, [.ref tp, .int x_56, .int fn, .int fp, .ref rd, .ref gd, .ref im, .ref rw, .ref gn, .ref ho, .ref sq])), (tp, .inl (ktp, 1600, .inl (upd f_55 x_56.toNatClampNeg (vp_nar .byte x_82))))] H := hP
      have hD : va_D A [(h0, .inr (6, [.ref tp, .int x_56, .int fn, .int fp, .ref rd, .ref gd, .ref im, .ref rw, .ref gn, .ref ho, .ref sq])), (tp, .inl (ktp, 1600, .inl (upd f_55 x_56.toNatClampNeg (vp_nar .byte x_82))))] := hD
      obtain ⟨f_83, ef_83⟩ : ∃ g, g = upd f_55 x_56.toNatClampNeg (vp_nar .byte x_82) := ⟨_, rfl⟩
      rw [← ef_83] at hP hD
      refine lv_aload_n hx hb dX6_putBytes_30 rfl (lv_at hl 1 rfl) ?_
      refine lv_dup hx hb dX6_putBytes_31 rfl ?_
      refine va_get (D := (dC, dI)) (ci := 6) (v := .int x_56) (C := RX6) (T := TX6) (N := 11) hx hb hts in_X6_putBytes_X6 hown hK hP 0 rfl rfl 1 (by decide) (hts _ wd_X6_putBytes_0) (fun _ h9 => h9) rfl dX6_putBytes_32 ?_
      refine lv_iconst (v := 1) hx hb dX6_putBytes_35 (by decide) ?_
      refine lv_iadd hx hb dX6_putBytes_36 ?_
      refine lv_topi (fun x_84 ex_84 => ?_)
      have zx_84 : x_84.toInt = x_56.toInt + 1 := by rw [ex_84]; exact i_add rfl (by decide) (by omega) (by omega)
      refine va_put (D := (dC, dI)) (ci := 6) (v := .int x_84) (ty := .int) (C := RX6) (T := TX6) (N := 11) hx hb hts in_X6_putBytes_X6 tyX6 tyX6_ok nmX6 hown hK hP hD hS 0 rfl rfl 1 (by decide) (hts _ wd_X6_putBytes_0) (fun _ h9 => h9) rfl (by decide +kernel) rfl rfl (Nat.le_of_ble_eq_true rfl) dX6_putBytes_37 (fun H locs hP hD hS => ?_)
      have hP : va_P (dC, dI) vwCl [(h0, .inr (6, [.ref tp, .int x_84, .int fn, .int fp, .ref rd, .ref gd, .ref im, .ref rw, .ref gn, .ref ho, .ref sq])), (tp, .inl (ktp, 1600, .inl f_83))] H := hP
      have hD : va_D A [(h0, .inr (6, [.ref tp, .int x_84, .int fn, .int fp, .ref rd, .ref gd, .ref im, .ref rw, .ref gn, .ref ho, .ref sq])), (tp, .inl (ktp, 1600, .inl f_83))] := hD
      refine lv_iinc (v := 8) (lv' := [(2, .int 8), (0, .ref h0), (1, .int p0)]) hx hb dX6_putBytes_40 hl (k := 0) rfl (by decide) (by decide) rfl (fun ls hl => ?_)
      refine lv_goto (tgt := 3) hx hb dX6_putBytes_43 (by decide) ?_
      refine lv_iload_n hx hb dX6_putBytes_3 rfl (lv_at hl 0 rfl) ?_
      refine lv_if_lt (tgt := 46) hx hb dX6_putBytes_4 (by decide) (fun h => absurd h (by decide)) (fun _ => ?_)
      refine lv_aload_n hx hb dX6_putBytes_7 rfl (lv_at hl 1 rfl) ?_
      refine va_get (D := (dC, dI)) (ci := 6) (v := .int x_84) (C := RX6) (T := TX6) (N := 11) hx hb hts in_X6_putBytes_X6 hown hK hP 0 rfl rfl 1 (by decide) (hts _ wd_X6_putBytes_0) (fun _ h9 => h9) rfl dX6_putBytes_8 ?_
      refine lv_sipush (v := 1600) hx hb dX6_putBytes_11 (by decide) ?_
      refine lv_icmp_ge (tgt := 40) hx hb dX6_putBytes_14 (by decide) (fun c_86 => ?_) (fun c_86 => ?_)
      · have c_86 : 1600 ≤ x_84.toInt := i_le (a := 1600) (b := x_84) (by decide) rfl c_86
        refine lv_iinc (v := 0) (lv' := [(2, .int 0), (0, .ref h0), (1, .int p0)]) hx hb dX6_putBytes_40 hl (k := 0) rfl (by decide) (by decide) rfl (fun ls hl => ?_)
        refine lv_goto (tgt := 3) hx hb dX6_putBytes_43 (by decide) ?_
        refine lv_iload_n hx hb dX6_putBytes_3 rfl (lv_at hl 0 rfl) ?_
        refine lv_if_lt (tgt := 46) hx hb dX6_putBytes_4 (by decide) (fun h => absurd h (by decide)) (fun _ => ?_)
        refine lv_aload_n hx hb dX6_putBytes_7 rfl (lv_at hl 1 rfl) ?_
        refine va_get (D := (dC, dI)) (ci := 6) (v := .int x_84) (C := RX6) (T := TX6) (N := 11) hx hb hts in_X6_putBytes_X6 hown hK hP 0 rfl rfl 1 (by decide) (hts _ wd_X6_putBytes_0) (fun _ h9 => h9) rfl dX6_putBytes_8 ?_
        refine lv_sipush (v := 1600) hx hb dX6_putBytes_11 (by decide) ?_
        refine lv_icmp_ge (tgt := 40) hx hb dX6_putBytes_14 (by decide) (fun c_88 => ?_) (fun c_88 => ?_)
        · have c_88 : 1600 ≤ x_84.toInt := i_le (a := 1600) (b := x_84) (by decide) rfl c_88
          refine lv_iinc (v := -8) (lv' := [(2, .int (-8)), (0, .ref h0), (1, .int p0)]) hx hb dX6_putBytes_40 hl (k := 0) rfl (by decide) (by decide) rfl (fun ls hl => ?_)
          refine lv_goto (tgt := 3) hx hb dX6_putBytes_43 (by decide) ?_
          refine lv_iload_n hx hb dX6_putBytes_3 rfl (lv_at hl 0 rfl) ?_
          refine lv_if_lt (tgt := 46) hx hb dX6_putBytes_4 (by decide) (fun _ => ?_) (fun h => absurd (by decide) h)
          have hP9 := hP.sub (ws' := [(h0, .inr (6, [.ref tp, .int x_84, .int fn, .int fp, .ref rd, .ref gd, .ref im, .ref rw, .ref gn, .ref ho, .ref sq])), (tp, .inl (ktp, 1600, .inl f_83))]) [0, 1] rfl
          have hD9 := hD.sub (ws' := [(h0, .inr (6, [.ref tp, .int x_84, .int fn, .int fp, .ref rd, .ref gd, .ref im, .ref rw, .ref gn, .ref ho, .ref sq])), (tp, .inl (ktp, 1600, .inl f_83))]) [0, 1] (by decide) rfl
          have hK9 := hK.sub (tys' := []) [] rfl
          refine W.widen (k := 0) (n := 0) (by omega) (by omega) ?_
          exact W.vret hx hb hr (fun t ht hW => ⟨⟨(x_84, f_83), rfl, (by first | rfl | trivial | (dsimp only; omega) | omega | (left; rfl) | (right; rfl) | (dsimp only; first | (left; rfl) | (right; rfl))), by rw [ht]; exact hP9, va_K.moved hW.alike hK9, hD9⟩, hS.F ht⟩) hS.2.2 dX6_putBytes_46
        · have c_88 : x_84.toInt < 1600 := i_nle (a := 1600) (b := x_84) (by decide) rfl c_88
          refine lv_aload_n hx hb dX6_putBytes_17 rfl (lv_at hl 1 rfl) ?_
          refine va_get (D := (dC, dI)) (ci := 6) (v := .ref tp) (C := RX6) (T := TX6) (N := 11) hx hb hts in_X6_putBytes_X6 hown hK hP 0 rfl rfl 0 (by decide) (hts _ wd_X6_putBytes_1) (fun _ h9 => h9) rfl dX6_putBytes_18 ?_
          refine lv_aload_n hx hb dX6_putBytes_21 rfl (lv_at hl 1 rfl) ?_
          refine va_get (D := (dC, dI)) (ci := 6) (v := .int x_84) (C := RX6) (T := TX6) (N := 11) hx hb hts in_X6_putBytes_X6 hown hK hP 0 rfl rfl 1 (by decide) (hts _ wd_X6_putBytes_0) (fun _ h9 => h9) rfl dX6_putBytes_22 ?_
          refine lv_iload_n hx hb dX6_putBytes_25 rfl (lv_at hl 2 rfl) ?_
          refine lv_iload_n hx hb dX6_putBytes_26 rfl (lv_at hl 0 rfl) ?_
          refine lv_ishr hx hb dX6_putBytes_27 ?_
          refine lv_topi (fun x_90 ex_90 => ?_)
          refine lv_i2b (v := x_90.toInt8.toInt32) hx hb dX6_putBytes_28 rfl ?_
          refine lv_topi (fun x_91 ex_91 => ?_)
          refine va_bast hx hb hK hP hD hS 1 0 rfl rfl (i_in rfl (by omega) (by omega)) dX6_putBytes_29 (fun H locs hP hD hS => ?_)
          have hP : va_P (dC, dI) vwCl [(h0, .inr (6, [.ref tp, .int x_84, .int fn, .int fp, .ref rd, .ref gd, .ref im, .ref rw, .ref gn, .ref ho, .ref sq])), (tp, .inl (ktp, 1600, .inl (upd f_83 x_84.toNatClampNeg (vp_nar .byte x_91))))] H := hP
          have hD : va_D A [(h0, .inr (6, [.ref tp, .int x_84, .int fn, .int fp, .ref rd, .ref gd, .ref im, .ref rw, .ref gn, .ref ho, .ref sq])), (tp, .inl (ktp, 1600, .inl (upd f_83 x_84.toNatClampNeg (vp_nar .byte x_91))))] := hD
          obtain ⟨f_92, ef_92⟩ : ∃ g, g = upd f_83 x_84.toNatClampNeg (vp_nar .byte x_91) := ⟨_, rfl⟩
          rw [← ef_92] at hP hD
          refine lv_aload_n hx hb dX6_putBytes_30 rfl (lv_at hl 1 rfl) ?_
          refine lv_dup hx hb dX6_putBytes_31 rfl ?_
          refine va_get (D := (dC, dI)) (ci := 6) (v := .int x_84) (C := RX6) (T := TX6) (N := 11) hx hb hts in_X6_putBytes_X6 hown hK hP 0 rfl rfl 1 (by decide) (hts _ wd_X6_putBytes_0) (fun _ h9 => h9) rfl dX6_putBytes_32 ?_
          refine lv_iconst (v := 1) hx hb dX6_putBytes_35 (by decide) ?_
          refine lv_iadd hx hb dX6_putBytes_36 ?_
          refine lv_topi (fun x_93 ex_93 => ?_)
          have zx_93 : x_93.toInt = x_84.toInt + 1 := by rw [ex_93]; exact i_add rfl (by decide) (by omega) (by omega)
          refine va_put (D := (dC, dI)) (ci := 6) (v := .int x_93) (ty := .int) (C := RX6) (T := TX6) (N := 11) hx hb hts in_X6_putBytes_X6 tyX6 tyX6_ok nmX6 hown hK hP hD hS 0 rfl rfl 1 (by decide) (hts _ wd_X6_putBytes_0) (fun _ h9 => h9) rfl (by decide +kernel) rfl rfl (Nat.le_of_ble_eq_true rfl) dX6_putBytes_37 (fun H locs hP hD hS => ?_)
          have hP : va_P (dC, dI) vwCl [(h0, .inr (6, [.ref tp, .int x_93, .int fn, .int fp, .ref rd, .ref gd, .ref im, .ref rw, .ref gn, .ref ho, .ref sq])), (tp, .inl (ktp, 1600, .inl f_92))] H := hP
          have hD : va_D A [(h0, .inr (6, [.ref tp, .int x_93, .int fn, .int fp, .ref rd, .ref gd, .ref im, .ref rw, .ref gn, .ref ho, .ref sq])), (tp, .inl (ktp, 1600, .inl f_92))] := hD
          refine lv_iinc (v := -8) (lv' := [(2, .int (-8)), (0, .ref h0), (1, .int p0)]) hx hb dX6_putBytes_40 hl (k := 0) rfl (by decide) (by decide) rfl (fun ls hl => ?_)
          refine lv_goto (tgt := 3) hx hb dX6_putBytes_43 (by decide) ?_
          refine lv_iload_n hx hb dX6_putBytes_3 rfl (lv_at hl 0 rfl) ?_
          refine lv_if_lt (tgt := 46) hx hb dX6_putBytes_4 (by decide) (fun _ => ?_) (fun h => absurd (by decide) h)
          have hP9 := hP.sub (ws' := [(h0, .inr (6, [.ref tp, .int x_93, .int fn, .int fp, .ref rd, .ref gd, .ref im, .ref rw, .ref gn, .ref ho, .ref sq])), (tp, .inl (ktp, 1600, .inl f_92))]) [0, 1] rfl
          have hD9 := hD.sub (ws' := [(h0, .inr (6, [.ref tp, .int x_93, .int fn, .int fp, .ref rd, .ref gd, .ref im, .ref rw, .ref gn, .ref ho, .ref sq])), (tp, .inl (ktp, 1600, .inl f_92))]) [0, 1] (by decide) rfl
          have hK9 := hK.sub (tys' := []) [] rfl
          refine W.widen (k := 0) (n := 0) (by omega) (by omega) ?_
          exact W.vret hx hb hr (fun t ht hW => ⟨⟨(x_93, f_92), rfl, (by first | rfl | trivial | (dsimp only; omega) | omega | (left; rfl) | (right; rfl) | (dsimp only; first | (left; rfl) | (right; rfl))), by rw [ht]; exact hP9, va_K.moved hW.alike hK9, hD9⟩, hS.F ht⟩) hS.2.2 dX6_putBytes_46
      · have c_86 : x_84.toInt < 1600 := i_nle (a := 1600) (b := x_84) (by decide) rfl c_86
        refine lv_aload_n hx hb dX6_putBytes_17 rfl (lv_at hl 1 rfl) ?_
        refine va_get (D := (dC, dI)) (ci := 6) (v := .ref tp) (C := RX6) (T := TX6) (N := 11) hx hb hts in_X6_putBytes_X6 hown hK hP 0 rfl rfl 0 (by decide) (hts _ wd_X6_putBytes_1) (fun _ h9 => h9) rfl dX6_putBytes_18 ?_
        refine lv_aload_n hx hb dX6_putBytes_21 rfl (lv_at hl 1 rfl) ?_
        refine va_get (D := (dC, dI)) (ci := 6) (v := .int x_84) (C := RX6) (T := TX6) (N := 11) hx hb hts in_X6_putBytes_X6 hown hK hP 0 rfl rfl 1 (by decide) (hts _ wd_X6_putBytes_0) (fun _ h9 => h9) rfl dX6_putBytes_22 ?_
        refine lv_iload_n hx hb dX6_putBytes_25 rfl (lv_at hl 2 rfl) ?_
        refine lv_iload_n hx hb dX6_putBytes_26 rfl (lv_at hl 0 rfl) ?_
        refine lv_ishr hx hb dX6_putBytes_27 ?_
        refine lv_topi (fun x_95 ex_95 => ?_)
        refine lv_i2b (v := x_95.toInt8.toInt32) hx hb dX6_putBytes_28 rfl ?_
        refine lv_topi (fun x_96 ex_96 => ?_)
        refine va_bast hx hb hK hP hD hS 1 0 rfl rfl (i_in rfl (by omega) (by omega)) dX6_putBytes_29 (fun H locs hP hD hS => ?_)
        have hP : va_P (dC, dI) vwCl [(h0, .inr (6, [.ref tp, .int x_84, .int fn, .int fp, .ref rd, .ref gd, .ref im, .ref rw, .ref gn, .ref ho, .ref sq])), (tp, .inl (ktp, 1600, .inl (upd f_83 x_84.toNatClampNeg (vp_nar .byte x_96))))] H := hP
        have hD : va_D A [(h0, .inr (6, [.ref tp, .int x_84, .int fn, .int fp, .ref rd, .ref gd, .ref im, .ref rw, .ref gn, .ref ho, .ref sq])), (tp, .inl (ktp, 1600, .inl (upd f_83 x_84.toNatClampNeg (vp_nar .byte x_96))))] := hD
        obtain ⟨f_97, ef_97⟩ : ∃ g, g = upd f_83 x_84.toNatClampNeg (vp_nar .byte x_96) := ⟨_, rfl⟩
        rw [← ef_97] at hP hD
        refine lv_aload_n hx hb dX6_putBytes_30 rfl (lv_at hl 1 rfl) ?_
        refine lv_dup hx hb dX6_putBytes_31 rfl ?_
        refine va_get (D := (dC, dI)) (ci := 6) (v := .int x_84) (C := RX6) (T := TX6) (N := 11) hx hb hts in_X6_putBytes_X6 hown hK hP 0 rfl rfl 1 (by decide) (hts _ wd_X6_putBytes_0) (fun _ h9 => h9) rfl dX6_putBytes_32 ?_
        refine lv_iconst (v := 1) hx hb dX6_putBytes_35 (by decide) ?_
        refine lv_iadd hx hb dX6_putBytes_36 ?_
        refine lv_topi (fun x_98 ex_98 => ?_)
        have zx_98 : x_98.toInt = x_84.toInt + 1 := by rw [ex_98]; exact i_add rfl (by decide) (by omega) (by omega)
        refine va_put (D := (dC, dI)) (ci := 6) (v := .int x_98) (ty := .int) (C := RX6) (T := TX6) (N := 11) hx hb hts in_X6_putBytes_X6 tyX6 tyX6_ok nmX6 hown hK hP hD hS 0 rfl rfl 1 (by decide) (hts _ wd_X6_putBytes_0) (fun _ h9 => h9) rfl (by decide +kernel) rfl rfl (Nat.le_of_ble_eq_true rfl) dX6_putBytes_37 (fun H locs hP hD hS => ?_)
        have hP : va_P (dC, dI) vwCl [(h0, .inr (6, [.ref tp, .int x_98, .int fn, .int fp, .ref rd, .ref gd, .ref im, .ref rw, .ref gn, .ref ho, .ref sq])), (tp, .inl (ktp, 1600, .inl f_97))] H := hP
        have hD : va_D A [(h0, .inr (6, [.ref tp, .int x_98, .int fn, .int fp, .ref rd, .ref gd, .ref im, .ref rw, .ref gn, .ref ho, .ref sq])), (tp, .inl (ktp, 1600, .inl f_97))] := hD
        refine lv_iinc (v := 0) (lv' := [(2, .int 0), (0, .ref h0), (1, .int p0)]) hx hb dX6_putBytes_40 hl (k := 0) rfl (by decide) (by decide) rfl (fun ls hl => ?_)
        refine lv_goto (tgt := 3) hx hb dX6_putBytes_43 (by decide) ?_
        refine lv_iload_n hx hb dX6_putBytes_3 rfl (lv_at hl 0 rfl) ?_
        refine lv_if_lt (tgt := 46) hx hb dX6_putBytes_4 (by decide) (fun h => absurd h (by decide)) (fun _ => ?_)
        refine lv_aload_n hx hb dX6_putBytes_7 rfl (lv_at hl 1 rfl) ?_
        refine va_get (D := (dC, dI)) (ci := 6) (v := .int x_98) (C := RX6) (T := TX6) (N := 11) hx hb hts in_X6_putBytes_X6 hown hK hP 0 rfl rfl 1 (by decide) (hts _ wd_X6_putBytes_0) (fun _ h9 => h9) rfl dX6_putBytes_8 ?_
        refine lv_sipush (v := 1600) hx hb dX6_putBytes_11 (by decide) ?_
        refine lv_icmp_ge (tgt := 40) hx hb dX6_putBytes_14 (by decide) (fun c_100 => ?_) (fun c_100 => ?_)
        · have c_100 : 1600 ≤ x_98.toInt := i_le (a := 1600) (b := x_98) (by decide) rfl c_100
          refine lv_iinc (v := -8) (lv' := [(2, .int (-8)), (0, .ref h0), (1, .int p0)]) hx hb dX6_putBytes_40 hl (k := 0) rfl (by decide) (by decide) rfl (fun ls hl => ?_)
          refine lv_goto (tgt := 3) hx hb dX6_putBytes_43 (by decide) ?_
          refine lv_iload_n hx hb dX6_putBytes_3 rfl (lv_at hl 0 rfl) ?_
          refine lv_if_lt (tgt := 46) hx hb dX6_putBytes_4 (by decide) (fun _ => ?_) (fun h => absurd (by decide) h)
          have hP9 := hP.sub (ws' := [(h0, .inr (6, [.ref tp, .int x_98, .int fn, .int fp, .ref rd, .ref gd, .ref im, .ref rw, .ref gn, .ref ho, .ref sq])), (tp, .inl (ktp, 1600, .inl f_97))]) [0, 1] rfl
          have hD9 := hD.sub (ws' := [(h0, .inr (6, [.ref tp, .int x_98, .int fn, .int fp, .ref rd, .ref gd, .ref im, .ref rw, .ref gn, .ref ho, .ref sq])), (tp, .inl (ktp, 1600, .inl f_97))]) [0, 1] (by decide) rfl
          have hK9 := hK.sub (tys' := []) [] rfl
          refine W.widen (k := 0) (n := 0) (by omega) (by omega) ?_
          exact W.vret hx hb hr (fun t ht hW => ⟨⟨(x_98, f_97), rfl, (by first | rfl | trivial | (dsimp only; omega) | omega | (left; rfl) | (right; rfl) | (dsimp only; first | (left; rfl) | (right; rfl))), by rw [ht]; exact hP9, va_K.moved hW.alike hK9, hD9⟩, hS.F ht⟩) hS.2.2 dX6_putBytes_46
        · have c_100 : x_98.toInt < 1600 := i_nle (a := 1600) (b := x_98) (by decide) rfl c_100
          refine lv_aload_n hx hb dX6_putBytes_17 rfl (lv_at hl 1 rfl) ?_
          refine va_get (D := (dC, dI)) (ci := 6) (v := .ref tp) (C := RX6) (T := TX6) (N := 11) hx hb hts in_X6_putBytes_X6 hown hK hP 0 rfl rfl 0 (by decide) (hts _ wd_X6_putBytes_1) (fun _ h9 => h9) rfl dX6_putBytes_18 ?_
          refine lv_aload_n hx hb dX6_putBytes_21 rfl (lv_at hl 1 rfl) ?_
          refine va_get (D := (dC, dI)) (ci := 6) (v := .int x_98) (C := RX6) (T := TX6) (N := 11) hx hb hts in_X6_putBytes_X6 hown hK hP 0 rfl rfl 1 (by decide) (hts _ wd_X6_putBytes_0) (fun _ h9 => h9) rfl dX6_putBytes_22 ?_
          refine lv_iload_n hx hb dX6_putBytes_25 rfl (lv_at hl 2 rfl) ?_
          refine lv_iload_n hx hb dX6_putBytes_26 rfl (lv_at hl 0 rfl) ?_
          refine lv_ishr hx hb dX6_putBytes_27 ?_
          refine lv_topi (fun x_102 ex_102 => ?_)
          refine lv_i2b (v := x_102.toInt8.toInt32) hx hb dX6_putBytes_28 rfl ?_
          refine lv_topi (fun x_103 ex_103 => ?_)
          refine va_bast hx hb hK hP hD hS 1 0 rfl rfl (i_in rfl (by omega) (by omega)) dX6_putBytes_29 (fun H locs hP hD hS => ?_)
          have hP : va_P (dC, dI) vwCl [(h0, .inr (6, [.ref tp, .int x_98, .int fn, .int fp, .ref rd, .ref gd, .ref im, .ref rw, .ref gn, .ref ho, .ref sq])), (tp, .inl (ktp, 1600, .inl (upd f_97 x_98.toNatClampNeg (vp_nar .byte x_103))))] H := hP
          have hD : va_D A [(h0, .inr (6, [.ref tp, .int x_98, .int fn, .int fp, .ref rd, .ref gd, .ref im, .ref rw, .ref gn, .ref ho, .ref sq])), (tp, .inl (ktp, 1600, .inl (upd f_97 x_98.toNatClampNeg (vp_nar .byte x_103))))] := hD
          obtain ⟨f_104, ef_104⟩ : ∃ g, g = upd f_97 x_98.toNatClampNeg (vp_nar .byte x_103) := ⟨_, rfl⟩
          rw [← ef_104] at hP hD
          refine lv_aload_n hx hb dX6_putBytes_30 rfl (lv_at hl 1 rfl) ?_
          refine lv_dup hx hb dX6_putBytes_31 rfl ?_
          refine va_get (D := (dC, dI)) (ci := 6) (v := .int x_98) (C := RX6) (T := TX6) (N := 11) hx hb hts in_X6_putBytes_X6 hown hK hP 0 rfl rfl 1 (by decide) (hts _ wd_X6_putBytes_0) (fun _ h9 => h9) rfl dX6_putBytes_32 ?_
          refine lv_iconst (v := 1) hx hb dX6_putBytes_35 (by decide) ?_
          refine lv_iadd hx hb dX6_putBytes_36 ?_
          refine lv_topi (fun x_105 ex_105 => ?_)
          have zx_105 : x_105.toInt = x_98.toInt + 1 := by rw [ex_105]; exact i_add rfl (by decide) (by omega) (by omega)
          refine va_put (D := (dC, dI)) (ci := 6) (v := .int x_105) (ty := .int) (C := RX6) (T := TX6) (N := 11) hx hb hts in_X6_putBytes_X6 tyX6 tyX6_ok nmX6 hown hK hP hD hS 0 rfl rfl 1 (by decide) (hts _ wd_X6_putBytes_0) (fun _ h9 => h9) rfl (by decide +kernel) rfl rfl (Nat.le_of_ble_eq_true rfl) dX6_putBytes_37 (fun H locs hP hD hS => ?_)
          have hP : va_P (dC, dI) vwCl [(h0, .inr (6, [.ref tp, .int x_105, .int fn, .int fp, .ref rd, .ref gd, .ref im, .ref rw, .ref gn, .ref ho, .ref sq])), (tp, .inl (ktp, 1600, .inl f_104))] H := hP
          have hD : va_D A [(h0, .inr (6, [.ref tp, .int x_105, .int fn, .int fp, .ref rd, .ref gd, .ref im, .ref rw, .ref gn, .ref ho, .ref sq])), (tp, .inl (ktp, 1600, .inl f_104))] := hD
          refine lv_iinc (v := -8) (lv' := [(2, .int (-8)), (0, .ref h0), (1, .int p0)]) hx hb dX6_putBytes_40 hl (k := 0) rfl (by decide) (by decide) rfl (fun ls hl => ?_)
          refine lv_goto (tgt := 3) hx hb dX6_putBytes_43 (by decide) ?_
          refine lv_iload_n hx hb dX6_putBytes_3 rfl (lv_at hl 0 rfl) ?_
          refine lv_if_lt (tgt := 46) hx hb dX6_putBytes_4 (by decide) (fun _ => ?_) (fun h => absurd (by decide) h)
          have hP9 := hP.sub (ws' := [(h0, .inr (6, [.ref tp, .int x_105, .int fn, .int fp, .ref rd, .ref gd, .ref im, .ref rw, .ref gn, .ref ho, .ref sq])), (tp, .inl (ktp, 1600, .inl f_104))]) [0, 1] rfl
          have hD9 := hD.sub (ws' := [(h0, .inr (6, [.ref tp, .int x_105, .int fn, .int fp, .ref rd, .ref gd, .ref im, .ref rw, .ref gn, .ref ho, .ref sq])), (tp, .inl (ktp, 1600, .inl f_104))]) [0, 1] (by decide) rfl
          have hK9 := hK.sub (tys' := []) [] rfl
          refine W.widen (k := 0) (n := 0) (by omega) (by omega) ?_
          exact W.vret hx hb hr (fun t ht hW => ⟨⟨(x_105, f_104), rfl, (by first | rfl | trivial | (dsimp only; omega) | omega | (left; rfl) | (right; rfl) | (dsimp only; first | (left; rfl) | (right; rfl))), by rw [ht]; exact hP9, va_K.moved hW.alike hK9, hD9⟩, hS.F ht⟩) hS.2.2 dX6_putBytes_46

theorem dX6_feed_0 : decode cX6_feed 0 = .ok (.aload_n 0, 1) := by decide +kernel
theorem dX6_feed_1 : decode cX6_feed 1 = .ok (.getfield 13, 3) := by decide +kernel
theorem dX6_feed_4 : decode cX6_feed 4 = .ok (.sipush 1580, 3) := by decide +kernel
theorem dX6_feed_7 : decode cX6_feed 7 = .ok (.if_icmp .le 5, 3) := by decide +kernel
theorem dX6_feed_10 : decode cX6_feed 10 = .ok (.iconst (-1), 1) := by decide +kernel
theorem dX6_feed_11 : decode cX6_feed 11 = .ok (.ireturn, 1) := by decide +kernel
theorem dX6_feed_12 : decode cX6_feed 12 = .ok (.aload_n 0, 1) := by decide +kernel
theorem dX6_feed_13 : decode cX6_feed 13 = .ok (.iload_n 1, 1) := by decide +kernel
theorem dX6_feed_14 : decode cX6_feed 14 = .ok (.invokevirtual 66, 3) := by decide +kernel
theorem dX6_feed_17 : decode cX6_feed 17 = .ok (.aload_n 0, 1) := by decide +kernel
theorem dX6_feed_18 : decode cX6_feed 18 = .ok (.iload_n 2, 1) := by decide +kernel
theorem dX6_feed_19 : decode cX6_feed 19 = .ok (.invokevirtual 66, 3) := by decide +kernel
theorem dX6_feed_22 : decode cX6_feed 22 = .ok (.aload_n 0, 1) := by decide +kernel
theorem dX6_feed_23 : decode cX6_feed 23 = .ok (.iload_n 3, 1) := by decide +kernel
theorem dX6_feed_24 : decode cX6_feed 24 = .ok (.invokevirtual 66, 3) := by decide +kernel
theorem dX6_feed_27 : decode cX6_feed 27 = .ok (.aload_n 0, 1) := by decide +kernel
theorem dX6_feed_28 : decode cX6_feed 28 = .ok (.iload 4, 2) := by decide +kernel
theorem dX6_feed_30 : decode cX6_feed 30 = .ok (.invokevirtual 66, 3) := by decide +kernel
theorem dX6_feed_33 : decode cX6_feed 33 = .ok (.aload_n 0, 1) := by decide +kernel
theorem dX6_feed_34 : decode cX6_feed 34 = .ok (.iload 5, 2) := by decide +kernel
theorem dX6_feed_36 : decode cX6_feed 36 = .ok (.invokevirtual 66, 3) := by decide +kernel
theorem dX6_feed_39 : decode cX6_feed 39 = .ok (.aload_n 0, 1) := by decide +kernel
theorem dX6_feed_40 : decode cX6_feed 40 = .ok (.getfield 13, 3) := by decide +kernel
theorem dX6_feed_43 : decode cX6_feed 43 = .ok (.ireturn, 1) := by decide +kernel
def wz_X6_feed : List Cond := .code yX6_feed cX6_feed 6 (some .int) :: ([Cond.fieldLink RX6 13 "HedgeMaze" "tapeSize" "I", Cond.methodLink RX6 66 yX6_putBytes, Cond.instanceMethod yX6_putBytes, Cond.selects RX6 yX6_putBytes yX6_putBytes, Cond.initialized RX6, Cond.code yX6_putBytes cX6_putBytes 3 none, Cond.fieldLink RX6 9 "HedgeMaze" "tape" "[B"] ++ wsX60)
theorem wd_X6_feed_0 : Cond.fieldLink RX6 13 "HedgeMaze" "tapeSize" "I" ∈ wz_X6_feed := List.mem_of_getElem? (i := 1) rfl
theorem in_X6_feed_X6 : ∀ w ∈ wsX60, w ∈ wz_X6_feed := fun _ h => List.mem_cons_of_mem _ (List.mem_append_right _ h)
set_option maxRecDepth 20000 in
theorem g_X6_feed_X6_putBytes : GoodIn wz_X6_feed (wsV RX6 66 RX6 yX6_putBytes wz_X6_putBytes) := goodIn_r _ [2, 3, 4, 5, 6, 1, 7, 8, 9, 10, 11, 12, 13, 14, 15, 16, 17, 18] rfl (by decide +kernel)
set_option maxHeartbeats 4000000 in
set_option maxRecDepth 100000 in
theorem c_X6_feed (l : Launch) (dC : Nat → ClassId) (dI : Nat → Nat → Nat) (sz : Nat) (h0 : Nat) (tp : Nat) (ts : Int32) (fn : Int32) (fp : Int32) (rd : Nat) (gd : Nat) (im : Nat) (rw : Nat) (gn : Nat) (ho : Nat) (sq : Nat) (ktp : ClassId) (tF : Nat → Int32) (p0 : Int32) (p1 : Int32) (p2 : Int32) (p3 : Int32) (p4 : Int32) (h_ts : 0 ≤ ts.toInt ∧ ts.toInt ≤ 1600) : Met l yX6_feed wz_X6_feed ({ frames := 1, cells := 0, slots := 0, locals := 22 }) (va_Pc [.ref h0, .int p0, .int p1, .int p2, .int p3, .int p4] (fun U => U.heap.size = sz ∧ va_P (dC, dI) vwCl [(h0, .inr (6, [.ref tp, .int ts, .int fn, .int fp, .ref rd, .ref gd, .ref im, .ref rw, .ref gn, .ref ho, .ref sq])), (tp, .inl (ktp, 1600, .inl tF))] U.heap ∧ va_K (dC, dI) vwCl [(ktp, .byte)] U ∧ va_D (fun _ => True) [(h0, .inr (6, [.ref tp, .int ts, .int fn, .int fp, .ref rd, .ref gd, .ref im, .ref rw, .ref gn, .ref ho, .ref sq])), (tp, .inl (ktp, 1600, .inl tF))])) (va_Qi (fun (r : Int32) (u : Int32 × (Nat → Int32)) => (0 ≤ u.1.toInt ∧ u.1.toInt ≤ 1600)) (fun (u : Int32 × (Nat → Int32)) (t : State) => va_P (dC, dI) vwCl [(h0, .inr (6, [.ref tp, .int u.1, .int fn, .int fp, .ref rd, .ref gd, .ref im, .ref rw, .ref gn, .ref ho, .ref sq])), (tp, .inl (ktp, 1600, .inl u.2))] t.heap ∧ va_K (dC, dI) vwCl [] t ∧ va_D (va_A [(h0, .inr (6, [.ref tp, .int ts, .int fn, .int fp, .ref rd, .ref gd, .ref im, .ref rw, .ref gn, .ref ho, .ref sq])), (tp, .inl (ktp, 1600, .inl tF))] sz) [(h0, .inr (6, [.ref tp, .int u.1, .int fn, .int fp, .ref rd, .ref gd, .ref im, .ref rw, .ref gn, .ref ho, .ref sq])), (tp, .inl (ktp, 1600, .inl u.2))]) (va_A [(h0, .inr (6, [.ref tp, .int ts, .int fn, .int fp, .ref rd, .ref gd, .ref im, .ref rw, .ref gn, .ref ho, .ref sq])), (tp, .inl (ktp, 1600, .inl tF))] sz)) 0 0 (va_A [(h0, .inr (6, [.ref tp, .int ts, .int fn, .int fp, .ref rd, .ref gd, .ref im, .ref rw, .ref gn, .ref ho, .ref sq])), (tp, .inl (ktp, 1600, .inl tF))] sz) := by
  refine Met.ofW (cc := cX6_feed) (maxL := 6) (ret := (some .int)) (by decide) rfl ?_
  intro p e s m args below meth c s₁ B hml hv
  obtain ⟨rfl, hsz, hP, hK, hD0⟩ := hv
  have hx := B.exec
  have hb := B.bytes
  have hr := B.returns
  have hts := atoms_spec (ws := wz_X6_feed) B.pre
  have hown : s.vm.findClass RX6 = some m.cls := findClass_of_methodNamed B.named
  have hlocks := B.notSynchronized
  subst hsz
  have hD := hD0.self (sz := s.heap.size)
  generalize hAe : va_A [(h0, .inr (6, [.ref tp, .int ts, .int fn, .int fp, .ref rd, .ref gd, .ref im, .ref rw, .ref gn, .ref ho, .ref sq])), (tp, .inl (ktp, 1600, .inl tF))] s.heap.size = A at hD ⊢
  have hA : ∀ q : Nat, s.heap.size ≤ q → A q := fun q h => by rw [← hAe]; exact Or.inr h
  have hS : va_S A s.heap s.heap [] := va_S.rf
  have hP : va_P (dC, dI) vwCl [(h0, .inr (6, [.ref tp, .int ts, .int fn, .int fp, .ref rd, .ref gd, .ref im, .ref rw, .ref gn, .ref ho, .ref sq])), (tp, .inl (ktp, 1600, .inl tF))] s.heap := hP
  have hl := lv_entry ([.ref h0, .int p0, .int p1, .int p2, .int p3, .int p4]) (n := 6) (Nat.le_of_ble_eq_true rfl)
  rw [lg_entry_eq]
  generalize (lg_sl ([.ref h0, .int p0, .int p1, .int p2, .int p3, .int p4]) ++ List.replicate (6 - (lg_sl ([.ref h0, .int p0, .int p1, .int p2, .int p3, .int p4])).length) Slot.unset).toArray = ls at hl ⊢
  have hl : lv_has ls 6 [(0, .ref h0), (1, .int p0), (2, .int p1), (3, .int p2), (4, .int p3), (5, .int p4)] := hl
  refine lv_aload_n hx hb dX6_feed_0 rfl (lv_at hl 0 rfl) ?_
  refine va_get (D := (dC, dI)) (ci := 6) (v := .int ts) (C := RX6) (T := TX6) (N := 11) hx hb hts in_X6_feed_X6 hown hK hP 0 rfl rfl 1 (by decide) (hts _ wd_X6_feed_0) (fun _ h9 => h9) rfl dX6_feed_1 ?_
  refine lv_sipush (v := 1580) hx hb dX6_feed_4 (by decide) ?_
  refine lv_icmp_le (tgt := 12) hx hb dX6_feed_7 (by decide) (fun c_1 => ?_) (fun c_1 => ?_)
  · have c_1 : ts.toInt ≤ 1580 := i_le (a := ts) (b := 1580) rfl (by decide) c_1
    refine lv_aload_n hx hb dX6_feed_12 rfl (lv_at hl 0 rfl) ?_
    refine lv_iload_n hx hb dX6_feed_13 rfl (lv_at hl 1 rfl) ?_
    have hPc := hP.sub (ws' := [(h0, .inr (6, [.ref tp, .int ts, .int fn, .int fp, .ref rd, .ref gd, .ref im, .ref rw, .ref gn, .ref ho, .ref sq])), (tp, .inl (ktp, 1600, .inl tF))]) [0, 1] rfl
    have hDc := hD.sub (ws' := [(h0, .inr (6, [.ref tp, .int ts, .int fn, .int fp, .ref rd, .ref gd, .ref im, .ref rw, .ref gn, .ref ho, .ref sq])), (tp, .inl (ktp, 1600, .inl tF))]) [0, 1] (by decide) rfl
    have hKc := hK.sub (tys' := [(ktp, .byte)]) [0] rfl
    have hFc := va_free (wc := [(h0, .inr (6, [.ref tp, .int ts, .int fn, .int fp, .ref rd, .ref gd, .ref im, .ref rw, .ref gn, .ref ho, .ref sq])), (tp, .inl (ktp, 1600, .inl tF))]) hD hS hA [0, 1] rfl
    refine va_callv (va_runV (As := [.int p0]) (rest := []) ⟨hx, hb, hml, hown, hts⟩ (c_X6_putBytes l dC dI s.heap.size h0 tp ts fn fp rd gd im rw gn ho sq ktp tF p0 (by omega)) (cwV 1 hts g_X6_feed_X6_putBytes rfl rfl rfl (by decide +kernel) ⟨Nat.le_of_ble_eq_true rfl, Nat.le_of_ble_eq_true rfl⟩) ⟨fun a U g mk q => by obtain ⟨q0, q1, qP, qK, qD⟩ := q; exact ⟨q0, q1, qP, va_K.moved (u := U) (U := U.calling g mk a) (Vm.Alike.refl U.vm) qK, qD⟩, va_recv hKc hPc (ci := 6) (q0 := 0) rfl rfl, fun U hU hW => ⟨rfl, by rw [hU], by rw [hU]; exact hPc, va_K.moved hW.alike hKc, hDc.weaken (fun _ _ _ _ => trivial)⟩⟩ rfl rfl hl.1 rfl (lv_room (Nat.le_of_ble_eq_true rfl)) dX6_feed_14 ⟨Nat.le_of_ble_eq_true rfl, Nat.le_of_ble_eq_true rfl⟩) hS (fun q _ h => hFc q h) hFc (fun u t H1 locs ht hvm hw_2 hB hz1 hk1 hS => ?_)
    obtain ⟨ts2_3, tG_4⟩ := u
    obtain ⟨hP1, hK1, hD1⟩ := hB
    have hP1 : va_P (dC, dI) vwCl [(h0, .inr (6, [.ref tp, .int ts2_3, .int fn, .int fp, .ref rd, .ref gd, .ref im, .ref rw, .ref gn, .ref ho, .ref sq])), (tp, .inl (ktp, 1600, .inl tG_4))] t.heap := hP1
    rw [ht] at hP1
    try dsimp only at hw_2
    obtain ⟨hP, hD⟩ := va_join (wr := []) (w1 := [(h0, .inr (6, [.ref tp, .int ts2_3, .int fn, .int fp, .ref rd, .ref gd, .ref im, .ref rw, .ref gn, .ref ho, .ref sq])), (tp, .inl (ktp, 1600, .inl tG_4))]) hP hD [0, 1] [] rfl rfl (by decide) (by decide) hk1 hFc hP1 hD1
    generalize H1 = H at hP hS ⊢
    have hP : va_P (dC, dI) vwCl [(h0, .inr (6, [.ref tp, .int ts2_3, .int fn, .int fp, .ref rd, .ref gd, .ref im, .ref rw, .ref gn, .ref ho, .ref sq])), (tp, .inl (ktp, 1600, .inl tG_4))] H := hP
    have hD : va_D A [(h0, .inr (6, [.ref tp, .int ts2_3, .int fn, .int fp, .ref rd, .ref gd, .ref im, .ref rw, .ref gn, .ref ho, .ref sq])), (tp, .inl (ktp, 1600, .inl tG_4))] := hD
    refine lv_aload_n hx hb dX6_feed_17 rfl (lv_at hl 0 rfl) ?_
    refine lv_iload_n hx hb dX6_feed_18 rfl (lv_at hl 2 rfl) ?_
    have hPc := hP.sub (ws' := [(h0, .inr (6, [.ref tp, .int ts2_3, .int fn, .int fp, .ref rd, .ref gd, .ref im, .ref rw, .ref gn, .ref ho, .ref sq])), (tp, .inl (ktp, 1600, .inl tG_4))]) [0, 1] rfl
    have hDc := hD.sub (ws' := [(h0, .inr (6, [.ref tp, .int ts2_3, .int fn, .int fp, .ref rd, .ref gd, .ref im, .ref rw, .ref gn, .ref ho, .ref sq])), (tp, .inl (ktp, 1600, .inl tG_4))]) [0, 1] (by decide) rfl
    have hKc := hK.sub (tys' := [(ktp, .byte)]) [0] rfl
    have hFc := va_free (wc := [(h0, .inr (6, [.ref tp, .int ts2_3, .int fn, .int fp, .ref rd, .ref gd, .ref im, .ref rw, .ref gn, .ref ho, .ref sq])), (tp, .inl (ktp, 1600, .inl tG_4))]) hD hS hA [0, 1] rfl
    refine va_callv (va_runV (As := [.int p1]) (rest := []) ⟨hx, hb, hml, hown, hts⟩ (c_X6_putBytes l dC dI H.size h0 tp ts2_3 fn fp rd gd im rw gn ho sq ktp tG_4 p1 (by omega)) (cwV 1 hts g_X6_feed_X6_putBytes rfl rfl rfl (by decide +kernel) ⟨Nat.le_of_ble_eq_true rfl, Nat.le_of_ble_eq_true rfl⟩) ⟨fun a U g mk q => by obtain ⟨q0, q1, qP, qK, qD⟩ := q; exact ⟨q0, q1, qP, va_K.moved (u := U) (U := U.calling g mk a) (Vm.Alike.refl U.vm) qK, qD⟩, va_recv hKc hPc (ci := 6) (q0 := 0) rfl rfl, fun U hU hW => ⟨rfl, by rw [hU], by rw [hU]; exact hPc, va_K.moved hW.alike hKc, hDc.weaken (fun _ _ _ _ => trivial)⟩⟩ rfl rfl hl.1 rfl (lv_room (Nat.le_of_ble_eq_true rfl)) dX6_feed_19 ⟨Nat.le_of_ble_eq_true rfl, Nat.le_of_ble_eq_true rfl⟩) hS (fun q _ h => hFc q h) hFc (fun u t H1 locs ht hvm hw_5 hB hz1 hk1 hS => ?_)
    obtain ⟨ts2_6, tG_7⟩ := u
    obtain ⟨hP1, hK1, hD1⟩ := hB
    have hP1 : va_P (dC, dI) vwCl [(h0, .inr (6, [.ref tp, .int ts2_6, .int fn, .int fp, .ref rd, .ref gd, .ref im, .ref rw, .ref gn, .ref ho, .ref sq])), (tp, .inl (ktp, 1600, .inl tG_7))] t.heap := hP1
    rw [ht] at hP1
    try dsimp only at hw_5
    obtain ⟨hP, hD⟩ := va_join (wr := []) (w1 := [(h0, .inr (6, [.ref tp, .int ts2_6, .int fn, .int fp, .ref rd, .ref gd, .ref im, .ref rw, .ref gn, .ref ho, .ref sq])), (tp, .inl (ktp, 1600, .inl tG_7))]) hP hD [0, 1] [] rfl rfl (by decide) (by decide) hk1 hFc hP1 hD1
    generalize H1 = H at hP hS ⊢
    have hP : va_P (dC, dI) vwCl [(h0, .inr (6, [.ref tp, .int ts2_6, .int fn, .int fp, .ref rd, .ref gd, .ref im, .ref rw, .ref gn, .ref ho, .ref sq])), (tp, .inl (ktp, 1600, .inl tG_7))] H := hP
    have hD : va_D A [(h0, .inr (6, [.ref tp, .int ts2_6, .int fn, .int fp, .ref rd, .ref gd, .ref im, .ref rw, .ref gn, .ref ho, .ref sq])), (tp, .inl (ktp, 1600, .inl tG_7))] := hD
    refine lv_aload_n hx hb dX6_feed_22 rfl (lv_at hl 0 rfl) ?_
    refine lv_iload_n hx hb dX6_feed_23 rfl (lv_at hl 3 rfl) ?_
    have hPc := hP.sub (ws' := [(h0, .inr (6, [.ref tp, .int ts2_6, .int fn, .int fp, .ref rd, .ref gd, .ref im, .ref rw, .ref gn, .ref ho, .ref sq])), (tp, .inl (ktp, 1600, .inl tG_7))]) [0, 1] rfl
    have hDc := hD.sub (ws' := [(h0, .inr (6, [.ref tp, .int ts2_6, .int fn, .int fp, .ref rd, .ref gd, .ref im, .ref rw, .ref gn, .ref ho, .ref sq])), (tp, .inl (ktp, 1600, .inl tG_7))]) [0, 1] (by decide) rfl
    have hKc := hK.sub (tys' := [(ktp, .byte)]) [0] rfl
    have hFc := va_free (wc := [(h0, .inr (6, [.ref tp, .int ts2_6, .int fn, .int fp, .ref rd, .ref gd, .ref im, .ref rw, .ref gn, .ref ho, .ref sq])), (tp, .inl (ktp, 1600, .inl tG_7))]) hD hS hA [0, 1] rfl
    refine va_callv (va_runV (As := [.int p2]) (rest := []) ⟨hx, hb, hml, hown, hts⟩ (c_X6_putBytes l dC dI H.size h0 tp ts2_6 fn fp rd gd im rw gn ho sq ktp tG_7 p2 (by omega)) (cwV 1 hts g_X6_feed_X6_putBytes rfl rfl rfl (by decide +kernel) ⟨Nat.le_of_ble_eq_true rfl, Nat.le_of_ble_eq_true rfl⟩) ⟨fun a U g mk q => by obtain ⟨q0, q1, qP, qK, qD⟩ := q; exact ⟨q0, q1, qP, va_K.moved (u := U) (U := U.calling g mk a) (Vm.Alike.refl U.vm) qK, qD⟩, va_recv hKc hPc (ci := 6) (q0 := 0) rfl rfl, fun U hU hW => ⟨rfl, by rw [hU], by rw [hU]; exact hPc, va_K.moved hW.alike hKc, hDc.weaken (fun _ _ _ _ => trivial)⟩⟩ rfl rfl hl.1 rfl (lv_room (Nat.le_of_ble_eq_true rfl)) dX6_feed_24 ⟨Nat.le_of_ble_eq_true rfl, Nat.le_of_ble_eq_true rfl⟩) hS (fun q _ h => hFc q h) hFc (fun u t H1 locs ht hvm hw_8 hB hz1 hk1 hS => ?_)
    obtain ⟨ts2_9, tG_10⟩ := u
    obtain ⟨hP1, hK1, hD1⟩ := hB
    have hP1 : va_P (dC, dI) vwCl [(h0, .inr (6, [.ref tp, .int ts2_9, .int fn, .int fp, .ref rd, .ref gd, .ref im, .ref rw, .ref gn, .ref ho, .ref sq])), (tp, .inl (ktp, 1600, .inl tG_10))] t.heap := hP1
    rw [ht] at hP1
    try dsimp only at hw_8
    obtain ⟨hP, hD⟩ := va_join (wr := []) (w1 := [(h0, .inr (6, [.ref tp, .int ts2_9, .int fn, .int fp, .ref rd, .ref gd, .ref im, .ref rw, .ref gn, .ref ho, .ref sq])), (tp, .inl (ktp, 1600, .inl tG_10))]) hP hD [0, 1] [] rfl rfl (by decide) (by decide) hk1 hFc hP1 hD1
    generalize H1 = H at hP hS ⊢
    have hP : va_P (dC, dI) vwCl [(h0, .inr (6, [.ref tp, .int ts2_9, .int fn, .int fp, .ref rd, .ref gd, .ref im, .ref rw, .ref gn, .ref ho, .ref sq])), (tp, .inl (ktp, 1600, .inl tG_10))] H := hP
    have hD : va_D A [(h0, .inr (6, [.ref tp, .int ts2_9, .int fn, .int fp, .ref rd, .ref gd, .ref im, .ref rw, .ref gn, .ref ho, .ref sq])), (tp, .inl (ktp, 1600, .inl tG_10))] := hD
    refine lv_aload_n hx hb dX6_feed_27 rfl (lv_at hl 0 rfl) ?_
    refine lv_iload hx hb dX6_feed_28 (lv_at hl 4 rfl) ?_
    have hPc := hP.sub (ws' := [(h0, .inr (6, [.ref tp, .int ts2_9, .int fn, .int fp, .ref rd, .ref gd, .ref im, .ref rw, .ref gn, .ref ho, .ref sq])), (tp, .inl (ktp, 1600, .inl tG_10))]) [0, 1] rfl
    have hDc := hD.sub (ws' := [(h0, .inr (6, [.ref tp, .int ts2_9, .int fn, .int fp, .ref rd, .ref gd, .ref im, .ref rw, .ref gn, .ref ho, .ref sq])), (tp, .inl (ktp, 1600, .inl tG_10))]) [0, 1] (by decide) rfl
    have hKc := hK.sub (tys' := [(ktp, .byte)]) [0] rfl
    have hFc := va_free (wc := [(h0, .inr (6, [.ref tp, .int ts2_9, .int fn, .int fp, .ref rd, .ref gd, .ref im, .ref rw, .ref gn, .ref ho, .ref sq])), (tp, .inl (ktp, 1600, .inl tG_10))]) hD hS hA [0, 1] rfl
    refine va_callv (va_runV (As := [.int p3]) (rest := []) ⟨hx, hb, hml, hown, hts⟩ (c_X6_putBytes l dC dI H.size h0 tp ts2_9 fn fp rd gd im rw gn ho sq ktp tG_10 p3 (by omega)) (cwV 1 hts g_X6_feed_X6_putBytes rfl rfl rfl (by decide +kernel) ⟨Nat.le_of_ble_eq_true rfl, Nat.le_of_ble_eq_true rfl⟩) ⟨fun a U g mk q => by obtain ⟨q0, q1, qP, qK, qD⟩ := q; exact ⟨q0, q1, qP, va_K.moved (u := U) (U := U.calling g mk a) (Vm.Alike.refl U.vm) qK, qD⟩, va_recv hKc hPc (ci := 6) (q0 := 0) rfl rfl, fun U hU hW => ⟨rfl, by rw [hU], by rw [hU]; exact hPc, va_K.moved hW.alike hKc, hDc.weaken (fun _ _ _ _ => trivial)⟩⟩ rfl rfl hl.1 rfl (lv_room (Nat.le_of_ble_eq_true rfl)) dX6_feed_30 ⟨Nat.le_of_ble_eq_true rfl, Nat.le_of_ble_eq_true rfl⟩) hS (fun q _ h => hFc q h) hFc (fun u t H1 locs ht hvm hw_11 hB hz1 hk1 hS => ?_)
    obtain ⟨ts2_12, tG_13⟩ := u
    obtain ⟨hP1, hK1, hD1⟩ := hB
    have hP1 : va_P (dC, dI) vwCl [(h0, .inr (6, [.ref tp, .int ts2_12, .int fn, .int fp, .ref rd, .ref gd, .ref im, .ref rw, .ref gn, .ref ho, .ref sq])), (tp, .inl (ktp, 1600, .inl tG_13))] t.heap := hP1
    rw [ht] at hP1
    try dsimp only at hw_11
    obtain ⟨hP, hD⟩ := va_join (wr := []) (w1 := [(h0, .inr (6, [.ref tp, .int ts2_12, .int fn, .int fp, .ref rd, .ref gd, .ref im, .ref rw, .ref gn, .ref ho, .ref sq])), (tp, .inl (ktp, 1600, .inl tG_13))]) hP hD [0, 1] [] rfl rfl (by decide) (by decide) hk1 hFc hP1 hD1
    generalize H1 = H at hP hS ⊢
    have hP : va_P (dC, dI) vwCl [(h0, .inr (6, [.ref tp, .int ts2_12, .int fn, .int fp, .ref rd, .ref gd, .ref im, .ref rw, .ref gn, .ref ho, .ref sq])), (tp, .inl (ktp, 1600, .inl tG_13))] H := hP
    have hD : va_D A [(h0, .inr (6, [.ref tp, .int ts2_12, .int fn, .int fp, .ref rd, .ref gd, .ref im, .ref rw, .ref gn, .ref ho, .ref sq])), (tp, .inl (ktp, 1600, .inl tG_13))] := hD
    refine lv_aload_n hx hb dX6_feed_33 rfl (lv_at hl 0 rfl) ?_
    refine lv_iload hx hb dX6_feed_34 (lv_at hl 5 rfl) ?_
    have hPc := hP.sub (ws' := [(h0, .inr (6, [.ref tp, .int ts2_12, .int fn, .int fp, .ref rd, .ref gd, .ref im, .ref rw, .ref gn, .ref ho, .ref sq])), (tp, .inl (ktp, 1600, .inl tG_13))]) [0, 1] rfl
    have hDc := hD.sub (ws' := [(h0, .inr (6, [.ref tp, .int ts2_12, .int fn, .int fp, .ref rd, .ref gd, .ref im, .ref rw, .ref gn, .ref ho, .ref sq])), (tp, .inl (ktp, 1600, .inl tG_13))]) [0, 1] (by decide) rfl
    have hKc := hK.sub (tys' := [(ktp, .byte)]) [0] rfl
    have hFc := va_free (wc := [(h0, .inr (6, [.ref tp, .int ts2_12, .int fn, .int fp, .ref rd, .ref gd, .ref im, .ref rw, .ref gn, .ref ho, .ref sq])), (tp, .inl (ktp, 1600, .inl tG_13))]) hD hS hA [0, 1] rfl
    refine va_callv (va_runV (As := [.int p4]) (rest := []) ⟨hx, hb, hml, hown, hts⟩ (c_X6_putBytes l dC dI H.size h0 tp ts2_12 fn fp rd gd im rw gn ho sq ktp tG_13 p4 (by omega)) (cwV 1 hts g_X6_feed_X6_putBytes rfl rfl rfl (by decide +kernel) ⟨Nat.le_of_ble_eq_true rfl, Nat.le_of_ble_eq_true rfl⟩) ⟨fun a U g mk q => by obtain ⟨q0, q1, qP, qK, qD⟩ := q; exact ⟨q0, q1, qP, va_K.moved (u := U) (U := U.calling g mk a) (Vm.Alike.refl U.vm) qK, qD⟩, va_recv hKc hPc (ci := 6) (q0 := 0) rfl rfl, fun U hU hW => ⟨rfl, by rw [hU], by rw [hU]; exact hPc, va_K.moved hW.alike hKc, hDc.weaken (fun _ _ _ _ => trivial)⟩⟩ rfl rfl hl.1 rfl (lv_room (Nat.le_of_ble_eq_true rfl)) dX6_feed_36 ⟨Nat.le_of_ble_eq_true rfl, Nat.le_of_ble_eq_true rfl⟩) hS (fun q _ h => hFc q h) hFc (fun u t H1 locs ht hvm hw_14 hB hz1 hk1 hS => ?_)
    obtain ⟨ts2_15, tG_16⟩ := u
    obtain ⟨hP1, hK1, hD1⟩ := hB
    have hP1 : va_P (dC, dI) vwCl [(h0, .inr (6, [.ref tp, .int ts2_15, .int fn, .int fp, .ref rd, .ref gd, .ref im, .ref rw, .ref gn, .ref ho, .ref sq])), (tp, .inl (ktp, 1600, .inl tG_16))] t.heap := hP1
    rw [ht] at hP1
    try dsimp only at hw_14
    obtain ⟨hP, hD⟩ := va_join (wr := []) (w1 := [(h0, .inr (6, [.ref tp, .int ts2_15, .int fn, .int fp, .ref rd, .ref gd, .ref im, .ref rw, .ref gn, .ref ho, .ref sq])), (tp, .inl (ktp, 1600, .inl tG_16))]) hP hD [0, 1] [] rfl rfl (by decide) (by decide) hk1 hFc hP1 hD1
    generalize H1 = H at hP hS ⊢
    have hP : va_P (dC, dI) vwCl [(h0, .inr (6, [.ref tp, .int ts2_15, .int fn, .int fp, .ref rd, .ref gd, .ref im, .ref rw, .ref gn, .ref ho, .ref sq])), (tp, .inl (ktp, 1600, .inl tG_16))] H := hP
    have hD : va_D A [(h0, .inr (6, [.ref tp, .int ts2_15, .int fn, .int fp, .ref rd, .ref gd, .ref im, .ref rw, .ref gn, .ref ho, .ref sq])), (tp, .inl (ktp, 1600, .inl tG_16))] := hD
    refine lv_aload_n hx hb dX6_feed_39 rfl (lv_at hl 0 rfl) ?_
    refine va_get (D := (dC, dI)) (ci := 6) (v := .int ts2_15) (C := RX6) (T := TX6) (N := 11) hx hb hts in_X6_feed_X6 hown hK hP 0 rfl rfl 1 (by decide) (hts _ wd_X6_feed_0) (fun _ h9 => h9) rfl dX6_feed_40 ?_
    have hP9 := hP.sub (ws' := [(h0, .inr (6, [.ref tp, .int ts2_15, .int fn, .int fp, .ref rd, .ref gd, .ref im, .ref rw, .ref gn, .ref ho, .ref sq])), (tp, .inl (ktp, 1600, .inl tG_16))]) [0, 1] rfl
    have hD9 := hD.sub (ws' := [(h0, .inr (6, [.ref tp, .int ts2_15, .int fn, .int fp, .ref rd, .ref gd, .ref im, .ref rw, .ref gn, .ref ho, .ref sq])), (tp, .inl (ktp, 1600, .inl tG_16))]) [0, 1] (by decide) rfl
    have hK9 := hK.sub (tys' := []) [] rfl
    refine W.widen (k := 0) (n := 0) (by omega) (by omega) ?_
    exact W.iret (v := ts2_15) hx hb hr (fun t ht hW => ⟨⟨ts2_15, (ts2_15, tG_16), rfl, (by first | rfl | trivial | (dsimp only; omega) | omega | (left; rfl) | (right; rfl) | (dsimp only; first | (left; rfl) | (right; rfl))), by rw [ht]; exact hP9, va_K.moved hW.alike hK9, hD9⟩, hS.F ht⟩) hS.2.2 dX6_feed_43
  · have c_1 : 1580 < ts.toInt := i_nle (a := ts) (b := 1580) rfl (by decide) c_1
    refine lv_iconst (v := -1) hx hb dX6_feed_10 (by decide) ?_
    have hP9 := hP.sub (ws' := [(h0, .inr (6, [.ref tp, .int ts, .int fn, .int fp, .ref rd, .ref gd, .ref im, .ref rw, .ref gn, .ref ho, .ref sq])), (tp, .inl (ktp, 1600, .inl tF))]) [0, 1] rfl
    have hD9 := hD.sub (ws' := [(h0, .inr (6, [.ref tp, .int ts, .int fn, .int fp, .ref rd, .ref gd, .ref im, .ref rw, .ref gn, .ref ho, .ref sq])), (tp, .inl (ktp, 1600, .inl tF))]) [0, 1] (by decide) rfl
    have hK9 := hK.sub (tys' := []) [] rfl
    refine W.widen (k := 0) (n := 0) (by omega) (by omega) ?_
    exact W.iret (v := -1) hx hb hr (fun t ht hW => ⟨⟨(-1), (ts, tF), rfl, (by have k0 : (-1 : Int32).toInt = -1 := (by decide); first | rfl | trivial | (dsimp only; omega) | omega | (left; rfl) | (right; rfl) | (dsimp only; first | (left; rfl) | (right; rfl))), by rw [ht]; exact hP9, va_K.moved hW.alike hK9, hD9⟩, hS.F ht⟩) hS.2.2 dX6_feed_11

theorem dX6_countRows_0 : decode cX6_countRows 0 = .ok (.iconst 0, 1) := by decide +kernel
theorem dX6_countRows_1 : decode cX6_countRows 1 = .ok (.istore_n 1, 1) := by decide +kernel
theorem dX6_countRows_2 : decode cX6_countRows 2 = .ok (.iconst 0, 1) := by decide +kernel
theorem dX6_countRows_3 : decode cX6_countRows 3 = .ok (.istore_n 2, 1) := by decide +kernel
theorem dX6_countRows_4 : decode cX6_countRows 4 = .ok (.iload_n 2, 1) := by decide +kernel
theorem dX6_countRows_5 : decode cX6_countRows 5 = .ok (.iconst 4, 1) := by decide +kernel
theorem dX6_countRows_6 : decode cX6_countRows 6 = .ok (.if_icmp .ge 24, 3) := by decide +kernel
theorem dX6_countRows_9 : decode cX6_countRows 9 = .ok (.aload_n 0, 1) := by decide +kernel
theorem dX6_countRows_10 : decode cX6_countRows 10 = .ok (.getfield 43, 3) := by decide +kernel
theorem dX6_countRows_13 : decode cX6_countRows 13 = .ok (.iload_n 2, 1) := by decide +kernel
theorem dX6_countRows_14 : decode cX6_countRows 14 = .ok (.aaload, 1) := by decide +kernel
theorem dX6_countRows_15 : decode cX6_countRows 15 = .ok (.getfield 214, 3) := by decide +kernel
theorem dX6_countRows_18 : decode cX6_countRows 18 = .ok (.ifCond .eq 6, 3) := by decide +kernel
theorem dX6_countRows_21 : decode cX6_countRows 21 = .ok (.iinc 1 1, 3) := by decide +kernel
theorem dX6_countRows_24 : decode cX6_countRows 24 = .ok (.iinc 2 1, 3) := by decide +kernel
theorem dX6_countRows_27 : decode cX6_countRows 27 = .ok (.goto (-23), 3) := by decide +kernel
theorem dX6_countRows_30 : decode cX6_countRows 30 = .ok (.iload_n 1, 1) := by decide +kernel
theorem dX6_countRows_31 : decode cX6_countRows 31 = .ok (.ireturn, 1) := by decide +kernel
def wz_X6_countRows : List Cond := .code yX6_countRows cX6_countRows 3 (some .int) :: ([Cond.fieldLink RX6 43 "HedgeMaze" "rows" "[LHedgeMaze$Row;", Cond.fieldLink RX6 214 "HedgeMaze$Row" "there" "Z"] ++ wsX60 ++ wsX50)
theorem wd_X6_countRows_0 : Cond.fieldLink RX6 43 "HedgeMaze" "rows" "[LHedgeMaze$Row;" ∈ wz_X6_countRows := List.mem_of_getElem? (i := 1) rfl
theorem wd_X6_countRows_1 : Cond.fieldLink RX6 214 "HedgeMaze$Row" "there" "Z" ∈ wz_X6_countRows := List.mem_of_getElem? (i := 2) rfl
theorem in_X6_countRows_X6 : ∀ w ∈ wsX60, w ∈ wz_X6_countRows := fun _ h => List.mem_cons_of_mem _ (List.mem_append_left _ (List.mem_append_right _ h))
theorem in_X6_countRows_X5 : ∀ w ∈ wsX50, w ∈ wz_X6_countRows := fun _ h => List.mem_cons_of_mem _ (List.mem_append_right _ h)
set_option maxHeartbeats 4000000 in
set_option maxRecDepth 100000 in
theorem c_X6_countRows (l : Launch) (dC : Nat → ClassId) (dI : Nat → Nat → Nat) (sz : Nat) (h0 : Nat) (tp : Nat) (ts : Int32) (fn : Int32) (fp : Int32) (rd : Nat) (gd : Nat) (im : Nat) (rw : Nat) (gn : Nat) (ho : Nat) (sq : Nat) (krw : ClassId) (fr : Nat → Option Nat) (r0 : Nat) (rt0 : Int32) (rv0 : Int32) (rz0 : Int32) (rn0 : Nat) (rc0 : ClassId) (rN0 : Nat → Int64) (r1 : Nat) (rt1 : Int32) (rv1 : Int32) (rz1 : Int32) (rn1 : Nat) (rc1 : ClassId) (rN1 : Nat → Int64) (r2 : Nat) (rt2 : Int32) (rv2 : Int32) (rz2 : Int32) (rn2 : Nat) (rc2 : ClassId) (rN2 : Nat → Int64) (r3 : Nat) (rt3 : Int32) (rv3 : Int32) (rz3 : Int32) (rn3 : Nat) (rc3 : ClassId) (rN3 : Nat → Int64) (hf0 : fr 0 = some r0) (hf1 : fr 1 = some r1) (hf2 : fr 2 = some r2) (hf3 : fr 3 = some r3) : Met l yX6_countRows wz_X6_countRows ({ frames := 0, cells := 0, slots := 0, locals := 0 }) (va_Pc [.ref h0] (fun U => U.heap.size = sz ∧ va_P (dC, dI) vwCl [(h0, .inr (6, [.ref tp, .int ts, .int fn, .int fp, .ref rd, .ref gd, .ref im, .ref rw, .ref gn, .ref ho, .ref sq])), (rw, .inl (krw, 4, .inr (.inr (.inr (.inr fr))))), (r0, .inr (5, [.int rt0, .int rv0, .int rz0, .ref rn0])), (rn0, .inl (rc0, 60, .inr (.inl rN0))), (r1, .inr (5, [.int rt1, .int rv1, .int rz1, .ref rn1])), (rn1, .inl (rc1, 60, .inr (.inl rN1))), (r2, .inr (5, [.int rt2, .int rv2, .int rz2, .ref rn2])), (rn2, .inl (rc2, 60, .inr (.inl rN2))), (r3, .inr (5, [.int rt3, .int rv3, .int rz3, .ref rn3])), (rn3, .inl (rc3, 60, .inr (.inl rN3)))] U.heap ∧ va_K (dC, dI) vwCl [(krw, .object RX5), (rc0, .long), (rc1, .long), (rc2, .long), (rc3, .long)] U ∧ va_D (fun _ => True) [(h0, .inr (6, [.ref tp, .int ts, .int fn, .int fp, .ref rd, .ref gd, .ref im, .ref rw, .ref gn, .ref ho, .ref sq])), (rw, .inl (krw, 4, .inr (.inr (.inr (.inr fr))))), (r0, .inr (5, [.int rt0, .int rv0, .int rz0, .ref rn0])), (rn0, .inl (rc0, 60, .inr (.inl rN0))), (r1, .inr (5, [.int rt1, .int rv1, .int rz1, .ref rn1])), (rn1, .inl (rc1, 60, .inr (.inl rN1))), (r2, .inr (5, [.int rt2, .int rv2, .int rz2, .ref rn2])), (rn2, .inl (rc2, 60, .inr (.inl rN2))), (r3, .inr (5, [.int rt3, .int rv3, .int rz3, .ref rn3])), (rn3, .inl (rc3, 60, .inr (.inl rN3)))])) (va_Qi (fun (r : Int32) (u : Unit) => True) (fun (u : Unit) (t : State) => va_P (dC, dI) vwCl [(h0, .inr (6, [.ref tp, .int ts, .int fn, .int fp, .ref rd, .ref gd, .ref im, .ref rw, .ref gn, .ref ho, .ref sq])), (rw, .inl (krw, 4, .inr (.inr (.inr (.inr fr))))), (r0, .inr (5, [.int rt0, .int rv0, .int rz0, .ref rn0])), (rn0, .inl (rc0, 60, .inr (.inl rN0))), (r1, .inr (5, [.int rt1, .int rv1, .int rz1, .ref rn1])), (rn1, .inl (rc1, 60, .inr (.inl rN1))), (r2, .inr (5, [.int rt2, .int rv2, .int rz2, .ref rn2])), (rn2, .inl (rc2, 60, .inr (.inl rN2))), (r3, .inr (5, [.int rt3, .int rv3, .int rz3, .ref rn3])), (rn3, .inl (rc3, 60, .inr (.inl rN3)))] t.heap ∧ va_K (dC, dI) vwCl [] t ∧ va_D (va_A [(h0, .inr (6, [.ref tp, .int ts, .int fn, .int fp, .ref rd, .ref gd, .ref im, .ref rw, .ref gn, .ref ho, .ref sq])), (rw, .inl (krw, 4, .inr (.inr (.inr (.inr fr))))), (r0, .inr (5, [.int rt0, .int rv0, .int rz0, .ref rn0])), (rn0, .inl (rc0, 60, .inr (.inl rN0))), (r1, .inr (5, [.int rt1, .int rv1, .int rz1, .ref rn1])), (rn1, .inl (rc1, 60, .inr (.inl rN1))), (r2, .inr (5, [.int rt2, .int rv2, .int rz2, .ref rn2])), (rn2, .inl (rc2, 60, .inr (.inl rN2))), (r3, .inr (5, [.int rt3, .int rv3, .int rz3, .ref rn3])), (rn3, .inl (rc3, 60, .inr (.inl rN3)))] sz) [(h0, .inr (6, [.ref tp, .int ts, .int fn, .int fp, .ref rd, .ref gd, .ref im, .ref rw, .ref gn, .ref ho, .ref sq])), (rw, .inl (krw, 4, .inr (.inr (.inr (.inr fr))))), (r0, .inr (5, [.int rt0, .int rv0, .int rz0, .ref rn0])), (rn0, .inl (rc0, 60, .inr (.inl rN0))), (r1, .inr (5, [.int rt1, .int rv1, .int rz1, .ref rn1])), (rn1, .inl (rc1, 60, .inr (.inl rN1))), (r2, .inr (5, [.int rt2, .int rv2, .int rz2, .ref rn2])), (rn2, .inl (rc2, 60, .inr (.inl rN2))), (r3, .inr (5, [.int rt3, .int rv3, .int rz3, .ref rn3])), (rn3, .inl (rc3, 60, .inr (.inl rN3)))]) (va_A [(h0, .inr (6, [.ref tp, .int ts, .int fn, .int fp, .ref rd, .ref gd, .ref im, .ref rw, .ref gn, .ref ho, .ref sq])), (rw, .inl (krw, 4, .inr (.inr (.inr (.inr fr))))), (r0, .inr (5, [.int rt0, .int rv0, .int rz0, .ref rn0])), (rn0, .inl (rc0, 60, .inr (.inl rN0))), (r1, .inr (5, [.int rt1, .int rv1, .int rz1, .ref rn1])), (rn1, .inl (rc1, 60, .inr (.inl rN1))), (r2, .inr (5, [.int rt2, .int rv2, .int rz2, .ref rn2])), (rn2, .inl (rc2, 60, .inr (.inl rN2))), (r3, .inr (5, [.int rt3, .int rv3, .int rz3, .ref rn3])), (rn3, .inl (rc3, 60, .inr (.inl rN3)))] sz)) 0 0 (va_A [(h0, .inr (6, [.ref tp, .int ts, .int fn, .int fp, .ref rd, .ref gd, .ref im, .ref rw, .ref gn, .ref ho, .ref sq])), (rw, .inl (krw, 4, .inr (.inr (.inr (.inr fr))))), (r0, .inr (5, [.int rt0, .int rv0, .int rz0, .ref rn0])), (rn0, .inl (rc0, 60, .inr (.inl rN0))), (r1, .inr (5, [.int rt1, .int rv1, .int rz1, .ref rn1])), (rn1, .inl (rc1, 60, .inr (.inl rN1))), (r2, .inr (5, [.int rt2, .int rv2, .int rz2, .ref rn2])), (rn2, .inl (rc2, 60, .inr (.inl rN2))), (r3, .inr (5, [.int rt3, .int rv3, .int rz3, .ref rn3])), (rn3, .inl (rc3, 60, .inr (.inl rN3)))] sz) := by
  refine Met.ofW (cc := cX6_countRows) (maxL := 3) (ret := (some .int)) (by decide) rfl ?_
  intro p e s m args below meth c s₁ B hml hv
  obtain ⟨rfl, hsz, hP, hK, hD0⟩ := hv
  have hx := B.exec
  have hb := B.bytes
  have hr := B.returns
  have hts := atoms_spec (ws := wz_X6_countRows) B.pre
  have hown : s.vm.findClass RX6 = some m.cls := findClass_of_methodNamed B.named
  have hlocks := B.notSynchronized
  subst hsz
  have hD := hD0.self (sz := s.heap.size)
  generalize hAe : va_A [(h0, .inr (6, [.ref tp, .int ts, .int fn, .int fp, .ref rd, .ref gd, .ref im, .ref rw, .ref gn, .ref ho, .ref sq])), (rw, .inl (krw, 4, .inr (.inr (.inr (.inr fr))))), (r0, .inr (5, [.int rt0, .int rv0, .int rz0, .ref rn0])), (rn0, .inl (rc0, 60, .inr (.inl rN0))), (r1, .inr (5, [.int rt1, .int rv1, .int rz1, .ref rn1])), (rn1, .inl (rc1, 60, .inr (.inl rN1))), (r2, .inr (5, [.int rt2, .int rv2, .int rz2, .ref rn2])), (rn2, .inl (rc2, 60, .inr (.inl rN2))), (r3, .inr (5, [.int rt3, .int rv3, .int rz3, .ref rn3])), (rn3, .inl (rc3, 60, .inr (.inl rN3)))] s.heap.size = A at hD ⊢
  have hA : ∀ q : Nat, s.heap.size ≤ q → A q := fun q h => by rw [← hAe]; exact Or.inr h
  have hS : va_S A s.heap s.heap [] := va_S.rf
  have hP : va_P (dC, dI) vwCl [(h0, .inr (6, [.ref tp, .int ts, .int fn, .int fp, .ref rd, .ref gd, .ref im, .ref rw, .ref gn, .ref ho, .ref sq])), (rw, .inl (krw, 4, .inr (.inr (.inr (.inr fr))))), (r0, .inr (5, [.int rt0, .int rv0, .int rz0, .ref rn0])), (rn0, .inl (rc0, 60, .inr (.inl rN0))), (r1, .inr (5, [.int rt1, .int rv1, .int rz1, .ref rn1])), (rn1, .inl (rc1, 60, .inr (.inl rN1))), (r2, .inr (5, [.int rt2, .int rv2, .int rz2, .ref rn2])), (rn2, .inl (rc2, 60, .inr (.inl rN2))), (r3, .inr (5, [.int rt3, .int rv3, .int rz3, .ref rn3])), (rn3, .inl (rc3, 60, .inr (.inl rN3)))] s.heap := hP
  have hl := lv_entry ([.ref h0]) (n := 3) (Nat.le_of_ble_eq_true rfl)
  rw [lg_entry_eq]
  generalize (lg_sl ([.ref h0]) ++ List.replicate (3 - (lg_sl ([.ref h0])).length) Slot.unset).toArray = ls at hl ⊢
  have hl : lv_has ls 3 [(0, .ref h0)] := hl
  refine lv_iconst (v := 0) hx hb dX6_countRows_0 (by decide) ?_
  refine lv_istore_n (lv' := [(1, .int 0), (0, .ref h0)]) hx hb dX6_countRows_1 rfl hl (by decide) rfl (fun ls hl => ?_)
  refine lv_iconst (v := 0) hx hb dX6_countRows_2 (by decide) ?_
  refine lv_istore_n (lv' := [(2, .int 0), (1, .int 0), (0, .ref h0)]) hx hb dX6_countRows_3 rfl hl (by decide) rfl (fun ls hl => ?_)
  refine lv_iload_n hx hb dX6_countRows_4 rfl (lv_at hl 0 rfl) ?_
  refine lv_iconst (v := 4) hx hb dX6_countRows_5 (by decide) ?_
  refine lv_icmp_ge (tgt := 30) hx hb dX6_countRows_6 (by decide) (fun h => absurd h (by decide)) (fun _ => ?_)
  refine lv_aload_n hx hb dX6_countRows_9 rfl (lv_at hl 2 rfl) ?_
  refine va_get (D := (dC, dI)) (ci := 6) (v := .ref rw) (C := RX6) (T := TX6) (N := 11) hx hb hts in_X6_countRows_X6 hown hK hP 0 rfl rfl 7 (by decide) (hts _ wd_X6_countRows_0) (fun _ h9 => h9) rfl dX6_countRows_10 ?_
  refine lv_iload_n hx hb dX6_countRows_13 rfl (lv_at hl 0 rfl) ?_
  refine va_aldq (i := 0) hx hb hK hP 1 0 rfl rfl (vp_in_iff.mpr ⟨by decide, by decide⟩) dX6_countRows_14 ?_
  refine W.eq (g2 := F0 m 15 ls (.ref r0 :: [])) (by rw [show fr (0 : Int32).toNatClampNeg = some r0 from hf0]; rfl) ?_
  refine va_get (D := (dC, dI)) (ci := 5) (v := .int rt0) (C := RX5) (T := TX5) (N := 4) hx hb hts in_X6_countRows_X5 hown hK hP 2 rfl rfl 0 (by decide) (hts _ wd_X6_countRows_1) (fun _ h9 => h9) rfl dX6_countRows_15 ?_
  refine lv_if_eq (tgt := 24) hx hb dX6_countRows_18 (by decide) (fun c_2 => ?_) (fun c_2 => ?_)
  · have c_2 : rt0.toInt = 0 := i_eq (a := rt0) (b := 0) rfl (by decide) c_2
    refine lv_iinc (v := 1) (lv' := [(2, .int 1), (1, .int 0), (0, .ref h0)]) hx hb dX6_countRows_24 hl (k := 0) rfl (by decide) (by decide) rfl (fun ls hl => ?_)
    refine lv_goto (tgt := 4) hx hb dX6_countRows_27 (by decide) ?_
    refine lv_iload_n hx hb dX6_countRows_4 rfl (lv_at hl 0 rfl) ?_
    refine lv_iconst (v := 4) hx hb dX6_countRows_5 (by decide) ?_
    refine lv_icmp_ge (tgt := 30) hx hb dX6_countRows_6 (by decide) (fun h => absurd h (by decide)) (fun _ => ?_)
    refine lv_aload_n hx hb dX6_countRows_9 rfl (lv_at hl 2 rfl) ?_
    refine va_get (D := (dC, dI)) (ci := 6) (v := .ref rw) (C := RX6) (T := TX6) (N := 11) hx hb hts in_X6_countRows_X6 hown hK hP 0 rfl rfl 7 (by decide) (hts _ wd_X6_countRows_0) (fun _ h9 => h9) rfl dX6_countRows_10 ?_
    refine lv_iload_n hx hb dX6_countRows_13 rfl (lv_at hl 0 rfl) ?_
    refine va_aldq (i := 1) hx hb hK hP 1 0 rfl rfl (vp_in_iff.mpr ⟨by decide, by decide⟩) dX6_countRows_14 ?_
    refine W.eq (g2 := F0 m 15 ls (.ref r1 :: [])) (by rw [show fr (1 : Int32).toNatClampNeg = some r1 from hf1]; rfl) ?_
    refine va_get (D := (dC, dI)) (ci := 5) (v := .int rt1) (C := RX5) (T := TX5) (N := 4) hx hb hts in_X6_countRows_X5 hown hK hP 4 rfl rfl 0 (by decide) (hts _ wd_X6_countRows_1) (fun _ h9 => h9) rfl dX6_countRows_15 ?_
    refine lv_if_eq (tgt := 24) hx hb dX6_countRows_18 (by decide) (fun c_4 => ?_) (fun c_4 => ?_)
    · have c_4 : rt1.toInt = 0 := i_eq (a := rt1) (b := 0) rfl (by decide) c_4
      refine lv_iinc (v := 2) (lv' := [(2, .int 2), (1, .int 0), (0, .ref h0)]) hx hb dX6_countRows_24 hl (k := 0) rfl (by decide) (by decide) rfl (fun ls hl => ?_)
      refine lv_goto (tgt := 4) hx hb dX6_countRows_27 (by decide) ?_
      refine lv_iload_n hx hb dX6_countRows_4 rfl (lv_at hl 0 rfl) ?_
      refine lv_iconst (v := 4) hx hb dX6_countRows_5 (by decide) ?_
      refine lv_icmp_ge (tgt := 30) hx hb dX6_countRows_6 (by decide) (fun h => absurd h (by decide)) (fun _ => ?_)
      refine lv_aload_n hx hb dX6_countRows_9 rfl (lv_at hl 2 rfl) ?_
      refine va_get (D := (dC, dI)) (ci := 6) (v := .ref rw) (C := RX6) (T := TX6) (N := 11) hx hb hts in_X6_countRows_X6 hown hK hP 0 rfl rfl 7 (by decide) (hts _ wd_X6_countRows_0) (fun _ h9 => h9) rfl dX6_countRows_10 ?_
      refine lv_iload_n hx hb dX6_countRows_13 rfl (lv_at hl 0 rfl) ?_
      refine va_aldq (i := 2) hx hb hK hP 1 0 rfl rfl (vp_in_iff.mpr ⟨by decide, by decide⟩) dX6_countRows_14 ?_
      refine W.eq (g2 := F0 m 15 ls (.ref r2 :: [])) (by rw [show fr (2 : Int32).toNatClampNeg = some r2 from hf2]; rfl) ?_
      refine va_get (D := (dC, dI)) (ci := 5) (v := .int rt2) (C := RX5) (T := TX5) (N := 4) hx hb hts in_X6_countRows_X5 hown hK hP 6 rfl rfl 0 (by decide) (hts _ wd_X6_countRows_1) (fun _ h9 => h9) rfl dX6_countRows_15 ?_
      refine lv_if_eq (tgt := 24) hx hb dX6_countRows_18 (by decide) (fun c_6 => ?_) (fun c_6 => ?_)
      · have c_6 : rt2.toInt = 0 := i_eq (a := rt2) (b := 0) rfl (by decide) c_6
        refine lv_iinc (v := 3) (lv' := [(2, .int 3), (1, .int 0), (0, .ref h0)]) hx hb dX6_countRows_24 hl (k := 0) rfl (by decide) (by decide) rfl (fun ls hl => ?_)
        refine lv_goto (tgt := 4) hx hb dX6_countRows_27 (by decide) ?_
        refine lv_iload_n hx hb dX6_countRows_4 rfl (lv_at hl 0 rfl) ?_
        refine lv_iconst (v := 4) hx hb dX6_countRows_5 (by decide) ?_
        refine lv_icmp_ge (tgt := 30) hx hb dX6_countRows_6 (by decide) (fun h => absurd h (by decide)) (fun _ => ?_)
        refine lv_aload_n hx hb dX6_countRows_9 rfl (lv_at hl 2 rfl) ?_
        refine va_get (D := (dC, dI)) (ci := 6) (v := .ref rw) (C := RX6) (T := TX6) (N := 11) hx hb hts in_X6_countRows_X6 hown hK hP 0 rfl rfl 7 (by decide) (hts _ wd_X6_countRows_0) (fun _ h9 => h9) rfl dX6_countRows_10 ?_
        refine lv_iload_n hx hb dX6_countRows_13 rfl (lv_at hl 0 rfl) ?_
        refine va_aldq (i := 3) hx hb hK hP 1 0 rfl rfl (vp_in_iff.mpr ⟨by decide, by decide⟩) dX6_countRows_14 ?_
        refine W.eq (g2 := F0 m 15 ls (.ref r3 :: [])) (by rw [show fr (3 : Int32).toNatClampNeg = some r3 from hf3]; rfl) ?_
        refine va_get (D := (dC, dI)) (ci := 5) (v := .int rt3) (C := RX5) (T := TX5) (N := 4) hx hb hts in_X6_countRows_X5 hown hK hP 8 rfl rfl 0 (by decide) (hts _ wd_X6_countRows_1) (fun _ h9 => h9) rfl dX6_countRows_15 ?_
        refine lv_if_eq (tgt := 24) hx hb dX6_countRows_18 (by decide) (fun c_8 => ?_) (fun c_8 => ?_)
        · have c_8 : rt3.toInt = 0 := i_eq (a := rt3) (b := 0) rfl (by decide) c_8
          refine lv_iinc (v := 4) (lv' := [(2, .int 4), (1, .int 0), (0, .ref h0)]) hx hb dX6_countRows_24 hl (k := 0) rfl (by decide) (by decide) rfl (fun ls hl => ?_)
          refine lv_goto (tgt := 4) hx hb dX6_countRows_27 (by decide) ?_
          refine lv_iload_n hx hb dX6_countRows_4 rfl (lv_at hl 0 rfl) ?_
          refine lv_iconst (v := 4) hx hb dX6_countRows_5 (by decide) ?_
          refine lv_icmp_ge (tgt := 30) hx hb dX6_countRows_6 (by decide) (fun _ => ?_) (fun h => absurd (by decide) h)
          refine lv_iload_n hx hb dX6_countRows_30 rfl (lv_at hl 1 rfl) ?_
          have hP9 := hP.sub (ws' := [(h0, .inr (6, [.ref tp, .int ts, .int fn, .int fp, .ref rd, .ref gd, .ref im, .ref rw, .ref gn, .ref ho, .ref sq])), (rw, .inl (krw, 4, .inr (.inr (.inr (.inr fr))))), (r0, .inr (5, [.int rt0, .int rv0, .int rz0, .ref rn0])), (rn0, .inl (rc0, 60, .inr (.inl rN0))), (r1, .inr (5, [.int rt1, .int rv1, .int rz1, .ref rn1])), (rn1, .inl (rc1, 60, .inr (.inl rN1))), (r2, .inr (5, [.int rt2, .int rv2, .int rz2, .ref rn2])), (rn2, .inl (rc2, 60, .inr (.inl rN2))), (r3, .inr (5, [.int rt3, .int rv3, .int rz3, .ref rn3])), (rn3, .inl (rc3, 60, .inr (.inl rN3)))]) [0, 1, 2, 3, 4, 5, 6, 7, 8, 9] rfl
          have hD9 := hD.sub (ws' := [(h0, .inr (6, [.ref tp, .int ts, .int fn, .int fp, .ref rd, .ref gd, .ref im, .ref rw, .ref gn, .ref ho, .ref sq])), (rw, .inl (krw, 4, .inr (.inr (.inr (.inr fr))))), (r0, .inr (5, [.int rt0, .int rv0, .int rz0, .ref rn0])), (rn0, .inl (rc0, 60, .inr (.inl rN0))), (r1, .inr (5, [.int rt1, .int rv1, .int rz1, .ref rn1])), (rn1, .inl (rc1, 60, .inr (.inl rN1))), (r2, .inr (5, [.int rt2, .int rv2, .int rz2, .ref rn2])), (rn2, .inl (rc2, 60, .inr (.inl rN2))), (r3, .inr (5, [.int rt3, .int rv3, .int rz3, .ref rn3])), (rn3, .inl (rc3, 60, .inr (.inl rN3)))]) [0, 1, 2, 3, 4, 5, 6, 7, 8, 9] (by decide) rfl
          have hK9 := hK.sub (tys' := []) [] rfl
          refine W.widen (k := 0) (n := 0) (by omega) (by omega) ?_
          exact W.iret (v := 0) hx hb hr (fun t ht hW => ⟨⟨0, (), rfl, trivial, by rw [ht]; exact hP9, va_K.moved hW.alike hK9, hD9⟩, hS.F ht⟩) hS.2.2 dX6_countRows_31
        · have c_8 : rt3.toInt ≠ 0 := i_ne (a := rt3) (b := 0) rfl (by decide) c_8
          refine lv_iinc (v := 1) (lv' := [(1, .int 1), (2, .int 3), (0, .ref h0)]) hx hb dX6_countRows_21 hl (k := 1) rfl (by decide) (by decide) rfl (fun ls hl => ?_)
          refine lv_iinc (v := 4) (lv' := [(2, .int 4), (1, .int 1), (0, .ref h0)]) hx hb dX6_countRows_24 hl (k := 1) rfl (by decide) (by decide) rfl (fun ls hl => ?_)
          refine lv_goto (tgt := 4) hx hb dX6_countRows_27 (by decide) ?_
          refine lv_iload_n hx hb dX6_countRows_4 rfl (lv_at hl 0 rfl) ?_
          refine lv_iconst (v := 4) hx hb dX6_countRows_5 (by decide) ?_
          refine lv_icmp_ge (tgt := 30) hx hb dX6_countRows_6 (by decide) (fun _ => ?_) (fun h => absurd (by decide) h)
          refine lv_iload_n hx hb dX6_countRows_30 rfl (lv_at hl 1 rfl) ?_
          have hP9 := hP.sub (ws' := [(h0, .inr (6, [.ref tp, .int ts, .int fn, .int fp, .ref rd, .ref gd, .ref im, .ref rw, .ref gn, .ref ho, .ref sq])), (rw, .inl (krw, 4, .inr (.inr (.inr (.inr fr))))), (r0, .inr (5, [.int rt0, .int rv0, .int rz0, .ref rn0])), (rn0, .inl (rc0, 60, .inr (.inl rN0))), (r1, .inr (5, [.int rt1, .int rv1, .int rz1, .ref rn1])), (rn1, .inl (rc1, 60, .inr (.inl rN1))), (r2, .inr (5, [.int rt2, .int rv2, .int rz2, .ref rn2])), (rn2, .inl (rc2, 60, .inr (.inl rN2))), (r3, .inr (5, [.int rt3, .int rv3, .int rz3, .ref rn3])), (rn3, .inl (rc3, 60, .inr (.inl rN3)))]) [0, 1, 2, 3, 4, 5, 6, 7, 8, 9] rfl
          have hD9 := hD.sub (ws' := [(h0, .inr (6, [.ref tp, .int ts, .int fn, .int fp, .ref rd, .ref gd, .ref im, .ref rw, .ref gn, .ref ho, .ref sq])), (rw, .inl (krw, 4, .inr (.inr (.inr (.inr fr))))), (r0, .inr (5, [.int rt0, .int rv0, .int rz0, .ref rn0])), (rn0, .inl (rc0, 60, .inr (.inl rN0))), (r1, .inr (5, [.int rt1, .int rv1, .int rz1, .ref rn1])), (rn1, .inl (rc1, 60, .inr (.inl rN1))), (r2, .inr (5, [.int rt2, .int rv2, .int rz2, .ref rn2])), (rn2, .inl (rc2, 60, .inr (.inl rN2))), (r3, .inr (5, [.int rt3, .int rv3, .int rz3, .ref rn3])), (rn3, .inl (rc3, 60, .inr (.inl rN3)))]) [0, 1, 2, 3, 4, 5, 6, 7, 8, 9] (by decide) rfl
          have hK9 := hK.sub (tys' := []) [] rfl
          refine W.widen (k := 0) (n := 0) (by omega) (by omega) ?_
          exact W.iret (v := 1) hx hb hr (fun t ht hW => ⟨⟨1, (), rfl, trivial, by rw [ht]; exact hP9, va_K.moved hW.alike hK9, hD9⟩, hS.F ht⟩) hS.2.2 dX6_countRows_31
      · have c_6 : rt2.toInt ≠ 0 := i_ne (a := rt2) (b := 0) rfl (by decide) c_6
        refine lv_iinc (v := 1) (lv' := [(1, .int 1), (2, .int 2), (0, .ref h0)]) hx hb dX6_countRows_21 hl (k := 1) rfl (by decide) (by decide) rfl (fun ls hl => ?_)
        refine lv_iinc (v := 3) (lv' := [(2, .int 3), (1, .int 1), (0, .ref h0)]) hx hb dX6_countRows_24 hl (k := 1) rfl (by decide) (by decide) rfl (fun ls hl => ?_)
        refine lv_goto (tgt := 4) hx hb dX6_countRows_27 (by decide) ?_
        refine lv_iload_n hx hb dX6_countRows_4 rfl (lv_at hl 0 rfl) ?_
        refine lv_iconst (v := 4) hx hb dX6_countRows_5 (by decide) ?_
        refine lv_icmp_ge (tgt := 30) hx hb dX6_countRows_6 (by decide) (fun h => absurd h (by decide)) (fun _ => ?_)
        refine lv_aload_n hx hb dX6_countRows_9 rfl (lv_at hl 2 rfl) ?_
        refine va_get (D := (dC, dI)) (ci := 6) (v := .ref rw) (C := RX6) (T := TX6) (N := 11) hx hb hts in_X6_countRows_X6 hown hK hP 0 rfl rfl 7 (by decide) (hts _ wd_X6_countRows_0) (fun _ h9 => h9) rfl dX6_countRows_10 ?_
        refine lv_iload_n hx hb dX6_countRows_13 rfl (lv_at hl 0 rfl) ?_
        refine va_aldq (i := 3) hx hb hK hP 1 0 rfl rfl (vp_in_iff.mpr ⟨by decide, by decide⟩) dX6_countRows_14 ?_
        refine W.eq (g2 := F0 m 15 ls (.ref r3 :: [])) (by rw [show fr (3 : Int32).toNatClampNeg = some r3 from hf3]; rfl) ?_
        refine va_get (D := (dC, dI)) (ci := 5) (v := .int rt3) (C := RX5) (T := TX5) (N := 4) hx hb hts in_X6_countRows_X5 hown hK hP 8 rfl rfl 0 (by decide) (hts _ wd_X6_countRows_1) (fun _ h9 => h9) rfl dX6_countRows_15 ?_
        refine lv_if_eq (tgt := 24) hx hb dX6_countRows_18 (by decide) (fun c_12 => ?_) (fun c_12 => ?_)
        · have c_12 : rt3.toInt = 0 := i_eq (a := rt3) (b := 0) rfl (by decide) c_12
          refine lv_iinc (v := 4) (lv' := [(2, .int 4), (1, .int 1), (0, .ref h0)]) hx hb dX6_countRows_24 hl (k := 0) rfl (by decide) (by decide) rfl (fun ls hl => ?_)
          refine lv_goto (tgt := 4) hx hb dX6_countRows_27 (by decide) ?_
          refine lv_iload_n hx hb dX6_countRows_4 rfl (lv_at hl 0 rfl) ?_
          refine lv_iconst (v := 4) hx hb dX6_countRows_5 (by decide) ?_
          refine lv_icmp_ge (tgt := 30) hx hb dX6_countRows_6 (by decide) (fun _ => ?_) (fun h => absurd (by decide) h)
          refine lv_iload_n hx hb dX6_countRows_30 rfl (lv_at hl 1 rfl) ?_
          have hP9 := hP.sub (ws' := [(h0, .inr (6, [.ref tp, .int ts, .int fn, .int fp, .ref rd, .ref gd, .ref im, .ref rw, .ref gn, .ref ho, .ref sq])), (rw, .inl (krw, 4, .inr (.inr (.inr (.inr fr))))), (r0, .inr (5, [.int rt0, .int rv0, .int rz0, .ref rn0])), (rn0, .inl (rc0, 60, .inr (.inl rN0))), (r1, .inr (5, [.int rt1, .int rv1, .int rz1, .ref rn1])), (rn1, .inl (rc1, 60, .inr (.inl rN1))), (r2, .inr (5, [.int rt2, .int rv2, .int rz2, .ref rn2])), (rn2, .inl (rc2, 60, .inr (.inl rN2))), (r3, .inr (5, [.int rt3, .int rv3, .int rz3, .ref rn3])), (rn3, .inl (rc3, 60, .inr (.inl rN3)))]) [0, 1, 2, 3, 4, 5, 6, 7, 8, 9] rfl
          have hD9 := hD.sub (ws' := [(h0, .inr (6, [.ref tp, .int ts, .int fn, .int fp, .ref rd, .ref gd, .ref im, .ref rw, .ref gn, .ref ho, .ref sq])), (rw, .inl (krw, 4, .inr (.inr (.inr (.inr fr))))), (r0, .inr (5, [.int rt0, .int rv0, .int rz0, .ref rn0])), (rn0, .inl (rc0, 60, .inr (.inl rN0))), (r1, .inr (5, [.int rt1, .int rv1, .int rz1, .ref rn1])), (rn1, .inl (rc1, 60, .inr (.inl rN1))), (r2, .inr (5, [.int rt2, .int rv2, .int rz2, .ref rn2])), (rn2, .inl (rc2, 60, .inr (.inl rN2))), (r3, .inr (5, [.int rt3, .int rv3, .int rz3, .ref rn3])), (rn3, .inl (rc3, 60, .inr (.inl rN3)))]) [0, 1, 2, 3, 4, 5, 6, 7, 8, 9] (by decide) rfl
          have hK9 := hK.sub (tys' := []) [] rfl
          refine W.widen (k := 0) (n := 0) (by omega) (by omega) ?_
          exact W.iret (v := 1) hx hb hr (fun t ht hW => ⟨⟨1, (), rfl, trivial, by rw [ht]; exact hP9, va_K.moved hW.alike hK9, hD9⟩, hS.F ht⟩) hS.2.2 dX6_countRows_31
        · have c_12 : rt3.toInt ≠ 0 := i_ne (a := rt3) (b := 0) rfl (by decide) c_12
          refine lv_iinc (v := 2) (lv' := [(1, .int 2), (2, .int 3), (0, .ref h0)]) hx hb dX6_countRows_21 hl (k := 1) rfl (by decide) (by decide) rfl (fun ls hl => ?_)
          refine lv_iinc (v := 4) (lv' := [(2, .int 4), (1, .int 2), (0, .ref h0)]) hx hb dX6_countRows_24 hl (k := 1) rfl (by decide) (by decide) rfl (fun ls hl => ?_)
          refine lv_goto (tgt := 4) hx hb dX6_countRows_27 (by decide) ?_
          refine lv_iload_n hx hb dX6_countRows_4 rfl (lv_at hl 0 rfl) ?_
          refine lv_iconst (v := 4) hx hb dX6_countRows_5 (by decide) ?_
          refine lv_icmp_ge (tgt := 30) hx hb dX6_countRows_6 (by decide) (fun _ => ?_) (fun h => absurd (by decide) h)
          refine lv_iload_n hx hb dX6_countRows_30 rfl (lv_at hl 1 rfl) ?_
          have hP9 := hP.sub (ws' := [(h0, .inr (6, [.ref tp, .int ts, .int fn, .int fp, .ref rd, .ref gd, .ref im, .ref rw, .ref gn, .ref ho, .ref sq])), (rw, .inl (krw, 4, .inr (.inr (.inr (.inr fr))))), (r0, .inr (5, [.int rt0, .int rv0, .int rz0, .ref rn0])), (rn0, .inl (rc0, 60, .inr (.inl rN0))), (r1, .inr (5, [.int rt1, .int rv1, .int rz1, .ref rn1])), (rn1, .inl (rc1, 60, .inr (.inl rN1))), (r2, .inr (5, [.int rt2, .int rv2, .int rz2, .ref rn2])), (rn2, .inl (rc2, 60, .inr (.inl rN2))), (r3, .inr (5, [.int rt3, .int rv3, .int rz3, .ref rn3])), (rn3, .inl (rc3, 60, .inr (.inl rN3)))]) [0, 1, 2, 3, 4, 5, 6, 7, 8, 9] rfl
          have hD9 := hD.sub (ws' := [(h0, .inr (6, [.ref tp, .int ts, .int fn, .int fp, .ref rd, .ref gd, .ref im, .ref rw, .ref gn, .ref ho, .ref sq])), (rw, .inl (krw, 4, .inr (.inr (.inr (.inr fr))))), (r0, .inr (5, [.int rt0, .int rv0, .int rz0, .ref rn0])), (rn0, .inl (rc0, 60, .inr (.inl rN0))), (r1, .inr (5, [.int rt1, .int rv1, .int rz1, .ref rn1])), (rn1, .inl (rc1, 60, .inr (.inl rN1))), (r2, .inr (5, [.int rt2, .int rv2, .int rz2, .ref rn2])), (rn2, .inl (rc2, 60, .inr (.inl rN2))), (r3, .inr (5, [.int rt3, .int rv3, .int rz3, .ref rn3])), (rn3, .inl (rc3, 60, .inr (.inl rN3)))]) [0, 1, 2, 3, 4, 5, 6, 7, 8, 9] (by decide) rfl
          have hK9 := hK.sub (tys' := []) [] rfl
          refine W.widen (k := 0) (n := 0) (by omega) (by omega) ?_
          exact W.iret (v := 2) hx hb hr (fun t ht hW => ⟨⟨2, (), rfl, trivial, by rw [ht]; exact hP9, va_K.moved hW.alike hK9, hD9⟩, hS.F ht⟩) hS.2.2 dX6_countRows_31
    · have c_4 : rt1.toInt ≠ 0 := i_ne (a := rt1) (b := 0) rfl (by decide) c_4
      refine lv_iinc (v := 1) (lv' := [(1, .int 1), (2, .int 1), (0, .ref h0)]) hx hb dX6_countRows_21 hl (k := 1) rfl (by decide) (by decide) rfl (fun ls hl => ?_)
      refine lv_iinc (v := 2) (lv' := [(2, .int 2), (1, .int 1), (0, .ref h0)]) hx hb dX6_countRows_24 hl (k := 1) rfl (by decide) (by decide) rfl (fun ls hl => ?_)
      refine lv_goto (tgt := 4) hx hb dX6_countRows_27 (by decide) ?_
      refine lv_iload_n hx hb dX6_countRows_4 rfl (lv_at hl 0 rfl) ?_
      refine lv_iconst (v := 4) hx hb dX6_countRows_5 (by decide) ?_
      refine lv_icmp_ge (tgt := 30) hx hb dX6_countRows_6 (by decide) (fun h => absurd h (by decide)) (fun _ => ?_)
      refine lv_aload_n hx hb dX6_countRows_9 rfl (lv_at hl 2 rfl) ?_
      refine va_get (D := (dC, dI)) (ci := 6) (v := .ref rw) (C := RX6) (T := TX6) (N := 11) hx hb hts in_X6_countRows_X6 hown hK hP 0 rfl rfl 7 (by decide) (hts _ wd_X6_countRows_0) (fun _ h9 => h9) rfl dX6_countRows_10 ?_
      refine lv_iload_n hx hb dX6_countRows_13 rfl (lv_at hl 0 rfl) ?_
      refine va_aldq (i := 2) hx hb hK hP 1 0 rfl rfl (vp_in_iff.mpr ⟨by decide, by decide⟩) dX6_countRows_14 ?_
      refine W.eq (g2 := F0 m 15 ls (.ref r2 :: [])) (by rw [show fr (2 : Int32).toNatClampNeg = some r2 from hf2]; rfl) ?_
      refine va_get (D := (dC, dI)) (ci := 5) (v := .int rt2) (C := RX5) (T := TX5) (N := 4) hx hb hts in_X6_countRows_X5 hown hK hP 6 rfl rfl 0 (by decide) (hts _ wd_X6_countRows_1) (fun _ h9 => h9) rfl dX6_countRows_15 ?_
      refine lv_if_eq (tgt := 24) hx hb dX6_countRows_18 (by decide) (fun c_16 => ?_) (fun c_16 => ?_)
      · have c_16 : rt2.toInt = 0 := i_eq (a := rt2) (b := 0) rfl (by decide) c_16
        refine lv_iinc (v := 3) (lv' := [(2, .int 3), (1, .int 1), (0, .ref h0)]) hx hb dX6_countRows_24 hl (k := 0) rfl (by decide) (by decide) rfl (fun ls hl => ?_)
        refine lv_goto (tgt := 4) hx hb dX6_countRows_27 (by decide) ?_
        refine lv_iload_n hx hb dX6_countRows_4 rfl (lv_at hl 0 rfl) ?_
        refine lv_iconst (v := 4) hx hb dX6_countRows_5 (by decide) ?_
        refine lv_icmp_ge (tgt := 30) hx hb dX6_countRows_6 (by decide) (fun h => absurd h (by decide)) (fun _ => ?_)
        refine lv_aload_n hx hb dX6_countRows_9 rfl (lv_at hl 2 rfl) ?_
        refine va_get (D := (dC, dI)) (ci := 6) (v := .ref rw) (C := RX6) (T := TX6) (N := 11) hx hb hts in_X6_countRows_X6 hown hK hP 0 rfl rfl 7 (by decide) (hts _ wd_X6_countRows_0) (fun _ h9 => h9) rfl dX6_countRows_10 ?_
        refine lv_iload_n hx hb dX6_countRows_13 rfl (lv_at hl 0 rfl) ?_
        refine va_aldq (i := 3) hx hb hK hP 1 0 rfl rfl (vp_in_iff.mpr ⟨by decide, by decide⟩) dX6_countRows_14 ?_
        refine W.eq (g2 := F0 m 15 ls (.ref r3 :: [])) (by rw [show fr (3 : Int32).toNatClampNeg = some r3 from hf3]; rfl) ?_
        refine va_get (D := (dC, dI)) (ci := 5) (v := .int rt3) (C := RX5) (T := TX5) (N := 4) hx hb hts in_X6_countRows_X5 hown hK hP 8 rfl rfl 0 (by decide) (hts _ wd_X6_countRows_1) (fun _ h9 => h9) rfl dX6_countRows_15 ?_
        refine lv_if_eq (tgt := 24) hx hb dX6_countRows_18 (by decide) (fun c_18 => ?_) (fun c_18 => ?_)
        · have c_18 : rt3.toInt = 0 := i_eq (a := rt3) (b := 0) rfl (by decide) c_18
          refine lv_iinc (v := 4) (lv' := [(2, .int 4), (1, .int 1), (0, .ref h0)]) hx hb dX6_countRows_24 hl (k := 0) rfl (by decide) (by decide) rfl (fun ls hl => ?_)
          refine lv_goto (tgt := 4) hx hb dX6_countRows_27 (by decide) ?_
          refine lv_iload_n hx hb dX6_countRows_4 rfl (lv_at hl 0 rfl) ?_
          refine lv_iconst (v := 4) hx hb dX6_countRows_5 (by decide) ?_
          refine lv_icmp_ge (tgt := 30) hx hb dX6_countRows_6 (by decide) (fun _ => ?_) (fun h => absurd (by decide) h)
          refine lv_iload_n hx hb dX6_countRows_30 rfl (lv_at hl 1 rfl) ?_
          have hP9 := hP.sub (ws' := [(h0, .inr (6, [.ref tp, .int ts, .int fn, .int fp, .ref rd, .ref gd, .ref im, .ref rw, .ref gn, .ref ho, .ref sq])), (rw, .inl (krw, 4, .inr (.inr (.inr (.inr fr))))), (r0, .inr (5, [.int rt0, .int rv0, .int rz0, .ref rn0])), (rn0, .inl (rc0, 60, .inr (.inl rN0))), (r1, .inr (5, [.int rt1, .int rv1, .int rz1, .ref rn1])), (rn1, .inl (rc1, 60, .inr (.inl rN1))), (r2, .inr (5, [.int rt2, .int rv2, .int rz2, .ref rn2])), (rn2, .inl (rc2, 60, .inr (.inl rN2))), (r3, .inr (5, [.int rt3, .int rv3, .int rz3, .ref rn3])), (rn3, .inl (rc3, 60, .inr (.inl rN3)))]) [0, 1, 2, 3, 4, 5, 6, 7, 8, 9] rfl
          have hD9 := hD.sub (ws' := [(h0, .inr (6, [.ref tp, .int ts, .int fn, .int fp, .ref rd, .ref gd, .ref im, .ref rw, .ref gn, .ref ho, .ref sq])), (rw, .inl (krw, 4, .inr (.inr (.inr (.inr fr))))), (r0, .inr (5, [.int rt0, .int rv0, .int rz0, .ref rn0])), (rn0, .inl (rc0, 60, .inr (.inl rN0))), (r1, .inr (5, [.int rt1, .int rv1, .int rz1, .ref rn1])), (rn1, .inl (rc1, 60, .inr (.inl rN1))), (r2, .inr (5, [.int rt2, .int rv2, .int rz2, .ref rn2])), (rn2, .inl (rc2, 60, .inr (.inl rN2))), (r3, .inr (5, [.int rt3, .int rv3, .int rz3, .ref rn3])), (rn3, .inl (rc3, 60, .inr (.inl rN3)))]) [0, 1, 2, 3, 4, 5, 6, 7, 8, 9] (by decide) rfl
          have hK9 := hK.sub (tys' := []) [] rfl
          refine W.widen (k := 0) (n := 0) (by omega) (by omega) ?_
          exact W.iret (v := 1) hx hb hr (fun t ht hW => ⟨⟨1, (), rfl, trivial, by rw [ht]; exact hP9, va_K.moved hW.alike hK9, hD9⟩, hS.F ht⟩) hS.2.2 dX6_countRows_31
        · have c_18 : rt3.toInt ≠ 0 := i_ne (a := rt3) (b := 0) rfl (by decide) c_18
          refine lv_iinc (v := 2) (lv' := [(1, .int 2), (2, .int 3), (0, .ref h0)]) hx hb dX6_countRows_21 hl (k := 1) rfl (by decide) (by decide) rfl (fun ls hl => ?_)
          refine lv_iinc (v := 4) (lv' := [(2, .int 4), (1, .int 2), (0, .ref h0)]) hx hb dX6_countRows_24 hl (k := 1) rfl (by decide) (by decide) rfl (fun ls hl => ?_)
          refine lv_goto (tgt := 4) hx hb dX6_countRows_27 (by decide) ?_
          refine lv_iload_n hx hb dX6_countRows_4 rfl (lv_at hl 0 rfl) ?_
          refine lv_iconst (v := 4) hx hb dX6_countRows_5 (by decide) ?_
          refine lv_icmp_ge (tgt := 30) hx hb dX6_countRows_6 (by decide) (fun _ => ?_) (fun h => absurd (by decide) h)
          refine lv_iload_n hx hb dX6_countRows_30 rfl (lv_at hl 1 rfl) ?_
          have hP9 := hP.sub (ws' := [(h0, .inr (6, [.ref tp, .int ts, .int fn, .int fp, .ref rd, .ref gd, .ref im, .ref rw, .ref gn, .ref ho, .ref sq])), (rw, .inl (krw, 4, .inr (.inr (.inr (.inr fr))))), (r0, .inr (5, [.int rt0, .int rv0, .int rz0, .ref rn0])), (rn0, .inl (rc0, 60, .inr (.inl rN0))), (r1, .inr (5, [.int rt1, .int rv1, .int rz1, .ref rn1])), (rn1, .inl (rc1, 60, .inr (.inl rN1))), (r2, .inr (5, [.int rt2, .int rv2, .int rz2, .ref rn2])), (rn2, .inl (rc2, 60, .inr (.inl rN2))), (r3, .inr (5, [.int rt3, .int rv3, .int rz3, .ref rn3])), (rn3, .inl (rc3, 60, .inr (.inl rN3)))]) [0, 1, 2, 3, 4, 5, 6, 7, 8, 9] rfl
          have hD9 := hD.sub (ws' := [(h0, .inr (6, [.ref tp, .int ts, .int fn, .int fp, .ref rd, .ref gd, .ref im, .ref rw, .ref gn, .ref ho, .ref sq])), (rw, .inl (krw, 4, .inr (.inr (.inr (.inr fr))))), (r0, .inr (5, [.int rt0, .int rv0, .int rz0, .ref rn0])), (rn0, .inl (rc0, 60, .inr (.inl rN0))), (r1, .inr (5, [.int rt1, .int rv1, .int rz1, .ref rn1])), (rn1, .inl (rc1, 60, .inr (.inl rN1))), (r2, .inr (5, [.int rt2, .int rv2, .int rz2, .ref rn2])), (rn2, .inl (rc2, 60, .inr (.inl rN2))), (r3, .inr (5, [.int rt3, .int rv3, .int rz3, .ref rn3])), (rn3, .inl (rc3, 60, .inr (.inl rN3)))]) [0, 1, 2, 3, 4, 5, 6, 7, 8, 9] (by decide) rfl
          have hK9 := hK.sub (tys' := []) [] rfl
          refine W.widen (k := 0) (n := 0) (by omega) (by omega) ?_
          exact W.iret (v := 2) hx hb hr (fun t ht hW => ⟨⟨2, (), rfl, trivial, by rw [ht]; exact hP9, va_K.moved hW.alike hK9, hD9⟩, hS.F ht⟩) hS.2.2 dX6_countRows_31
      · have c_16 : rt2.toInt ≠ 0 := i_ne (a := rt2) (b := 0) rfl (by decide) c_16
        refine lv_iinc (v := 2) (lv' := [(1, .int 2), (2, .int 2), (0, .ref h0)]) hx hb dX6_countRows_21 hl (k := 1) rfl (by decide) (by decide) rfl (fun ls hl => ?_)
        refine lv_iinc (v := 3) (lv' := [(2, .int 3), (1, .int 2), (0, .ref h0)]) hx hb dX6_countRows_24 hl (k := 1) rfl (by decide) (by decide) rfl (fun ls hl => ?_)
        refine lv_goto (tgt := 4) hx hb dX6_countRows_27 (by decide) ?_
        refine lv_iload_n hx hb dX6_countRows_4 rfl (lv_at hl 0 rfl) ?_
        refine lv_iconst (v := 4) hx hb dX6_countRows_5 (by decide) ?_
        refine lv_icmp_ge (tgt := 30) hx hb dX6_countRows_6 (by decide) (fun h => absurd h (by decide)) (fun _ => ?_)
        refine lv_aload_n hx hb dX6_countRows_9 rfl (lv_at hl 2 rfl) ?_
        refine va_get (D := (dC, dI)) (ci := 6) (v := .ref rw) (C := RX6) (T := TX6) (N := 11) hx hb hts in_X6_countRows_X6 hown hK hP 0 rfl rfl 7 (by decide) (hts _ wd_X6_countRows_0) (fun _ h9 => h9) rfl dX6_countRows_10 ?_
        refine lv_iload_n hx hb dX6_countRows_13 rfl (lv_at hl 0 rfl) ?_
        refine va_aldq (i := 3) hx hb hK hP 1 0 rfl rfl (vp_in_iff.mpr ⟨by decide, by decide⟩) dX6_countRows_14 ?_
        refine W.eq (g2 := F0 m 15 ls (.ref r3 :: [])) (by rw [show fr (3 : Int32).toNatClampNeg = some r3 from hf3]; rfl) ?_
        refine va_get (D := (dC, dI)) (ci := 5) (v := .int rt3) (C := RX5) (T := TX5) (N := 4) hx hb hts in_X6_countRows_X5 hown hK hP 8 rfl rfl 0 (by decide) (hts _ wd_X6_countRows_1) (fun _ h9 => h9) rfl dX6_countRows_15 ?_
        refine lv_if_eq (tgt := 24) hx hb dX6_countRows_18 (by decide) (fun c_22 => ?_) (fun c_22 => ?_)
        · have c_22 : rt3.toInt = 0 := i_eq (a := rt3) (b := 0) rfl (by decide) c_22
          refine lv_iinc (v := 4) (lv' := [(2, .int 4), (1, .int 2), (0, .ref h0)]) hx hb dX6_countRows_24 hl (k := 0) rfl (by decide) (by decide) rfl (fun ls hl => ?_)
          refine lv_goto (tgt := 4) hx hb dX6_countRows_27 (by decide) ?_
          refine lv_iload_n hx hb dX6_countRows_4 rfl (lv_at hl 0 rfl) ?_
          refine lv_iconst (v := 4) hx hb dX6_countRows_5 (by decide) ?_
          refine lv_icmp_ge (tgt := 30) hx hb dX6_countRows_6 (by decide) (fun _ => ?_) (fun h => absurd (by decide) h)
          refine lv_iload_n hx hb dX6_countRows_30 rfl (lv_at hl 1 rfl) ?_
          have hP9 := hP.sub (ws' := [(h0, .inr (6, [.ref tp, .int ts, .int fn, .int fp, .ref rd, .ref gd, .ref im, .ref rw, .ref gn, .ref ho, .ref sq])), (rw, .inl (krw, 4, .inr (.inr (.inr (.inr fr))))), (r0, .inr (5, [.int rt0, .int rv0, .int rz0, .ref rn0])), (rn0, .inl (rc0, 60, .inr (.inl rN0))), (r1, .inr (5, [.int rt1, .int rv1, .int rz1, .ref rn1])), (rn1, .inl (rc1, 60, .inr (.inl rN1))), (r2, .inr (5, [.int rt2, .int rv2, .int rz2, .ref rn2])), (rn2, .inl (rc2, 60, .inr (.inl rN2))), (r3, .inr (5, [.int rt3, .int rv3, .int rz3, .ref rn3])), (rn3, .inl (rc3, 60, .inr (.inl rN3)))]) [0, 1, 2, 3, 4, 5, 6, 7, 8, 9] rfl
          have hD9 := hD.sub (ws' := [(h0, .inr (6, [.ref tp, .int ts, .int fn, .int fp, .ref rd, .ref gd, .ref im, .ref rw, .ref gn, .ref ho, .ref sq])), (rw, .inl (krw, 4, .inr (.inr (.inr (.inr fr))))), (r0, .inr (5, [.int rt0, .int rv0, .int rz0, .ref rn0])), (rn0, .inl (rc0, 60, .inr (.inl rN0))), (r1, .inr (5, [.int rt1, .int rv1, .int rz1, .ref rn1])), (rn1, .inl (rc1, 60, .inr (.inl rN1))), (r2, .inr (5, [.int rt2, .int rv2, .int rz2, .ref rn2])), (rn2, .inl (rc2, 60, .inr (.inl rN2))), (r3, .inr (5, [.int rt3, .int rv3, .int rz3, .ref rn3])), (rn3, .inl (rc3, 60, .inr (.inl rN3)))]) [0, 1, 2, 3, 4, 5, 6, 7, 8, 9] (by decide) rfl
          have hK9 := hK.sub (tys' := []) [] rfl
          refine W.widen (k := 0) (n := 0) (by omega) (by omega) ?_
          exact W.iret (v := 2) hx hb hr (fun t ht hW => ⟨⟨2, (), rfl, trivial, by rw [ht]; exact hP9, va_K.moved hW.alike hK9, hD9⟩, hS.F ht⟩) hS.2.2 dX6_countRows_31
        · have c_22 : rt3.toInt ≠ 0 := i_ne (a := rt3) (b := 0) rfl (by decide) c_22
          refine lv_iinc (v := 3) (lv' := [(1, .int 3), (2, .int 3), (0, .ref h0)]) hx hb dX6_countRows_21 hl (k := 1) rfl (by decide) (by decide) rfl (fun ls hl => ?_)
          refine lv_iinc (v := 4) (lv' := [(2, .int 4), (1, .int 3), (0, .ref h0)]) hx hb dX6_countRows_24 hl (k := 1) rfl (by decide) (by decide) rfl (fun ls hl => ?_)
          refine lv_goto (tgt := 4) hx hb dX6_countRows_27 (by decide) ?_
          refine lv_iload_n hx hb dX6_countRows_4 rfl (lv_at hl 0 rfl) ?_
          refine lv_iconst (v := 4) hx hb dX6_countRows_5 (by decide) ?_
          refine lv_icmp_ge (tgt := 30) hx hb dX6_countRows_6 (by decide) (fun _ => ?_) (fun h => absurd (by decide) h)
          refine lv_iload_n hx hb dX6_countRows_30 rfl (lv_at hl 1 rfl) ?_
          have hP9 := hP.sub (ws' := [(h0, .inr (6, [.ref tp, .int ts, .int fn, .int fp, .ref rd, .ref gd, .ref im, .ref rw, .ref gn, .ref ho, .ref sq])), (rw, .inl (krw, 4, .inr (.inr (.inr (.inr fr))))), (r0, .inr (5, [.int rt0, .int rv0, .int rz0, .ref rn0])), (rn0, .inl (rc0, 60, .inr (.inl rN0))), (r1, .inr (5, [.int rt1, .int rv1, .int rz1, .ref rn1])), (rn1, .inl (rc1, 60, .inr (.inl rN1))), (r2, .inr (5, [.int rt2, .int rv2, .int rz2, .ref rn2])), (rn2, .inl (rc2, 60, .inr (.inl rN2))), (r3, .inr (5, [.int rt3, .int rv3, .int rz3, .ref rn3])), (rn3, .inl (rc3, 60, .inr (.inl rN3)))]) [0, 1, 2, 3, 4, 5, 6, 7, 8, 9] rfl
          have hD9 := hD.sub (ws' := [(h0, .inr (6, [.ref tp, .int ts, .int fn, .int fp, .ref rd, .ref gd, .ref im, .ref rw, .ref gn, .ref ho, .ref sq])), (rw, .inl (krw, 4, .inr (.inr (.inr (.inr fr))))), (r0, .inr (5, [.int rt0, .int rv0, .int rz0, .ref rn0])), (rn0, .inl (rc0, 60, .inr (.inl rN0))), (r1, .inr (5, [.int rt1, .int rv1, .int rz1, .ref rn1])), (rn1, .inl (rc1, 60, .inr (.inl rN1))), (r2, .inr (5, [.int rt2, .int rv2, .int rz2, .ref rn2])), (rn2, .inl (rc2, 60, .inr (.inl rN2))), (r3, .inr (5, [.int rt3, .int rv3, .int rz3, .ref rn3])), (rn3, .inl (rc3, 60, .inr (.inl rN3)))]) [0, 1, 2, 3, 4, 5, 6, 7, 8, 9] (by decide) rfl
          have hK9 := hK.sub (tys' := []) [] rfl
          refine W.widen (k := 0) (n := 0) (by omega) (by omega) ?_
          exact W.iret (v := 3) hx hb hr (fun t ht hW => ⟨⟨3, (), rfl, trivial, by rw [ht]; exact hP9, va_K.moved hW.alike hK9, hD9⟩, hS.F ht⟩) hS.2.2 dX6_countRows_31
  · have c_2 : rt0.toInt ≠ 0 := i_ne (a := rt0) (b := 0) rfl (by decide) c_2
    refine lv_iinc (v := 1) (lv' := [(1, .int 1), (2, .int 0), (0, .ref h0)]) hx hb dX6_countRows_21 hl (k := 1) rfl (by decide) (by decide) rfl (fun ls hl => ?_)
    refine lv_iinc (v := 1) (lv' := [(2, .int 1), (1, .int 1), (0, .ref h0)]) hx hb dX6_countRows_24 hl (k := 1) rfl (by decide) (by decide) rfl (fun ls hl => ?_)
    refine lv_goto (tgt := 4) hx hb dX6_countRows_27 (by decide) ?_
    refine lv_iload_n hx hb dX6_countRows_4 rfl (lv_at hl 0 rfl) ?_
    refine lv_iconst (v := 4) hx hb dX6_countRows_5 (by decide) ?_
    refine lv_icmp_ge (tgt := 30) hx hb dX6_countRows_6 (by decide) (fun h => absurd h (by decide)) (fun _ => ?_)
    refine lv_aload_n hx hb dX6_countRows_9 rfl (lv_at hl 2 rfl) ?_
    refine va_get (D := (dC, dI)) (ci := 6) (v := .ref rw) (C := RX6) (T := TX6) (N := 11) hx hb hts in_X6_countRows_X6 hown hK hP 0 rfl rfl 7 (by decide) (hts _ wd_X6_countRows_0) (fun _ h9 => h9) rfl dX6_countRows_10 ?_
    refine lv_iload_n hx hb dX6_countRows_13 rfl (lv_at hl 0 rfl) ?_
    refine va_aldq (i := 1) hx hb hK hP 1 0 rfl rfl (vp_in_iff.mpr ⟨by decide, by decide⟩) dX6_countRows_14 ?_
    refine W.eq (g2 := F0 m 15 ls (.ref r1 :: [])) (by rw [show fr (1 : Int32).toNatClampNeg = some r1 from hf1]; rfl) ?_
    refine va_get (D := (dC, dI)) (ci := 5) (v := .int rt1) (C := RX5) (T := TX5) (N := 4) hx hb hts in_X6_countRows_X5 hown hK hP 4 rfl rfl 0 (by decide) (hts _ wd_X6_countRows_1) (fun _ h9 => h9) rfl dX6_countRows_15 ?_
    refine lv_if_eq (tgt := 24) hx hb dX6_countRows_18 (by decide) (fun c_26 => ?_) (fun c_26 => ?_)
    · have c_26 : rt1.toInt = 0 := i_eq (a := rt1) (b := 0) rfl (by decide) c_26
      refine lv_iinc (v := 2) (lv' := [(2, .int 2), (1, .int 1), (0, .ref h0)]) hx hb dX6_countRows_24 hl (k := 0) rfl (by decide) (by decide) rfl (fun ls hl => ?_)
      refine lv_goto (tgt := 4) hx hb dX6_countRows_27 (by decide) ?_
      refine lv_iload_n hx hb dX6_countRows_4 rfl (lv_at hl 0 rfl) ?_
      refine lv_iconst (v := 4) hx hb dX6_countRows_5 (by decide) ?_
      refine lv_icmp_ge (tgt := 30) hx hb dX6_countRows_6 (by decide) (fun h => absurd h (by decide)) (fun _ => ?_)
      refine lv_aload_n hx hb dX6_countRows_9 rfl (lv_at hl 2 rfl) ?_
      refine va_get (D := (dC, dI)) (ci := 6) (v := .ref rw) (C := RX6) (T := TX6) (N := 11) hx hb hts in_X6_countRows_X6 hown hK hP 0 rfl rfl 7 (by decide) (hts _ wd_X6_countRows_0) (fun _ h9 => h9) rfl dX6_countRows_10 ?_
      refine lv_iload_n hx hb dX6_countRows_13 rfl (lv_at hl 0 rfl) ?_
      refine va_aldq (i := 2) hx hb hK hP 1 0 rfl rfl (vp_in_iff.mpr ⟨by decide, by decide⟩) dX6_countRows_14 ?_
      refine W.eq (g2 := F0 m 15 ls (.ref r2 :: [])) (by rw [show fr (2 : Int32).toNatClampNeg = some r2 from hf2]; rfl) ?_
      refine va_get (D := (dC, dI)) (ci := 5) (v := .int rt2) (C := RX5) (T := TX5) (N := 4) hx hb hts in_X6_countRows_X5 hown hK hP 6 rfl rfl 0 (by decide) (hts _ wd_X6_countRows_1) (fun _ h9 => h9) rfl dX6_countRows_15 ?_
      refine lv_if_eq (tgt := 24) hx hb dX6_countRows_18 (by decide) (fun c_28 => ?_) (fun c_28 => ?_)
      · have c_28 : rt2.toInt = 0 := i_eq (a := rt2) (b := 0) rfl (by decide) c_28
        refine lv_iinc (v := 3) (lv' := [(2, .int 3), (1, .int 1), (0, .ref h0)]) hx hb dX6_countRows_24 hl (k := 0) rfl (by decide) (by decide) rfl (fun ls hl => ?_)
        refine lv_goto (tgt := 4) hx hb dX6_countRows_27 (by decide) ?_
        refine lv_iload_n hx hb dX6_countRows_4 rfl (lv_at hl 0 rfl) ?_
        refine lv_iconst (v := 4) hx hb dX6_countRows_5 (by decide) ?_
        refine lv_icmp_ge (tgt := 30) hx hb dX6_countRows_6 (by decide) (fun h => absurd h (by decide)) (fun _ => ?_)
        refine lv_aload_n hx hb dX6_countRows_9 rfl (lv_at hl 2 rfl) ?_
        refine va_get (D := (dC, dI)) (ci := 6) (v := .ref rw) (C := RX6) (T := TX6) (N := 11) hx hb hts in_X6_countRows_X6 hown hK hP 0 rfl rfl 7 (by decide) (hts _ wd_X6_countRows_0) (fun _ h9 => h9) rfl dX6_countRows_10 ?_
        refine lv_iload_n hx hb dX6_countRows_13 rfl (lv_at hl 0 rfl) ?_
        refine va_aldq (i := 3) hx hb hK hP 1 0 rfl rfl (vp_in_iff.mpr ⟨by decide, by decide⟩) dX6_countRows_14 ?_
        refine W.eq (g2 := F0 m 15 ls (.ref r3 :: [])) (by rw [show fr (3 : Int32).toNatClampNeg = some r3 from hf3]; rfl) ?_
        refine va_get (D := (dC, dI)) (ci := 5) (v := .int rt3) (C := RX5) (T := TX5) (N := 4) hx hb hts in_X6_countRows_X5 hown hK hP 8 rfl rfl 0 (by decide) (hts _ wd_X6_countRows_1) (fun _ h9 => h9) rfl dX6_countRows_15 ?_
        refine lv_if_eq (tgt := 24) hx hb dX6_countRows_18 (by decide) (fun c_30 => ?_) (fun c_30 => ?_)
        · have c_30 : rt3.toInt = 0 := i_eq (a := rt3) (b := 0) rfl (by decide) c_30
          refine lv_iinc (v := 4) (lv' := [(2, .int 4), (1, .int 1), (0, .ref h0)]) hx hb dX6_countRows_24 hl (k := 0) rfl (by decide) (by decide) rfl (fun ls hl => ?_)
          refine lv_goto (tgt := 4) hx hb dX6_countRows_27 (by decide) ?_
          refine lv_iload_n hx hb dX6_countRows_4 rfl (lv_at hl 0 rfl) ?_
          refine lv_iconst (v := 4) hx hb dX6_countRows_5 (by decide) ?_
          refine lv_icmp_ge (tgt := 30) hx hb dX6_countRows_6 (by decide) (fun _ => ?_) (fun h => absurd (by decide) h)
          refine lv_iload_n hx hb dX6_countRows_30 rfl (lv_at hl 1 rfl) ?_
          have hP9 := hP.sub (ws' := [(h0, .inr (6, [.ref tp, .int ts, .int fn, .int fp, .ref rd, .ref gd, .ref im, .ref rw, .ref gn, .ref ho, .ref sq])), (rw, .inl (krw, 4, .inr (.inr (.inr (.inr fr))))), (r0, .inr (5, [.int rt0, .int rv0, .int rz0, .ref rn0])), (rn0, .inl (rc0, 60, .inr (.inl rN0))), (r1, .inr (5, [.int rt1, .int rv1, .int rz1, .ref rn1])), (rn1, .inl (rc1, 60, .inr (.inl rN1))), (r2, .inr (5, [.int rt2, .int rv2, .int rz2, .ref rn2])), (rn2, .inl (rc2, 60, .inr (.inl rN2))), (r3, .inr (5, [.int rt3, .int rv3, .int rz3, .ref rn3])), (rn3, .inl (rc3, 60, .inr (.inl rN3)))]) [0, 1, 2, 3, 4, 5, 6, 7, 8, 9] rfl
          have hD9 := hD.sub (ws' := [(h0, .inr (6, [.ref tp, .int ts, .int fn, .int fp, .ref rd, .ref gd, .ref im, .ref rw, .ref gn, .ref ho, .ref sq])), (rw, .inl (krw, 4, .inr (.inr (.inr (.inr fr))))), (r0, .inr (5, [.int rt0, .int rv0, .int rz0, .ref rn0])), (rn0, .inl (rc0, 60, .inr (.inl rN0))), (r1, .inr (5, [.int rt1, .int rv1, .int rz1, .ref rn1])), (rn1, .inl (rc1, 60, .inr (.inl rN1))), (r2, .inr (5, [.int rt2, .int rv2, .int rz2, .ref rn2])), (rn2, .inl (rc2, 60, .inr (.inl rN2))), (r3, .inr (5, [.int rt3, .int rv3, .int rz3, .ref rn3])), (rn3, .inl (rc3, 60, .inr (.inl rN3)))]) [0, 1, 2, 3, 4, 5, 6, 7, 8, 9] (by decide) rfl
          have hK9 := hK.sub (tys' := []) [] rfl
          refine W.widen (k := 0) (n := 0) (by omega) (by omega) ?_
          exact W.iret (v := 1) hx hb hr (fun t ht hW => ⟨⟨1, (), rfl, trivial, by rw [ht]; exact hP9, va_K.moved hW.alike hK9, hD9⟩, hS.F ht⟩) hS.2.2 dX6_countRows_31
        · have c_30 : rt3.toInt ≠ 0 := i_ne (a := rt3) (b := 0) rfl (by decide) c_30
          refine lv_iinc (v := 2) (lv' := [(1, .int 2), (2, .int 3), (0, .ref h0)]) hx hb dX6_countRows_21 hl (k := 1) rfl (by decide) (by decide) rfl (fun ls hl => ?_)
          refine lv_iinc (v := 4) (lv' := [(2, .int 4), (1, .int 2), (0, .ref h0)]) hx hb dX6_countRows_24 hl (k := 1) rfl (by decide) (by decide) rfl (fun ls hl => ?_)
          refine lv_goto (tgt := 4) hx hb dX6_countRows_27 (by decide) ?_
          refine lv_iload_n hx hb dX6_countRows_4 rfl (lv_at hl 0 rfl) ?_
          refine lv_iconst (v := 4) hx hb dX6_countRows_5 (by decide) ?_
          refine lv_icmp_ge (tgt := 30) hx hb dX6_countRows_6 (by decide) (fun _ => ?_) (fun h => absurd (by decide) h)
          refine lv_iload_n hx hb dX6_countRows_30 rfl (lv_at hl 1 rfl) ?_
          have hP9 := hP.sub (ws' := [(h0, .inr (6, [.ref tp, .int ts, .int fn, .int fp, .ref rd, .ref gd, .ref im, .ref rw, .ref gn, .ref ho, .ref sq])), (rw, .inl (krw, 4, .inr (.inr (.inr (.inr fr))))), (r0, .inr (5, [.int rt0, .int rv0, .int rz0, .ref rn0])), (rn0, .inl (rc0, 60, .inr (.inl rN0))), (r1, .inr (5, [.int rt1, .int rv1, .int rz1, .ref rn1])), (rn1, .inl (rc1, 60, .inr (.inl rN1))), (r2, .inr (5, [.int rt2, .int rv2, .int rz2, .ref rn2])), (rn2, .inl (rc2, 60, .inr (.inl rN2))), (r3, .inr (5, [.int rt3, .int rv3, .int rz3, .ref rn3])), (rn3, .inl (rc3, 60, .inr (.inl rN3)))]) [0, 1, 2, 3, 4, 5, 6, 7, 8, 9] rfl
          have hD9 := hD.sub (ws' := [(h0, .inr (6, [.ref tp, .int ts, .int fn, .int fp, .ref rd, .ref gd, .ref im, .ref rw, .ref gn, .ref ho, .ref sq])), (rw, .inl (krw, 4, .inr (.inr (.inr (.inr fr))))), (r0, .inr (5, [.int rt0, .int rv0, .int rz0, .ref rn0])), (rn0, .inl (rc0, 60, .inr (.inl rN0))), (r1, .inr (5, [.int rt1, .int rv1, .int rz1, .ref rn1])), (rn1, .inl (rc1, 60, .inr (.inl rN1))), (r2, .inr (5, [.int rt2, .int rv2, .int rz2, .ref rn2])), (rn2, .inl (rc2, 60, .inr (.inl rN2))), (r3, .inr (5, [.int rt3, .int rv3, .int rz3, .ref rn3])), (rn3, .inl (rc3, 60, .inr (.inl rN3)))]) [0, 1, 2, 3, 4, 5, 6, 7, 8, 9] (by decide) rfl
          have hK9 := hK.sub (tys' := []) [] rfl
          refine W.widen (k := 0) (n := 0) (by omega) (by omega) ?_
          exact W.iret (v := 2) hx hb hr (fun t ht hW => ⟨⟨2, (), rfl, trivial, by rw [ht]; exact hP9, va_K.moved hW.alike hK9, hD9⟩, hS.F ht⟩) hS.2.2 dX6_countRows_31
      · have c_28 : rt2.toInt ≠ 0 := i_ne (a := rt2) (b := 0) rfl (by decide) c_28
        refine lv_iinc (v := 2) (lv' := [(1, .int 2), (2, .int 2), (0, .ref h0)]) hx hb dX6_countRows_21 hl (k := 1) rfl (by decide) (by decide) rfl (fun ls hl => ?_)
        refine lv_iinc (v := 3) (lv' := [(2, .int 3), (1, .int 2), (0, .ref h0)]) hx hb dX6_countRows_24 hl (k := 1) rfl (by decide) (by decide) rfl (fun ls hl => ?_)
        refine lv_goto (tgt := 4) hx hb dX6_countRows_27 (by decide) ?_
        refine lv_iload_n hx hb dX6_countRows_4 rfl (lv_at hl 0 rfl) ?_
        refine lv_iconst (v := 4) hx hb dX6_countRows_5 (by decide) ?_
        refine lv_icmp_ge (tgt := 30) hx hb dX6_countRows_6 (by decide) (fun h => absurd h (by decide)) (fun _ => ?_)
        refine lv_aload_n hx hb dX6_countRows_9 rfl (lv_at hl 2 rfl) ?_
        refine va_get (D := (dC, dI)) (ci := 6) (v := .ref rw) (C := RX6) (T := TX6) (N := 11) hx hb hts in_X6_countRows_X6 hown hK hP 0 rfl rfl 7 (by decide) (hts _ wd_X6_countRows_0) (fun _ h9 => h9) rfl dX6_countRows_10 ?_
        refine lv_iload_n hx hb dX6_countRows_13 rfl (lv_at hl 0 rfl) ?_
        refine va_aldq (i := 3) hx hb hK hP 1 0 rfl rfl (vp_in_iff.mpr ⟨by decide, by decide⟩) dX6_countRows_14 ?_
        refine W.eq (g2 := F0 m 15 ls (.ref r3 :: [])) (by rw [show fr (3 : Int32).toNatClampNeg = some r3 from hf3]; rfl) ?_
        refine va_get (D := (dC, dI)) (ci := 5) (v := .int rt3) (C := RX5) (T := TX5) (N := 4) hx hb hts in_X6_countRows_X5 hown hK hP 8 rfl rfl 0 (by decide) (hts _ wd_X6_countRows_1) (fun _ h9 => h9) rfl dX6_countRows_15 ?_
        refine lv_if_eq (tgt := 24) hx hb dX6_countRows_18 (by decide) (fun c_34 => ?_) (fun c_34 => ?_)
        · have c_34 : rt3.toInt = 0 := i_eq (a := rt3) (b := 0) rfl (by decide) c_34
          refine lv_iinc (v := 4) (lv' := [(2, .int 4), (1, .int 2), (0, .ref h0)]) hx hb dX6_countRows_24 hl (k := 0) rfl (by decide) (by decide) rfl (fun ls hl => ?_)
          refine lv_goto (tgt := 4) hx hb dX6_countRows_27 (by decide) ?_
          refine lv_iload_n hx hb dX6_countRows_4 rfl (lv_at hl 0 rfl) ?_
          refine lv_iconst (v := 4) hx hb dX6_countRows_5 (by decide) ?_
          refine lv_icmp_ge (tgt := 30) hx hb dX6_countRows_6 (by decide) (fun _ => ?_) (fun h => absurd (by decide) h)
          refine lv_iload_n hx hb dX6_countRows_30 rfl (lv_at hl 1 rfl) ?_
          have hP9 := hP.sub (ws' := [(h0, .inr (6, [.ref tp, .int ts, .int fn, .int fp, .ref rd, .ref gd, .ref im, .ref rw, .ref gn, .ref ho, .ref sq])), (rw, .inl (krw, 4, .inr (.inr (.inr (.inr fr))))), (r0, .inr (5, [.int rt0, .int rv0, .int rz0, .ref rn0])), (rn0, .inl (rc0, 60, .inr (.inl rN0))), (r1, .inr (5, [.int rt1, .int rv1, .int rz1, .ref rn1])), (rn1, .inl (rc1, 60, .inr (.inl rN1))), (r2, .inr (5, [.int rt2, .int rv2, .int rz2, .ref rn2])), (rn2, .inl (rc2, 60, .inr (.inl rN2))), (r3, .inr (5, [.int rt3, .int rv3, .int rz3, .ref rn3])), (rn3, .inl (rc3, 60, .inr (.inl rN3)))]) [0, 1, 2, 3, 4, 5, 6, 7, 8, 9] rfl
          have hD9 := hD.sub (ws' := [(h0, .inr (6, [.ref tp, .int ts, .int fn, .int fp, .ref rd, .ref gd, .ref im, .ref rw, .ref gn, .ref ho, .ref sq])), (rw, .inl (krw, 4, .inr (.inr (.inr (.inr fr))))), (r0, .inr (5, [.int rt0, .int rv0, .int rz0, .ref rn0])), (rn0, .inl (rc0, 60, .inr (.inl rN0))), (r1, .inr (5, [.int rt1, .int rv1, .int rz1, .ref rn1])), (rn1, .inl (rc1, 60, .inr (.inl rN1))), (r2, .inr (5, [.int rt2, .int rv2, .int rz2, .ref rn2])), (rn2, .inl (rc2, 60, .inr (.inl rN2))), (r3, .inr (5, [.int rt3, .int rv3, .int rz3, .ref rn3])), (rn3, .inl (rc3, 60, .inr (.inl rN3)))]) [0, 1, 2, 3, 4, 5, 6, 7, 8, 9] (by decide) rfl
          have hK9 := hK.sub (tys' := []) [] rfl
          refine W.widen (k := 0) (n := 0) (by omega) (by omega) ?_
          exact W.iret (v := 2) hx hb hr (fun t ht hW => ⟨⟨2, (), rfl, trivial, by rw [ht]; exact hP9, va_K.moved hW.alike hK9, hD9⟩, hS.F ht⟩) hS.2.2 dX6_countRows_31
        · have c_34 : rt3.toInt ≠ 0 := i_ne (a := rt3) (b := 0) rfl (by decide) c_34
          refine lv_iinc (v := 3) (lv' := [(1, .int 3), (2, .int 3), (0, .ref h0)]) hx hb dX6_countRows_21 hl (k := 1) rfl (by decide) (by decide) rfl (fun ls hl => ?_)
          refine lv_iinc (v := 4) (lv' := [(2, .int 4), (1, .int 3), (0, .ref h0)]) hx hb dX6_countRows_24 hl (k := 1) rfl (by decide) (by decide) rfl (fun ls hl => ?_)
          refine lv_goto (tgt := 4) hx hb dX6_countRows_27 (by decide) ?_
          refine lv_iload_n hx hb dX6_countRows_4 rfl (lv_at hl 0 rfl) ?_
          refine lv_iconst (v := 4) hx hb dX6_countRows_5 (by decide) ?_
          refine lv_icmp_ge (tgt := 30) hx hb dX6_countRows_6 (by decide) (fun _ => ?_) (fun h => absurd (by decide) h)
          refine lv_iload_n hx hb dX6_countRows_30 rfl (lv_at hl 1 rfl) ?_
          have hP9 := hP.sub (ws' := [(h0, .inr (6, [.ref tp, .int ts, .int fn, .int fp, .ref rd, .ref gd, .ref im, .ref rw, .ref gn, .ref ho, .ref sq])), (rw, .inl (krw, 4, .inr (.inr (.inr (.inr fr))))), (r0, .inr (5, [.int rt0, .int rv0, .int rz0, .ref rn0])), (rn0, .inl (rc0, 60, .inr (.inl rN0))), (r1, .inr (5, [.int rt1, .int rv1, .int rz1, .ref rn1])), (rn1, .inl (rc1, 60, .inr (.inl rN1))), (r2, .inr (5, [.int rt2, .int rv2, .int rz2, .ref rn2])), (rn2, .inl (rc2, 60, .inr (.inl rN2))), (r3, .inr (5, [.int rt3, .int rv3, .int rz3, .ref rn3])), (rn3, .inl (rc3, 60, .inr (.inl rN3)))]) [0, 1, 2, 3, 4, 5, 6, 7, 8, 9] rfl
          have hD9 := hD.sub (ws' := [(h0, .inr (6, [.ref tp, .int ts, .int fn, .int fp, .ref rd, .ref gd, .ref im, .ref rw, .ref gn, .ref ho, .ref sq])), (rw, .inl (krw, 4, .inr (.inr (.inr (.inr fr))))), (r0, .inr (5, [.int rt0, .int rv0, .int rz0, .ref rn0])), (rn0, .inl (rc0, 60, .inr (.inl rN0))), (r1, .inr (5, [.int rt1, .int rv1, .int rz1, .ref rn1])), (rn1, .inl (rc1, 60, .inr (.inl rN1))), (r2, .inr (5, [.int rt2, .int rv2, .int rz2, .ref rn2])), (rn2, .inl (rc2, 60, .inr (.inl rN2))), (r3, .inr (5, [.int rt3, .int rv3, .int rz3, .ref rn3])), (rn3, .inl (rc3, 60, .inr (.inl rN3)))]) [0, 1, 2, 3, 4, 5, 6, 7, 8, 9] (by decide) rfl
          have hK9 := hK.sub (tys' := []) [] rfl
          refine W.widen (k := 0) (n := 0) (by omega) (by omega) ?_
          exact W.iret (v := 3) hx hb hr (fun t ht hW => ⟨⟨3, (), rfl, trivial, by rw [ht]; exact hP9, va_K.moved hW.alike hK9, hD9⟩, hS.F ht⟩) hS.2.2 dX6_countRows_31
    · have c_26 : rt1.toInt ≠ 0 := i_ne (a := rt1) (b := 0) rfl (by decide) c_26
      refine lv_iinc (v := 2) (lv' := [(1, .int 2), (2, .int 1), (0, .ref h0)]) hx hb dX6_countRows_21 hl (k := 1) rfl (by decide) (by decide) rfl (fun ls hl => ?_)
      refine lv_iinc (v := 2) (lv' := [(2, .int 2), (1, .int 2), (0, .ref h0)]) hx hb dX6_countRows_24 hl (k := 1) rfl (by decide) (by decide) rfl (fun ls hl => ?_)
      refine lv_goto (tgt := 4) hx hb dX6_countRows_27 (by decide) ?_
      refine lv_iload_n hx hb dX6_countRows_4 rfl (lv_at hl 0 rfl) ?_
      refine lv_iconst (v := 4) hx hb dX6_countRows_5 (by decide) ?_
      refine lv_icmp_ge (tgt := 30) hx hb dX6_countRows_6 (by decide) (fun h => absurd h (by decide)) (fun _ => ?_)
      refine lv_aload_n hx hb dX6_countRows_9 rfl (lv_at hl 2 rfl) ?_
      refine va_get (D := (dC, dI)) (ci := 6) (v := .ref rw) (C := RX6) (T := TX6) (N := 11) hx hb hts in_X6_countRows_X6 hown hK hP 0 rfl rfl 7 (by decide) (hts _ wd_X6_countRows_0) (fun _ h9 => h9) rfl dX6_countRows_10 ?_
      refine lv_iload_n hx hb dX6_countRows_13 rfl (lv_at hl 0 rfl) ?_
      refine va_aldq (i := 2) hx hb hK hP 1 0 rfl rfl (vp_in_iff.mpr ⟨by decide, by decide⟩) dX6_countRows_14 ?_
      refine W.eq (g2 := F0 m 15 ls (.ref r2 :: [])) (by rw [show fr (2 : Int32).toNatClampNeg = some r2 from hf2]; rfl) ?_
      refine va_get (D := (dC, dI)) (ci := 5) (v := .int rt2) (C := RX5) (T := TX5) (N := 4) hx hb hts in_X6_countRows_X5 hown hK hP 6 rfl rfl 0 (by decide) (hts _ wd_X6_countRows_1) (fun _ h9 => h9) rfl dX6_countRows_15 ?_
      refine lv_if_eq (tgt := 24) hx hb dX6_countRows_18 (by decide) (fun c_38 => ?_) (fun c_38 => ?_)
      · have c_38 : rt2.toInt = 0 := i_eq (a := rt2) (b := 0) rfl (by decide) c_38
        refine lv_iinc (v := 3) (lv' := [(2, .int 3), (1, .int 2), (0, .ref h0)]) hx hb dX6_countRows_24 hl (k := 0) rfl (by decide) (by decide) rfl (fun ls hl => ?_)
        refine lv_goto (tgt := 4) hx hb dX6_countRows_27 (by decide) ?_
        refine lv_iload_n hx hb dX6_countRows_4 rfl (lv_at hl 0 rfl) ?_
        refine lv_iconst (v := 4) hx hb dX6_countRows_5 (by decide) ?_
        refine lv_icmp_ge (tgt := 30) hx hb dX6_countRows_6 (by decide) (fun h => absurd h (by decide)) (fun _ => ?_)
        refine lv_aload_n hx hb dX6_countRows_9 rfl (lv_at hl 2 rfl) ?_
        refine va_get (D := (dC, dI)) (ci := 6) (v := .ref rw) (C := RX6) (T := TX6) (N := 11) hx hb hts in_X6_countRows_X6 hown hK hP 0 rfl rfl 7 (by decide) (hts _ wd_X6_countRows_0) (fun _ h9 => h9) rfl dX6_countRows_10 ?_
        refine lv_iload_n hx hb dX6_countRows_13 rfl (lv_at hl 0 rfl) ?_
        refine va_aldq (i := 3) hx hb hK hP 1 0 rfl rfl (vp_in_iff.mpr ⟨by decide, by decide⟩) dX6_countRows_14 ?_
        refine W.eq (g2 := F0 m 15 ls (.ref r3 :: [])) (by rw [show fr (3 : Int32).toNatClampNeg = some r3 from hf3]; rfl) ?_
        refine va_get (D := (dC, dI)) (ci := 5) (v := .int rt3) (C := RX5) (T := TX5) (N := 4) hx hb hts in_X6_countRows_X5 hown hK hP 8 rfl rfl 0 (by decide) (hts _ wd_X6_countRows_1) (fun _ h9 => h9) rfl dX6_countRows_15 ?_
        refine lv_if_eq (tgt := 24) hx hb dX6_countRows_18 (by decide) (fun c_40 => ?_) (fun c_40 => ?_)
        · have c_40 : rt3.toInt = 0 := i_eq (a := rt3) (b := 0) rfl (by decide) c_40
          refine lv_iinc (v := 4) (lv' := [(2, .int 4), (1, .int 2), (0, .ref h0)]) hx hb dX6_countRows_24 hl (k := 0) rfl (by decide) (by decide) rfl (fun ls hl => ?_)
          refine lv_goto (tgt := 4) hx hb dX6_countRows_27 (by decide) ?_
          refine lv_iload_n hx hb dX6_countRows_4 rfl (lv_at hl 0 rfl) ?_
          refine lv_iconst (v := 4) hx hb dX6_countRows_5 (by decide) ?_
          refine lv_icmp_ge (tgt := 30) hx hb dX6_countRows_6 (by decide) (fun _ => ?_) (fun h => absurd (by decide) h)
          refine lv_iload_n hx hb dX6_countRows_30 rfl (lv_at hl 1 rfl) ?_
          have hP9 := hP.sub (ws' := [(h0, .inr (6, [.ref tp, .int ts, .int fn, .int fp, .ref rd, .ref gd, .ref im, .ref rw, .ref gn, .ref ho, .ref sq])), (rw, .inl (krw, 4, .inr (.inr (.inr (.inr fr))))), (r0, .inr (5, [.int rt0, .int rv0, .int rz0, .ref rn0])), (rn0, .inl (rc0, 60, .inr (.inl rN0))), (r1, .inr (5, [.int rt1, .int rv1, .int rz1, .ref rn1])), (rn1, .inl (rc1, 60, .inr (.inl rN1))), (r2, .inr (5, [.int rt2, .int rv2, .int rz2, .ref rn2])), (rn2, .inl (rc2, 60, .inr (.inl rN2))), (r3, .inr (5, [.int rt3, .int rv3, .int rz3, .ref rn3])), (rn3, .inl (rc3, 60, .inr (.inl rN3)))]) [0, 1, 2, 3, 4, 5, 6, 7, 8, 9] rfl
          have hD9 := hD.sub (ws' := [(h0, .inr (6, [.ref tp, .int ts, .int fn, .int fp, .ref rd, .ref gd, .ref im, .ref rw, .ref gn, .ref ho, .ref sq])), (rw, .inl (krw, 4, .inr (.inr (.inr (.inr fr))))), (r0, .inr (5, [.int rt0, .int rv0, .int rz0, .ref rn0])), (rn0, .inl (rc0, 60, .inr (.inl rN0))), (r1, .inr (5, [.int rt1, .int rv1, .int rz1, .ref rn1])), (rn1, .inl (rc1, 60, .inr (.inl rN1))), (r2, .inr (5, [.int rt2, .int rv2, .int rz2, .ref rn2])), (rn2, .inl (rc2, 60, .inr (.inl rN2))), (r3, .inr (5, [.int rt3, .int rv3, .int rz3, .ref rn3])), (rn3, .inl (rc3, 60, .inr (.inl rN3)))]) [0, 1, 2, 3, 4, 5, 6, 7, 8, 9] (by decide) rfl
          have hK9 := hK.sub (tys' := []) [] rfl
          refine W.widen (k := 0) (n := 0) (by omega) (by omega) ?_
          exact W.iret (v := 2) hx hb hr (fun t ht hW => ⟨⟨2, (), rfl, trivial, by rw [ht]; exact hP9, va_K.moved hW.alike hK9, hD9⟩, hS.F ht⟩) hS.2.2 dX6_countRows_31
        · have c_40 : rt3.toInt ≠ 0 := i_ne (a := rt3) (b := 0) rfl (by decide) c_40
          refine lv_iinc (v := 3) (lv' := [(1, .int 3), (2, .int 3), (0, .ref h0)]) hx hb dX6_countRows_21 hl (k := 1) rfl (by decide) (by decide) rfl (fun ls hl => ?_)
          refine lv_iinc (v := 4) (lv' := [(2, .int 4), (1, .int 3), (0, .ref h0)]) hx hb dX6_countRows_24 hl (k := 1) rfl (by decide) (by decide) rfl (fun ls hl => ?_)
          refine lv_goto (tgt := 4) hx hb dX6_countRows_27 (by decide) ?_
          refine lv_iload_n hx hb dX6_countRows_4 rfl (lv_at hl 0 rfl) ?_
          refine lv_iconst (v := 4) hx hb dX6_countRows_5 (by decide) ?_
          refine lv_icmp_ge (tgt := 30) hx hb dX6_countRows_6 (by decide) (fun _ => ?_) (fun h => absurd (by decide) h)
          refine lv_iload_n hx hb dX6_countRows_30 rfl (lv_at hl 1 rfl) ?_
          have hP9 := hP.sub (ws' := [(h0, .inr (6, [.ref tp, .int ts, .int fn, .int fp, .ref rd, .ref gd, .ref im, .ref rw, .ref gn, .ref ho, .ref sq])), (rw, .inl (krw, 4, .inr (.inr (.inr (.inr fr))))), (r0, .inr (5, [.int rt0, .int rv0, .int rz0, .ref rn0])), (rn0, .inl (rc0, 60, .inr (.inl rN0))), (r1, .inr (5, [.int rt1, .int rv1, .int rz1, .ref rn1])), (rn1, .inl (rc1, 60, .inr (.inl rN1))), (r2, .inr (5, [.int rt2, .int rv2, .int rz2, .ref rn2])), (rn2, .inl (rc2, 60, .inr (.inl rN2))), (r3, .inr (5, [.int rt3, .int rv3, .int rz3, .ref rn3])), (rn3, .inl (rc3, 60, .inr (.inl rN3)))]) [0, 1, 2, 3, 4, 5, 6, 7, 8, 9] rfl
          have hD9 := hD.sub (ws' := [(h0, .inr (6, [.ref tp, .int ts, .int fn, .int fp, .ref rd, .ref gd, .ref im, .ref rw, .ref gn, .ref ho, .ref sq])), (rw, .inl (krw, 4, .inr (.inr (.inr (.inr fr))))), (r0, .inr (5, [.int rt0, .int rv0, .int rz0, .ref rn0])), (rn0, .inl (rc0, 60, .inr (.inl rN0))), (r1, .inr (5, [.int rt1, .int rv1, .int rz1, .ref rn1])), (rn1, .inl (rc1, 60, .inr (.inl rN1))), (r2, .inr (5, [.int rt2, .int rv2, .int rz2, .ref rn2])), (rn2, .inl (rc2, 60, .inr (.inl rN2))), (r3, .inr (5, [.int rt3, .int rv3, .int rz3, .ref rn3])), (rn3, .inl (rc3, 60, .inr (.inl rN3)))]) [0, 1, 2, 3, 4, 5, 6, 7, 8, 9] (by decide) rfl
          have hK9 := hK.sub (tys' := []) [] rfl
          refine W.widen (k := 0) (n := 0) (by omega) (by omega) ?_
          exact W.iret (v := 3) hx hb hr (fun t ht hW => ⟨⟨3, (), rfl, trivial, by rw [ht]; exact hP9, va_K.moved hW.alike hK9, hD9⟩, hS.F ht⟩) hS.2.2 dX6_countRows_31
      · have c_38 : rt2.toInt ≠ 0 := i_ne (a := rt2) (b := 0) rfl (by decide) c_38
        refine lv_iinc (v := 3) (lv' := [(1, .int 3), (2, .int 2), (0, .ref h0)]) hx hb dX6_countRows_21 hl (k := 1) rfl (by decide) (by decide) rfl (fun ls hl => ?_)
        refine lv_iinc (v := 3) (lv' := [(2, .int 3), (1, .int 3), (0, .ref h0)]) hx hb dX6_countRows_24 hl (k := 1) rfl (by decide) (by decide) rfl (fun ls hl => ?_)
        refine lv_goto (tgt := 4) hx hb dX6_countRows_27 (by decide) ?_
        refine lv_iload_n hx hb dX6_countRows_4 rfl (lv_at hl 0 rfl) ?_
        refine lv_iconst (v := 4) hx hb dX6_countRows_5 (by decide) ?_
        refine lv_icmp_ge (tgt := 30) hx hb dX6_countRows_6 (by decide) (fun h => absurd h (by decide)) (fun _ => ?_)
        refine lv_aload_n hx hb dX6_countRows_9 rfl (lv_at hl 2 rfl) ?_
        refine va_get (D := (dC, dI)) (ci := 6) (v := .ref rw) (C := RX6) (T := TX6) (N := 11) hx hb hts in_X6_countRows_X6 hown hK hP 0 rfl rfl 7 (by decide) (hts _ wd_X6_countRows_0) (fun _ h9 => h9) rfl dX6_countRows_10 ?_
        refine lv_iload_n hx hb dX6_countRows_13 rfl (lv_at hl 0 rfl) ?_
        refine va_aldq (i := 3) hx hb hK hP 1 0 rfl rfl (vp_in_iff.mpr ⟨by decide, by decide⟩) dX6_countRows_14 ?_
        refine W.eq (g2 := F0 m 15 ls (.ref r3 :: [])) (by rw [show fr (3 : Int32).toNatClampNeg = some r3 from hf3]; rfl) ?_
        refine va_get (D := (dC, dI)) (ci := 5) (v := .int rt3) (C := RX5) (T := TX5) (N := 4) hx hb hts in_X6_countRows_X5 hown hK hP 8 rfl rfl 0 (by decide) (hts _ wd_X6_countRows_1) (fun _ h9 => h9) rfl dX6_countRows_15 ?_
        refine lv_if_eq (tgt := 24) hx hb dX6_countRows_18 (by decide) (fun c_44 => ?_) (fun c_44 => ?_)
        · have c_44 : rt3.toInt = 0 := i_eq (a := rt3) (b := 0) rfl (by decide) c_44
          refine lv_iinc (v := 4) (lv' := [(2, .int 4), (1, .int 3), (0, .ref h0)]) hx hb dX6_countRows_24 hl (k := 0) rfl (by decide) (by decide) rfl (fun ls hl => ?_)
          refine lv_goto (tgt := 4) hx hb dX6_countRows_27 (by decide) ?_
          refine lv_iload_n hx hb dX6_countRows_4 rfl (lv_at hl 0 rfl) ?_
          refine lv_iconst (v := 4) hx hb dX6_countRows_5 (by decide) ?_
          refine lv_icmp_ge (tgt := 30) hx hb dX6_countRows_6 (by decide) (fun _ => ?_) (fun h => absurd (by decide) h)
          refine lv_iload_n hx hb dX6_countRows_30 rfl (lv_at hl 1 rfl) ?_
          have hP9 := hP.sub (ws' := [(h0, .inr (6, [.ref tp, .int ts, .int fn, .int fp, .ref rd, .ref gd, .ref im, .ref rw, .ref gn, .ref ho, .ref sq])), (rw, .inl (krw, 4, .inr (.inr (.inr (.inr fr))))), (r0, .inr (5, [.int rt0, .int rv0, .int rz0, .ref rn0])), (rn0, .inl (rc0, 60, .inr (.inl rN0))), (r1, .inr (5, [.int rt1, .int rv1, .int rz1, .ref rn1])), (rn1, .inl (rc1, 60, .inr (.inl rN1))), (r2, .inr (5, [.int rt2, .int rv2, .int rz2, .ref rn2])), (rn2, .inl (rc2, 60, .inr (.inl rN2))), (r3, .inr (5, [.int rt3, .int rv3, .int rz3, .ref rn3])), (rn3, .inl (rc3, 60, .inr (.inl rN3)))]) [0, 1, 2, 3, 4, 5, 6, 7, 8, 9] rfl
          have hD9 := hD.sub (ws' := [(h0, .inr (6, [.ref tp, .int ts, .int fn, .int fp, .ref rd, .ref gd, .ref im, .ref rw, .ref gn, .ref ho, .ref sq])), (rw, .inl (krw, 4, .inr (.inr (.inr (.inr fr))))), (r0, .inr (5, [.int rt0, .int rv0, .int rz0, .ref rn0])), (rn0, .inl (rc0, 60, .inr (.inl rN0))), (r1, .inr (5, [.int rt1, .int rv1, .int rz1, .ref rn1])), (rn1, .inl (rc1, 60, .inr (.inl rN1))), (r2, .inr (5, [.int rt2, .int rv2, .int rz2, .ref rn2])), (rn2, .inl (rc2, 60, .inr (.inl rN2))), (r3, .inr (5, [.int rt3, .int rv3, .int rz3, .ref rn3])), (rn3, .inl (rc3, 60, .inr (.inl rN3)))]) [0, 1, 2, 3, 4, 5, 6, 7, 8, 9] (by decide) rfl
          have hK9 := hK.sub (tys' := []) [] rfl
          refine W.widen (k := 0) (n := 0) (by omega) (by omega) ?_
          exact W.iret (v := 3) hx hb hr (fun t ht hW => ⟨⟨3, (), rfl, trivial, by rw [ht]; exact hP9, va_K.moved hW.alike hK9, hD9⟩, hS.F ht⟩) hS.2.2 dX6_countRows_31
        · have c_44 : rt3.toInt ≠ 0 := i_ne (a := rt3) (b := 0) rfl (by decide) c_44
          refine lv_iinc (v := 4) (lv' := [(1, .int 4), (2, .int 3), (0, .ref h0)]) hx hb dX6_countRows_21 hl (k := 1) rfl (by decide) (by decide) rfl (fun ls hl => ?_)
          refine lv_iinc (v := 4) (lv' := [(2, .int 4), (1, .int 4), (0, .ref h0)]) hx hb dX6_countRows_24 hl (k := 1) rfl (by decide) (by decide) rfl (fun ls hl => ?_)
          refine lv_goto (tgt := 4) hx hb dX6_countRows_27 (by decide) ?_
          refine lv_iload_n hx hb dX6_countRows_4 rfl (lv_at hl 0 rfl) ?_
          refine lv_iconst (v := 4) hx hb dX6_countRows_5 (by decide) ?_
          refine lv_icmp_ge (tgt := 30) hx hb dX6_countRows_6 (by decide) (fun _ => ?_) (fun h => absurd (by decide) h)
          refine lv_iload_n hx hb dX6_countRows_30 rfl (lv_at hl 1 rfl) ?_
          have hP9 := hP.sub (ws' := [(h0, .inr (6, [.ref tp, .int ts, .int fn, .int fp, .ref rd, .ref gd, .ref im, .ref rw, .ref gn, .ref ho, .ref sq])), (rw, .inl (krw, 4, .inr (.inr (.inr (.inr fr))))), (r0, .inr (5, [.int rt0, .int rv0, .int rz0, .ref rn0])), (rn0, .inl (rc0, 60, .inr (.inl rN0))), (r1, .inr (5, [.int rt1, .int rv1, .int rz1, .ref rn1])), (rn1, .inl (rc1, 60, .inr (.inl rN1))), (r2, .inr (5, [.int rt2, .int rv2, .int rz2, .ref rn2])), (rn2, .inl (rc2, 60, .inr (.inl rN2))), (r3, .inr (5, [.int rt3, .int rv3, .int rz3, .ref rn3])), (rn3, .inl (rc3, 60, .inr (.inl rN3)))]) [0, 1, 2, 3, 4, 5, 6, 7, 8, 9] rfl
          have hD9 := hD.sub (ws' := [(h0, .inr (6, [.ref tp, .int ts, .int fn, .int fp, .ref rd, .ref gd, .ref im, .ref rw, .ref gn, .ref ho, .ref sq])), (rw, .inl (krw, 4, .inr (.inr (.inr (.inr fr))))), (r0, .inr (5, [.int rt0, .int rv0, .int rz0, .ref rn0])), (rn0, .inl (rc0, 60, .inr (.inl rN0))), (r1, .inr (5, [.int rt1, .int rv1, .int rz1, .ref rn1])), (rn1, .inl (rc1, 60, .inr (.inl rN1))), (r2, .inr (5, [.int rt2, .int rv2, .int rz2, .ref rn2])), (rn2, .inl (rc2, 60, .inr (.inl rN2))), (r3, .inr (5, [.int rt3, .int rv3, .int rz3, .ref rn3])), (rn3, .inl (rc3, 60, .inr (.inl rN3)))]) [0, 1, 2, 3, 4, 5, 6, 7, 8, 9] (by decide) rfl
          have hK9 := hK.sub (tys' := []) [] rfl
          refine W.widen (k := 0) (n := 0) (by omega) (by omega) ?_
          exact W.iret (v := 4) hx hb hr (fun t ht hW => ⟨⟨4, (), rfl, trivial, by rw [ht]; exact hP9, va_K.moved hW.alike hK9, hD9⟩, hS.F ht⟩) hS.2.2 dX6_countRows_31

theorem dX6_count_0 : decode cX6_count 0 = .ok (.iload_n 1, 1) := by decide +kernel
theorem dX6_count_1 : decode cX6_count 1 = .ok (.tableswitch 161 0 10 #[59, 70, 81, 92, 103, 111, 119, 127, 132, 148, 156], 59) := by decide +kernel
theorem dX6_count_60 : decode cX6_count 60 = .ok (.aload_n 0, 1) := by decide +kernel
theorem dX6_count_61 : decode cX6_count 61 = .ok (.getfield 33, 3) := by decide +kernel
theorem dX6_count_64 : decode cX6_count 64 = .ok (.getfield 90, 3) := by decide +kernel
theorem dX6_count_67 : decode cX6_count 67 = .ok (.getfield 326, 3) := by decide +kernel
theorem dX6_count_70 : decode cX6_count 70 = .ok (.ireturn, 1) := by decide +kernel
theorem dX6_count_71 : decode cX6_count 71 = .ok (.aload_n 0, 1) := by decide +kernel
theorem dX6_count_72 : decode cX6_count 72 = .ok (.getfield 33, 3) := by decide +kernel
theorem dX6_count_75 : decode cX6_count 75 = .ok (.getfield 90, 3) := by decide +kernel
theorem dX6_count_78 : decode cX6_count 78 = .ok (.getfield 329, 3) := by decide +kernel
theorem dX6_count_81 : decode cX6_count 81 = .ok (.ireturn, 1) := by decide +kernel
theorem dX6_count_82 : decode cX6_count 82 = .ok (.aload_n 0, 1) := by decide +kernel
theorem dX6_count_83 : decode cX6_count 83 = .ok (.getfield 33, 3) := by decide +kernel
theorem dX6_count_86 : decode cX6_count 86 = .ok (.getfield 117, 3) := by decide +kernel
theorem dX6_count_89 : decode cX6_count 89 = .ok (.invokestatic 165, 3) := by decide +kernel
theorem dX6_count_92 : decode cX6_count 92 = .ok (.ireturn, 1) := by decide +kernel
theorem dX6_count_93 : decode cX6_count 93 = .ok (.aload_n 0, 1) := by decide +kernel
theorem dX6_count_94 : decode cX6_count 94 = .ok (.getfield 33, 3) := by decide +kernel
theorem dX6_count_97 : decode cX6_count 97 = .ok (.getfield 125, 3) := by decide +kernel
theorem dX6_count_100 : decode cX6_count 100 = .ok (.invokestatic 165, 3) := by decide +kernel
theorem dX6_count_103 : decode cX6_count 103 = .ok (.ireturn, 1) := by decide +kernel
theorem dX6_count_104 : decode cX6_count 104 = .ok (.aload_n 0, 1) := by decide +kernel
theorem dX6_count_105 : decode cX6_count 105 = .ok (.getfield 33, 3) := by decide +kernel
theorem dX6_count_108 : decode cX6_count 108 = .ok (.getfield 284, 3) := by decide +kernel
theorem dX6_count_111 : decode cX6_count 111 = .ok (.ireturn, 1) := by decide +kernel
theorem dX6_count_112 : decode cX6_count 112 = .ok (.aload_n 0, 1) := by decide +kernel
theorem dX6_count_113 : decode cX6_count 113 = .ok (.getfield 33, 3) := by decide +kernel
theorem dX6_count_116 : decode cX6_count 116 = .ok (.getfield 258, 3) := by decide +kernel
theorem dX6_count_119 : decode cX6_count 119 = .ok (.ireturn, 1) := by decide +kernel
theorem dX6_count_120 : decode cX6_count 120 = .ok (.aload_n 0, 1) := by decide +kernel
theorem dX6_count_121 : decode cX6_count 121 = .ok (.getfield 33, 3) := by decide +kernel
theorem dX6_count_124 : decode cX6_count 124 = .ok (.getfield 83, 3) := by decide +kernel
theorem dX6_count_127 : decode cX6_count 127 = .ok (.ireturn, 1) := by decide +kernel
theorem dX6_count_128 : decode cX6_count 128 = .ok (.aload_n 0, 1) := by decide +kernel
theorem dX6_count_129 : decode cX6_count 129 = .ok (.getfield 13, 3) := by decide +kernel
theorem dX6_count_132 : decode cX6_count 132 = .ok (.ireturn, 1) := by decide +kernel
theorem dX6_count_133 : decode cX6_count 133 = .ok (.aload_n 0, 1) := by decide +kernel
theorem dX6_count_134 : decode cX6_count 134 = .ok (.getfield 33, 3) := by decide +kernel
theorem dX6_count_137 : decode cX6_count 137 = .ok (.getfield 332, 3) := by decide +kernel
theorem dX6_count_140 : decode cX6_count 140 = .ok (.ifCond .eq 7, 3) := by decide +kernel
theorem dX6_count_143 : decode cX6_count 143 = .ok (.iconst 1, 1) := by decide +kernel
theorem dX6_count_144 : decode cX6_count 144 = .ok (.goto 4, 3) := by decide +kernel
theorem dX6_count_147 : decode cX6_count 147 = .ok (.iconst 0, 1) := by decide +kernel
theorem dX6_count_148 : decode cX6_count 148 = .ok (.ireturn, 1) := by decide +kernel
theorem dX6_count_149 : decode cX6_count 149 = .ok (.aload_n 0, 1) := by decide +kernel
theorem dX6_count_150 : decode cX6_count 150 = .ok (.getfield 33, 3) := by decide +kernel
theorem dX6_count_153 : decode cX6_count 153 = .ok (.getfield 281, 3) := by decide +kernel
theorem dX6_count_156 : decode cX6_count 156 = .ok (.ireturn, 1) := by decide +kernel
theorem dX6_count_157 : decode cX6_count 157 = .ok (.aload_n 0, 1) := by decide +kernel
theorem dX6_count_158 : decode cX6_count 158 = .ok (.invokevirtual 335, 3) := by decide +kernel
theorem dX6_count_161 : decode cX6_count 161 = .ok (.ireturn, 1) := by decide +kernel
theorem dX6_count_162 : decode cX6_count 162 = .ok (.iconst (-1), 1) := by decide +kernel
theorem dX6_count_163 : decode cX6_count 163 = .ok (.ireturn, 1) := by decide +kernel
def wz_X6_count : List Cond := .code yX6_count cX6_count 2 (some .int) :: ([Cond.fieldLink RX6 33 "HedgeMaze" "garden" "LHedgeMaze$Garden;", Cond.fieldLink RX6 90 "HedgeMaze$Garden" "plan" "LHedgeMaze$Plan;", Cond.fieldLink RX6 326 "HedgeMaze$Plan" "wide" "I", Cond.fieldLink RX6 329 "HedgeMaze$Plan" "deep" "I", Cond.fieldLink RX6 117 "HedgeMaze$Garden" "hedges" "J", Cond.fieldLink RX6 125 "HedgeMaze$Garden" "walls" "J", Cond.fieldLink RX6 284 "HedgeMaze$Garden" "gateCount" "I", Cond.fieldLink RX6 258 "HedgeMaze$Garden" "guestCount" "I", Cond.fieldLink RX6 83 "HedgeMaze$Garden" "lines" "I", Cond.fieldLink RX6 13 "HedgeMaze" "tapeSize" "I", Cond.fieldLink RX6 332 "HedgeMaze$Garden" "isNear" "Z", Cond.fieldLink RX6 281 "HedgeMaze$Garden" "letterCell" "I", Cond.methodLink RX6 165 yJ13_bitCount_95d88, Cond.static yJ13_bitCount_95d88, Cond.initialized RJ13, Cond.code yJ13_bitCount_95d88 cJ13_bitCount_95d88 2 (some .int), Cond.constantLong RJ13 314 (6148914691236517205), Cond.constantLong RJ13 316 (3689348814741910323), Cond.constantLong RJ13 318 (1085102592571150095), Cond.methodLink RX6 335 yX6_countRows, Cond.instanceMethod yX6_countRows, Cond.selects RX6 yX6_countRows yX6_countRows, Cond.initialized RX6, Cond.code yX6_countRows cX6_countRows 3 (some .int), Cond.fieldLink RX6 43 "HedgeMaze" "rows" "[LHedgeMaze$Row;", Cond.fieldLink RX6 214 "HedgeMaze$Row" "there" "Z"] ++ wsX60 ++ wsX00 ++ wsX30 ++ wsX50)
theorem wd_X6_count_0 : Cond.fieldLink RX6 33 "HedgeMaze" "garden" "LHedgeMaze$Garden;" ∈ wz_X6_count := List.mem_of_getElem? (i := 1) rfl
theorem wd_X6_count_1 : Cond.fieldLink RX6 90 "HedgeMaze$Garden" "plan" "LHedgeMaze$Plan;" ∈ wz_X6_count := List.mem_of_getElem? (i := 2) rfl
theorem wd_X6_count_2 : Cond.fieldLink RX6 326 "HedgeMaze$Plan" "wide" "I" ∈ wz_X6_count := List.mem_of_getElem? (i := 3) rfl
theorem wd_X6_count_3 : Cond.fieldLink RX6 329 "HedgeMaze$Plan" "deep" "I" ∈ wz_X6_count := List.mem_of_getElem? (i := 4) rfl
theorem wd_X6_count_4 : Cond.fieldLink RX6 117 "HedgeMaze$Garden" "hedges" "J" ∈ wz_X6_count := List.mem_of_getElem? (i := 5) rfl
theorem wd_X6_count_5 : Cond.fieldLink RX6 125 "HedgeMaze$Garden" "walls" "J" ∈ wz_X6_count := List.mem_of_getElem? (i := 6) rfl
theorem wd_X6_count_6 : Cond.fieldLink RX6 284 "HedgeMaze$Garden" "gateCount" "I" ∈ wz_X6_count := List.mem_of_getElem? (i := 7) rfl
theorem wd_X6_count_7 : Cond.fieldLink RX6 258 "HedgeMaze$Garden" "guestCount" "I" ∈ wz_X6_count := List.mem_of_getElem? (i := 8) rfl
theorem wd_X6_count_8 : Cond.fieldLink RX6 83 "HedgeMaze$Garden" "lines" "I" ∈ wz_X6_count := List.mem_of_getElem? (i := 9) rfl
theorem wd_X6_count_9 : Cond.fieldLink RX6 13 "HedgeMaze" "tapeSize" "I" ∈ wz_X6_count := List.mem_of_getElem? (i := 10) rfl
theorem wd_X6_count_10 : Cond.fieldLink RX6 332 "HedgeMaze$Garden" "isNear" "Z" ∈ wz_X6_count := List.mem_of_getElem? (i := 11) rfl
theorem wd_X6_count_11 : Cond.fieldLink RX6 281 "HedgeMaze$Garden" "letterCell" "I" ∈ wz_X6_count := List.mem_of_getElem? (i := 12) rfl
theorem in_X6_count_X6 : ∀ w ∈ wsX60, w ∈ wz_X6_count := fun _ h => List.mem_cons_of_mem _ (List.mem_append_left _ (List.mem_append_left _ (List.mem_append_left _ (List.mem_append_right _ h))))
theorem in_X6_count_X0 : ∀ w ∈ wsX00, w ∈ wz_X6_count := fun _ h => List.mem_cons_of_mem _ (List.mem_append_left _ (List.mem_append_left _ (List.mem_append_right _ h)))
theorem in_X6_count_X3 : ∀ w ∈ wsX30, w ∈ wz_X6_count := fun _ h => List.mem_cons_of_mem _ (List.mem_append_left _ (List.mem_append_right _ h))
set_option maxRecDepth 20000 in
theorem g_X6_count_J13_bitCount_95d88 : GoodIn wz_X6_count (va_wsS RX6 165 yJ13_bitCount_95d88 wz_J13_bitCount_95d88) := goodIn_r _ [13, 14, 15, 16, 17, 18, 19] rfl (by decide +kernel)
set_option maxRecDepth 20000 in
theorem g_X6_count_X6_countRows : GoodIn wz_X6_count (wsV RX6 335 RX6 yX6_countRows wz_X6_countRows) := goodIn_r _ [20, 21, 22, 23, 24, 25, 26, 27, 28, 29, 30, 31, 32, 33, 34, 35, 36, 37, 59, 60, 61, 62] rfl (by decide +kernel)
set_option maxHeartbeats 4000000 in
set_option maxRecDepth 100000 in
theorem c_X6_count (l : Launch) (dC : Nat → ClassId) (dI : Nat → Nat → Nat) (sz : Nat) (h0 : Nat) (tp : Nat) (ts : Int32) (fn : Int32) (fp : Int32) (rd : Nat) (gd : Nat) (im : Nat) (rw : Nat) (gn : Nat) (ho : Nat) (sq : Nat) (gdl : Int32) (gdh : Int64) (gdw : Int64) (gdi : Int32) (gde : Int32) (gdc : Int32) (gdt : Nat) (gdg : Int32) (gdu : Nat) (gdn : Int32) (gdx : Nat) (pl : Nat) (plw : Int32) (pld : Int32) (plc : Int32) (pls : Int32) (plm : Int64) (plf : Nat) (plo : Nat) (plb : Nat) (pla : Nat) (krw : ClassId) (fr : Nat → Option Nat) (r0 : Nat) (rt0 : Int32) (rv0 : Int32) (rz0 : Int32) (rn0 : Nat) (rc0 : ClassId) (rN0 : Nat → Int64) (r1 : Nat) (rt1 : Int32) (rv1 : Int32) (rz1 : Int32) (rn1 : Nat) (rc1 : ClassId) (rN1 : Nat → Int64) (r2 : Nat) (rt2 : Int32) (rv2 : Int32) (rz2 : Int32) (rn2 : Nat) (rc2 : ClassId) (rN2 : Nat → Int64) (r3 : Nat) (rt3 : Int32) (rv3 : Int32) (rz3 : Int32) (rn3 : Nat) (rc3 : ClassId) (rN3 : Nat → Int64) (p0 : Int32) (hf0 : fr 0 = some r0) (hf1 : fr 1 = some r1) (hf2 : fr 2 = some r2) (hf3 : fr 3 = some r3) (h_gdi : gdi = 0 ∨ gdi = 1) : Met l yX6_count wz_X6_count ({ frames := 1, cells := 0, slots := 0, locals := 22 }) (va_Pc [.ref h0, .int p0] (fun U => U.heap.size = sz ∧ va_P (dC, dI) vwCl [(h0, .inr (6, [.ref tp, .int ts, .int fn, .int fp, .ref rd, .ref gd, .ref im, .ref rw, .ref gn, .ref ho, .ref sq])), (gd, .inr (0, [.ref pl, .int gdl, .long gdh, .long gdw, .int gdi, .int gde, .int gdc, .ref gdt, .int gdg, .ref gdu, .int gdn, .ref gdx])), (pl, .inr (3, [.int plw, .int pld, .int plc, .int pls, .long plm, .ref plf, .ref plo, .ref plb, .ref pla])), (rw, .inl (krw, 4, .inr (.inr (.inr (.inr fr))))), (r0, .inr (5, [.int rt0, .int rv0, .int rz0, .ref rn0])), (rn0, .inl (rc0, 60, .inr (.inl rN0))), (r1, .inr (5, [.int rt1, .int rv1, .int rz1, .ref rn1])), (rn1, .inl (rc1, 60, .inr (.inl rN1))), (r2, .inr (5, [.int rt2, .int rv2, .int rz2, .ref rn2])), (rn2, .inl (rc2, 60, .inr (.inl rN2))), (r3, .inr (5, [.int rt3, .int rv3, .int rz3, .ref rn3])), (rn3, .inl (rc3, 60, .inr (.inl rN3)))] U.heap ∧ va_K (dC, dI) vwCl [(krw, .object RX5), (rc0, .long), (rc1, .long), (rc2, .long), (rc3, .long)] U ∧ va_D (fun _ => True) [(h0, .inr (6, [.ref tp, .int ts, .int fn, .int fp, .ref rd, .ref gd, .ref im, .ref rw, .ref gn, .ref ho, .ref sq])), (gd, .inr (0, [.ref pl, .int gdl, .long gdh, .long gdw, .int gdi, .int gde, .int gdc, .ref gdt, .int gdg, .ref gdu, .int gdn, .ref gdx])), (pl, .inr (3, [.int plw, .int pld, .int plc, .int pls, .long plm, .ref plf, .ref plo, .ref plb, .ref pla])), (rw, .inl (krw, 4, .inr (.inr (.inr (.inr fr))))), (r0, .inr (5, [.int rt0, .int rv0, .int rz0, .ref rn0])), (rn0, .inl (rc0, 60, .inr (.inl rN0))), (r1, .inr (5, [.int rt1, .int rv1, .int rz1, .ref rn1])), (rn1, .inl (rc1, 60, .inr (.inl rN1))), (r2, .inr (5, [.int rt2, .int rv2, .int rz2, .ref rn2])), (rn2, .inl (rc2, 60, .inr (.inl rN2))), (r3, .inr (5, [.int rt3, .int rv3, .int rz3, .ref rn3])), (rn3, .inl (rc3, 60, .inr (.inl rN3)))])) (va_Qi (fun (r : Int32) (u : Unit) => True) (fun (u : Unit) (t : State) => va_P (dC, dI) vwCl [(h0, .inr (6, [.ref tp, .int ts, .int fn, .int fp, .ref rd, .ref gd, .ref im, .ref rw, .ref gn, .ref ho, .ref sq])), (gd, .inr (0, [.ref pl, .int gdl, .long gdh, .long gdw, .int gdi, .int gde, .int gdc, .ref gdt, .int gdg, .ref gdu, .int gdn, .ref gdx])), (pl, .inr (3, [.int plw, .int pld, .int plc, .int pls, .long plm, .ref plf, .ref plo, .ref plb, .ref pla])), (rw, .inl (krw, 4, .inr (.inr (.inr (.inr fr))))), (r0, .inr (5, [.int rt0, .int rv0, .int rz0, .ref rn0])), (rn0, .inl (rc0, 60, .inr (.inl rN0))), (r1, .inr (5, [.int rt1, .int rv1, .int rz1, .ref rn1])), (rn1, .inl (rc1, 60, .inr (.inl rN1))), (r2, .inr (5, [.int rt2, .int rv2, .int rz2, .ref rn2])), (rn2, .inl (rc2, 60, .inr (.inl rN2))), (r3, .inr (5, [.int rt3, .int rv3, .int rz3, .ref rn3])), (rn3, .inl (rc3, 60, .inr (.inl rN3)))] t.heap ∧ va_K (dC, dI) vwCl [] t ∧ va_D (va_A [(h0, .inr (6, [.ref tp, .int ts, .int fn, .int fp, .ref rd, .ref gd, .ref im, .ref rw, .ref gn, .ref ho, .ref sq])), (gd, .inr (0, [.ref pl, .int gdl, .long gdh, .long gdw, .int gdi, .int gde, .int gdc, .ref gdt, .int gdg, .ref gdu, .int gdn, .ref gdx])), (pl, .inr (3, [.int plw, .int pld, .int plc, .int pls, .long plm, .ref plf, .ref plo, .ref plb, .ref pla])), (rw, .inl (krw, 4, .inr (.inr (.inr (.inr fr))))), (r0, .inr (5, [.int rt0, .int rv0, .int rz0, .ref rn0])), (rn0, .inl (rc0, 60, .inr (.inl rN0))), (r1, .inr (5, [.int rt1, .int rv1, .int rz1, .ref rn1])), (rn1, .inl (rc1, 60, .inr (.inl rN1))), (r2, .inr (5, [.int rt2, .int rv2, .int rz2, .ref rn2])), (rn2, .inl (rc2, 60, .inr (.inl rN2))), (r3, .inr (5, [.int rt3, .int rv3, .int rz3, .ref rn3])), (rn3, .inl (rc3, 60, .inr (.inl rN3)))] sz) [(h0, .inr (6, [.ref tp, .int ts, .int fn, .int fp, .ref rd, .ref gd, .ref im, .ref rw, .ref gn, .ref ho, .ref sq])), (gd, .inr (0, [.ref pl, .int gdl, .long gdh, .long gdw, .int gdi, .int gde, .int gdc, .ref gdt, .int gdg, .ref gdu, .int gdn, .ref gdx])), (pl, .inr (3, [.int plw, .int pld, .int plc, .int pls, .long plm, .ref plf, .ref plo, .ref plb, .ref pla])), (rw, .inl (krw, 4, .inr (.inr (.inr (.inr fr))))), (r0, .inr (5, [.int rt0, .int rv0, .int rz0, .ref rn0])), (rn0, .inl (rc0, 60, .inr (.inl rN0))), (r1, .inr (5, [.int rt1, .int rv1, .int rz1, .ref rn1])), (rn1, .inl (rc1, 60, .inr (.inl rN1))), (r2, .inr (5, [.int rt2, .int rv2, .int rz2, .ref rn2])), (rn2, .inl (rc2, 60, .inr (.inl rN2))), (r3, .inr (5, [.int rt3, .int rv3, .int rz3, .ref rn3])), (rn3, .inl (rc3, 60, .inr (.inl rN3)))]) (va_A [(h0, .inr (6, [.ref tp, .int ts, .int fn, .int fp, .ref rd, .ref gd, .ref im, .ref rw, .ref gn, .ref ho, .ref sq])), (gd, .inr (0, [.ref pl, .int gdl, .long gdh, .long gdw, .int gdi, .int gde, .int gdc, .ref gdt, .int gdg, .ref gdu, .int gdn, .ref gdx])), (pl, .inr (3, [.int plw, .int pld, .int plc, .int pls, .long plm, .ref plf, .ref plo, .ref plb, .ref pla])), (rw, .inl (krw, 4, .inr (.inr (.inr (.inr fr))))), (r0, .inr (5, [.int rt0, .int rv0, .int rz0, .ref rn0])), (rn0, .inl (rc0, 60, .inr (.inl rN0))), (r1, .inr (5, [.int rt1, .int rv1, .int rz1, .ref rn1])), (rn1, .inl (rc1, 60, .inr (.inl rN1))), (r2, .inr (5, [.int rt2, .int rv2, .int rz2, .ref rn2])), (rn2, .inl (rc2, 60, .inr (.inl rN2))), (r3, .inr (5, [.int rt3, .int rv3, .int rz3, .ref rn3])), (rn3, .inl (rc3, 60, .inr (.inl rN3)))] sz)) 0 0 (va_A [(h0, .inr (6, [.ref tp, .int ts, .int fn, .int fp, .ref rd, .ref gd, .ref im, .ref rw, .ref gn, .ref ho, .ref sq])), (gd, .inr (0, [.ref pl, .int gdl, .long gdh, .long gdw, .int gdi, .int gde, .int gdc, .ref gdt, .int gdg, .ref gdu, .int gdn, .ref gdx])), (pl, .inr (3, [.int plw, .int pld, .int plc, .int pls, .long plm, .ref plf, .ref plo, .ref plb, .ref pla])), (rw, .inl (krw, 4, .inr (.inr (.inr (.inr fr))))), (r0, .inr (5, [.int rt0, .int rv0, .int rz0, .ref rn0])), (rn0, .inl (rc0, 60, .inr (.inl rN0))), (r1, .inr (5, [.int rt1, .int rv1, .int rz1, .ref rn1])), (rn1, .inl (rc1, 60, .inr (.inl rN1))), (r2, .inr (5, [.int rt2, .int rv2, .int rz2, .ref rn2])), (rn2, .inl (rc2, 60, .inr (.inl rN2))), (r3, .inr (5, [.int rt3, .int rv3, .int rz3, .ref rn3])), (rn3, .inl (rc3, 60, .inr (.inl rN3)))] sz) := by
  refine Met.ofW (cc := cX6_count) (maxL := 2) (ret := (some .int)) (by decide) rfl ?_
  intro p e s m args below meth c s₁ B hml hv
  obtain ⟨rfl, hsz, hP, hK, hD0⟩ := hv
  have hx := B.exec
  have hb := B.bytes
  have hr := B.returns
  have hts := atoms_spec (ws := wz_X6_count) B.pre
  have hown : s.vm.findClass RX6 = some m.cls := findClass_of_methodNamed B.named
  have hlocks := B.notSynchronized
  subst hsz
  have hD := hD0.self (sz := s.heap.size)
  generalize hAe : va_A [(h0, .inr (6, [.ref tp, .int ts, .int fn, .int fp, .ref rd, .ref gd, .ref im, .ref rw, .ref gn, .ref ho, .ref sq])), (gd, .inr (0, [.ref pl, .int gdl, .long gdh, .long gdw, .int gdi, .int gde, .int gdc, .ref gdt, .int gdg, .ref gdu, .int gdn, .ref gdx])), (pl, .inr (3, [.int plw, .int pld, .int plc, .int pls, .long plm, .ref plf, .ref plo, .ref plb, .ref pla])), (rw, .inl (krw, 4, .inr (.inr (.inr (.inr fr))))), (r0, .inr (5, [.int rt0, .int rv0, .int rz0, .ref rn0])), (rn0, .inl (rc0, 60, .inr (.inl rN0))), (r1, .inr (5, [.int rt1, .int rv1, .int rz1, .ref rn1])), (rn1, .inl (rc1, 60, .inr (.inl rN1))), (r2, .inr (5, [.int rt2, .int rv2, .int rz2, .ref rn2])), (rn2, .inl (rc2, 60, .inr (.inl rN2))), (r3, .inr (5, [.int rt3, .int rv3, .int rz3, .ref rn3])), (rn3, .inl (rc3, 60, .inr (.inl rN3)))] s.heap.size = A at hD ⊢
  have hA : ∀ q : Nat, s.heap.size ≤ q → A q := fun q h => by rw [← hAe]; exact Or.inr h
  have hS : va_S A s.heap s.heap [] := va_S.rf
  have hP : va_P (dC, dI) vwCl [(h0, .inr (6, [.ref tp, .int ts, .int fn, .int fp, .ref rd, .ref gd, .ref im, .ref rw, .ref gn, .ref ho, .ref sq])), (gd, .inr (0, [.ref pl, .int gdl, .long gdh, .long gdw, .int gdi, .int gde, .int gdc, .ref gdt, .int gdg, .ref gdu, .int gdn, .ref gdx])), (pl, .inr (3, [.int plw, .int pld, .int plc, .int pls, .long plm, .ref plf, .ref plo, .ref plb, .ref pla])), (rw, .inl (krw, 4, .inr (.inr (.inr (.inr fr))))), (r0, .inr (5, [.int rt0, .int rv0, .int rz0, .ref rn0])), (rn0, .inl (rc0, 60, .inr (.inl rN0))), (r1, .inr (5, [.int rt1, .int rv1, .int rz1, .ref rn1])), (rn1, .inl (rc1, 60, .inr (.inl rN1))), (r2, .inr (5, [.int rt2, .int rv2, .int rz2, .ref rn2])), (rn2, .inl (rc2, 60, .inr (.inl rN2))), (r3, .inr (5, [.int rt3, .int rv3, .int rz3, .ref rn3])), (rn3, .inl (rc3, 60, .inr (.inl rN3)))] s.heap := hP
  have hl := lv_entry ([.ref h0, .int p0]) (n := 2) (Nat.le_of_ble_eq_true rfl)
  rw [lg_entry_eq]
  generalize (lg_sl ([.ref h0, .int p0]) ++ List.replicate (2 - (lg_sl ([.ref h0, .int p0])).length) Slot.unset).toArray = ls at hl ⊢
  have hl : lv_has ls 2 [(0, .ref h0), (1, .int p0)] := hl
  refine lv_iload_n hx hb dX6_count_0 rfl (lv_at hl 1 rfl) ?_
  rcases i_sw (a := p0) rfl (lo := 0) (hi := 10) with hsw | hsw | hsw
  · refine lv_tableOut (tgt := 162) hx hb dX6_count_1 (Or.inl (i_clo rfl hsw)) (by decide) ?_
    refine lv_iconst (v := -1) hx hb dX6_count_162 (by decide) ?_
    have hP9 := hP.sub (ws' := [(h0, .inr (6, [.ref tp, .int ts, .int fn, .int fp, .ref rd, .ref gd, .ref im, .ref rw, .ref gn, .ref ho, .ref sq])), (gd, .inr (0, [.ref pl, .int gdl, .long gdh, .long gdw, .int gdi, .int gde, .int gdc, .ref gdt, .int gdg, .ref gdu, .int gdn, .ref gdx])), (pl, .inr (3, [.int plw, .int pld, .int plc, .int pls, .long plm, .ref plf, .ref plo, .ref plb, .ref pla])), (rw, .inl (krw, 4, .inr (.inr (.inr (.inr fr))))), (r0, .inr (5, [.int rt0, .int rv0, .int rz0, .ref rn0])), (rn0, .inl (rc0, 60, .inr (.inl rN0))), (r1, .inr (5, [.int rt1, .int rv1, .int rz1, .ref rn1])), (rn1, .inl (rc1, 60, .inr (.inl rN1))), (r2, .inr (5, [.int rt2, .int rv2, .int rz2, .ref rn2])), (rn2, .inl (rc2, 60, .inr (.inl rN2))), (r3, .inr (5, [.int rt3, .int rv3, .int rz3, .ref rn3])), (rn3, .inl (rc3, 60, .inr (.inl rN3)))]) [0, 1, 2, 3, 4, 5, 6, 7, 8, 9, 10, 11] rfl
    have hD9 := hD.sub (ws' := [(h0, .inr (6, [.ref tp, .int ts, .int fn, .int fp, .ref rd, .ref gd, .ref im, .ref rw, .ref gn, .ref ho, .ref sq])), (gd, .inr (0, [.ref pl, .int gdl, .long gdh, .long gdw, .int gdi, .int gde, .int gdc, .ref gdt, .int gdg, .ref gdu, .int gdn, .ref gdx])), (pl, .inr (3, [.int plw, .int pld, .int plc, .int pls, .long plm, .ref plf, .ref plo, .ref plb, .ref pla])), (rw, .inl (krw, 4, .inr (.inr (.inr (.inr fr))))), (r0, .inr (5, [.int rt0, .int rv0, .int rz0, .ref rn0])), (rn0, .inl (rc0, 60, .inr (.inl rN0))), (r1, .inr (5, [.int rt1, .int rv1, .int rz1, .ref rn1])), (rn1, .inl (rc1, 60, .inr (.inl rN1))), (r2, .inr (5, [.int rt2, .int rv2, .int rz2, .ref rn2])), (rn2, .inl (rc2, 60, .inr (.inl rN2))), (r3, .inr (5, [.int rt3, .int rv3, .int rz3, .ref rn3])), (rn3, .inl (rc3, 60, .inr (.inl rN3)))]) [0, 1, 2, 3, 4, 5, 6, 7, 8, 9, 10, 11] (by decide) rfl
    have hK9 := hK.sub (tys' := []) [] rfl
    refine W.widen (k := 0) (n := 0) (by omega) (by omega) ?_
    exact W.iret (v := -1) hx hb hr (fun t ht hW => ⟨⟨(-1), (), rfl, trivial, by rw [ht]; exact hP9, va_K.moved hW.alike hK9, hD9⟩, hS.F ht⟩) hS.2.2 dX6_count_163
  · refine lv_tableOut (tgt := 162) hx hb dX6_count_1 (Or.inr (i_chi rfl hsw)) (by decide) ?_
    refine lv_iconst (v := -1) hx hb dX6_count_162 (by decide) ?_
    have hP9 := hP.sub (ws' := [(h0, .inr (6, [.ref tp, .int ts, .int fn, .int fp, .ref rd, .ref gd, .ref im, .ref rw, .ref gn, .ref ho, .ref sq])), (gd, .inr (0, [.ref pl, .int gdl, .long gdh, .long gdw, .int gdi, .int gde, .int gdc, .ref gdt, .int gdg, .ref gdu, .int gdn, .ref gdx])), (pl, .inr (3, [.int plw, .int pld, .int plc, .int pls, .long plm, .ref plf, .ref plo, .ref plb, .ref pla])), (rw, .inl (krw, 4, .inr (.inr (.inr (.inr fr))))), (r0, .inr (5, [.int rt0, .int rv0, .int rz0, .ref rn0])), (rn0, .inl (rc0, 60, .inr (.inl rN0))), (r1, .inr (5, [.int rt1, .int rv1, .int rz1, .ref rn1])), (rn1, .inl (rc1, 60, .inr (.inl rN1))), (r2, .inr (5, [.int rt2, .int rv2, .int rz2, .ref rn2])), (rn2, .inl (rc2, 60, .inr (.inl rN2))), (r3, .inr (5, [.int rt3, .int rv3, .int rz3, .ref rn3])), (rn3, .inl (rc3, 60, .inr (.inl rN3)))]) [0, 1, 2, 3, 4, 5, 6, 7, 8, 9, 10, 11] rfl
    have hD9 := hD.sub (ws' := [(h0, .inr (6, [.ref tp, .int ts, .int fn, .int fp, .ref rd, .ref gd, .ref im, .ref rw, .ref gn, .ref ho, .ref sq])), (gd, .inr (0, [.ref pl, .int gdl, .long gdh, .long gdw, .int gdi, .int gde, .int gdc, .ref gdt, .int gdg, .ref gdu, .int gdn, .ref gdx])), (pl, .inr (3, [.int plw, .int pld, .int plc, .int pls, .long plm, .ref plf, .ref plo, .ref plb, .ref pla])), (rw, .inl (krw, 4, .inr (.inr (.inr (.inr fr))))), (r0, .inr (5, [.int rt0, .int rv0, .int rz0, .ref rn0])), (rn0, .inl (rc0, 60, .inr (.inl rN0))), (r1, .inr (5, [.int rt1, .int rv1, .int rz1, .ref rn1])), (rn1, .inl (rc1, 60, .inr (.inl rN1))), (r2, .inr (5, [.int rt2, .int rv2, .int rz2, .ref rn2])), (rn2, .inl (rc2, 60, .inr (.inl rN2))), (r3, .inr (5, [.int rt3, .int rv3, .int rz3, .ref rn3])), (rn3, .inl (rc3, 60, .inr (.inl rN3)))]) [0, 1, 2, 3, 4, 5, 6, 7, 8, 9, 10, 11] (by decide) rfl
    have hK9 := hK.sub (tys' := []) [] rfl
    refine W.widen (k := 0) (n := 0) (by omega) (by omega) ?_
    exact W.iret (v := -1) hx hb hr (fun t ht hW => ⟨⟨(-1), (), rfl, trivial, by rw [ht]; exact hP9, va_K.moved hW.alike hK9, hD9⟩, hS.F ht⟩) hS.2.2 dX6_count_163
  · have hsw2 : p0.toInt = 0 ∨ p0.toInt = 1 ∨ p0.toInt = 2 ∨ p0.toInt = 3 ∨ p0.toInt = 4 ∨ p0.toInt = 5 ∨ p0.toInt = 6 ∨ p0.toInt = 7 ∨ p0.toInt = 8 ∨ p0.toInt = 9 ∨ p0.toInt = 10 := by omega
    rcases hsw2 with hsw2 | hsw2 | hsw2 | hsw2 | hsw2 | hsw2 | hsw2 | hsw2 | hsw2 | hsw2 | hsw2
    · have hxz : p0.toInt = 0 := (rfl : p0.toInt = p0.toInt).trans hsw2
      refine lv_tableIn (off := 59) (tgt := 60) hx hb dX6_count_1 (by rw [hxz]; decide) (by rw [hxz]; decide) (by rw [hxz]; rfl) (by decide) ?_
      refine lv_aload_n hx hb dX6_count_60 rfl (lv_at hl 0 rfl) ?_
      refine va_get (D := (dC, dI)) (ci := 6) (v := .ref gd) (C := RX6) (T := TX6) (N := 11) hx hb hts in_X6_count_X6 hown hK hP 0 rfl rfl 5 (by decide) (hts _ wd_X6_count_0) (fun _ h9 => h9) rfl dX6_count_61 ?_
      refine va_get (D := (dC, dI)) (ci := 0) (v := .ref pl) (C := RX0) (T := TX0) (N := 12) hx hb hts in_X6_count_X0 hown hK hP 1 rfl rfl 0 (by decide) (hts _ wd_X6_count_1) (fun _ h9 => h9) rfl dX6_count_64 ?_
      refine va_get (D := (dC, dI)) (ci := 3) (v := .int plw) (C := RX3) (T := TX3) (N := 9) hx hb hts in_X6_count_X3 hown hK hP 2 rfl rfl 0 (by decide) (hts _ wd_X6_count_2) (fun _ h9 => h9) rfl dX6_count_67 ?_
      have hP9 := hP.sub (ws' := [(h0, .inr (6, [.ref tp, .int ts, .int fn, .int fp, .ref rd, .ref gd, .ref im, .ref rw, .ref gn, .ref ho, .ref sq])), (gd, .inr (0, [.ref pl, .int gdl, .long gdh, .long gdw, .int gdi, .int gde, .int gdc, .ref gdt, .int gdg, .ref gdu, .int gdn, .ref gdx])), (pl, .inr (3, [.int plw, .int pld, .int plc, .int pls, .long plm, .ref plf, .ref plo, .ref plb, .ref pla])), (rw, .inl (krw, 4, .inr (.inr (.inr (.inr fr))))), (r0, .inr (5, [.int rt0, .int rv0, .int rz0, .ref rn0])), (rn0, .inl (rc0, 60, .inr (.inl rN0))), (r1, .inr (5, [.int rt1, .int rv1, .int rz1, .ref rn1])), (rn1, .inl (rc1, 60, .inr (.inl rN1))), (r2, .inr (5, [.int rt2, .int rv2, .int rz2, .ref rn2])), (rn2, .inl (rc2, 60, .inr (.inl rN2))), (r3, .inr (5, [.int rt3, .int rv3, .int rz3, .ref rn3])), (rn3, .inl (rc3, 60, .inr (.inl rN3)))]) [0, 1, 2, 3, 4, 5, 6, 7, 8, 9, 10, 11] rfl
      have hD9 := hD.sub (ws' := [(h0, .inr (6, [.ref tp, .int ts, .int fn, .int fp, .ref rd, .ref gd, .ref im, .ref rw, .ref gn, .ref ho, .ref sq])), (gd, .inr (0, [.ref pl, .int gdl, .long gdh, .long gdw, .int gdi, .int gde, .int gdc, .ref gdt, .int gdg, .ref gdu, .int gdn, .ref gdx])), (pl, .inr (3, [.int plw, .int pld, .int plc, .int pls, .long plm, .ref plf, .ref plo, .ref plb, .ref pla])), (rw, .inl (krw, 4, .inr (.inr (.inr (.inr fr))))), (r0, .inr (5, [.int rt0, .int rv0, .int rz0, .ref rn0])), (rn0, .inl (rc0, 60, .inr (.inl rN0))), (r1, .inr (5, [.int rt1, .int rv1, .int rz1, .ref rn1])), (rn1, .inl (rc1, 60, .inr (.inl rN1))), (r2, .inr (5, [.int rt2, .int rv2, .int rz2, .ref rn2])), (rn2, .inl (rc2, 60, .inr (.inl rN2))), (r3, .inr (5, [.int rt3, .int rv3, .int rz3, .ref rn3])), (rn3, .inl (rc3, 60, .inr (.inl rN3)))]) [0, 1, 2, 3, 4, 5, 6, 7, 8, 9, 10, 11] (by decide) rfl
      have hK9 := hK.sub (tys' := []) [] rfl
      refine W.widen (k := 0) (n := 0) (by omega) (by omega) ?_
      exact W.iret (v := plw) hx hb hr (fun t ht hW => ⟨⟨plw, (), rfl, trivial, by rw [ht]; exact hP9, va_K.moved hW.alike hK9, hD9⟩, hS.F ht⟩) hS.2.2 dX6_count_70
    · have hxz : p0.toInt = 1 := (rfl : p0.toInt = p0.toInt).trans hsw2
      refine lv_tableIn (off := 70) (tgt := 71) hx hb dX6_count_1 (by rw [hxz]; decide) (by rw [hxz]; decide) (by rw [hxz]; rfl) (by decide) ?_
      refine lv_aload_n hx hb dX6_count_71 rfl (lv_at hl 0 rfl) ?_
      refine va_get (D := (dC, dI)) (ci := 6) (v := .ref gd) (C := RX6) (T := TX6) (N := 11) hx hb hts in_X6_count_X6 hown hK hP 0 rfl rfl 5 (by decide) (hts _ wd_X6_count_0) (fun _ h9 => h9) rfl dX6_count_72 ?_
      refine va_get (D := (dC, dI)) (ci := 0) (v := .ref pl) (C := RX0) (T := TX0) (N := 12) hx hb hts in_X6_count_X0 hown hK hP 1 rfl rfl 0 (by decide) (hts _ wd_X6_count_1) (fun _ h9 => h9) rfl dX6_count_75 ?_
      refine va_get (D := (dC, dI)) (ci := 3) (v := .int pld) (C := RX3) (T := TX3) (N := 9) hx hb hts in_X6_count_X3 hown hK hP 2 rfl rfl 1 (by decide) (hts _ wd_X6_count_3) (fun _ h9 => h9) rfl dX6_count_78 ?_
      have hP9 := hP.sub (ws' := [(h0, .inr (6, [.ref tp, .int ts, .int fn, .int fp, .ref rd, .ref gd, .ref im, .ref rw, .ref gn, .ref ho, .ref sq])), (gd, .inr (0, [.ref pl, .int gdl, .long gdh, .long gdw, .int gdi, .int gde, .int gdc, .ref gdt, .int gdg, .ref gdu, .int gdn, .ref gdx])), (pl, .inr (3, [.int plw, .int pld, .int plc, .int pls, .long plm, .ref plf, .ref plo, .ref plb, .ref pla])), (rw, .inl (krw, 4, .inr (.inr (.inr (.inr fr))))), (r0, .inr (5, [.int rt0, .int rv0, .int rz0, .ref rn0])), (rn0, .inl (rc0, 60, .inr (.inl rN0))), (r1, .inr (5, [.int rt1, .int rv1, .int rz1, .ref rn1])), (rn1, .inl (rc1, 60, .inr (.inl rN1))), (r2, .inr (5, [.int rt2, .int rv2, .int rz2, .ref rn2])), (rn2, .inl (rc2, 60, .inr (.inl rN2))), (r3, .inr (5, [.int rt3, .int rv3, .int rz3, .ref rn3])), (rn3, .inl (rc3, 60, .inr (.inl rN3)))]) [0, 1, 2, 3, 4, 5, 6, 7, 8, 9, 10, 11] rfl
      have hD9 := hD.sub (ws' := [(h0, .inr (6, [.ref tp, .int ts, .int fn, .int fp, .ref rd, .ref gd, .ref im, .ref rw, .ref gn, .ref ho, .ref sq])), (gd, .inr (0, [.ref pl, .int gdl, .long gdh, .long gdw, .int gdi, .int gde, .int gdc, .ref gdt, .int gdg, .ref gdu, .int gdn, .ref gdx])), (pl, .inr (3, [.int plw, .int pld, .int plc, .int pls, .long plm, .ref plf, .ref plo, .ref plb, .ref pla])), (rw, .inl (krw, 4, .inr (.inr (.inr (.inr fr))))), (r0, .inr (5, [.int rt0, .int rv0, .int rz0, .ref rn0])), (rn0, .inl (rc0, 60, .inr (.inl rN0))), (r1, .inr (5, [.int rt1, .int rv1, .int rz1, .ref rn1])), (rn1, .inl (rc1, 60, .inr (.inl rN1))), (r2, .inr (5, [.int rt2, .int rv2, .int rz2, .ref rn2])), (rn2, .inl (rc2, 60, .inr (.inl rN2))), (r3, .inr (5, [.int rt3, .int rv3, .int rz3, .ref rn3])), (rn3, .inl (rc3, 60, .inr (.inl rN3)))]) [0, 1, 2, 3, 4, 5, 6, 7, 8, 9, 10, 11] (by decide) rfl
      have hK9 := hK.sub (tys' := []) [] rfl
      refine W.widen (k := 0) (n := 0) (by omega) (by omega) ?_
      exact W.iret (v := pld) hx hb hr (fun t ht hW => ⟨⟨pld, (), rfl, trivial, by rw [ht]; exact hP9, va_K.moved hW.alike hK9, hD9⟩, hS.F ht⟩) hS.2.2 dX6_count_81
    · have hxz : p0.toInt = 2 := (rfl : p0.toInt = p0.toInt).trans hsw2
      refine lv_tableIn (off := 81) (tgt := 82) hx hb dX6_count_1 (by rw [hxz]; decide) (by rw [hxz]; decide) (by rw [hxz]; rfl) (by decide) ?_
      refine lv_aload_n hx hb dX6_count_82 rfl (lv_at hl 0 rfl) ?_
      refine va_get (D := (dC, dI)) (ci := 6) (v := .ref gd) (C := RX6) (T := TX6) (N := 11) hx hb hts in_X6_count_X6 hown hK hP 0 rfl rfl 5 (by decide) (hts _ wd_X6_count_0) (fun _ h9 => h9) rfl dX6_count_83 ?_
      refine va_get (D := (dC, dI)) (ci := 0) (v := .long gdh) (C := RX0) (T := TX0) (N := 12) hx hb hts in_X6_count_X0 hown hK hP 1 rfl rfl 2 (by decide) (hts _ wd_X6_count_4) (fun _ h9 => h9) rfl dX6_count_86 ?_
      have hPc := hP.sub (ws' := []) [] rfl
      have hDc := hD.sub (ws' := []) [] (by decide) rfl
      have hKc := hK.sub (tys' := []) [] rfl
      have hFc := va_free (wc := []) hD hS hA [] rfl
      refine va_calli (va_runS (As := [.long gdh]) (rest := []) ⟨hx, hb, hml, hown, hts⟩ (c_J13_bitCount_95d88 l dC dI s.heap.size gdh ) (va_cwS 1 hts g_X6_count_J13_bitCount_95d88 rfl rfl rfl (by decide +kernel) ⟨Nat.le_of_ble_eq_true rfl, Nat.le_of_ble_eq_true rfl⟩) ⟨fun a U g mk q => by obtain ⟨q0, q1, qP, qK, qD⟩ := q; exact ⟨q0, q1, qP, va_K.moved (u := U) (U := U.calling g mk a) (Vm.Alike.refl U.vm) qK, qD⟩, fun U hU hW => ⟨rfl, by rw [hU], by rw [hU]; exact hPc, va_K.moved hW.alike hKc, hDc.weaken (fun _ _ _ _ => trivial)⟩⟩ rfl rfl hl.1 rfl (lv_room (Nat.le_of_ble_eq_true rfl)) dX6_count_89 ⟨Nat.le_of_ble_eq_true rfl, Nat.le_of_ble_eq_true rfl⟩) hS (fun q _ h => hFc q h) hFc (fun r_1 u t H1 locs ht hvm hw_2 hB hz1 hk1 hS => ?_)
      have hP1 : va_P (dC, dI) vwCl [] H1 := i_nilP
      have hD1 : va_D (va_A [] s.heap.size) [] := i_nilD
      try dsimp only at hw_2
      obtain ⟨hP, hD⟩ := va_join (wr := [(h0, .inr (6, [.ref tp, .int ts, .int fn, .int fp, .ref rd, .ref gd, .ref im, .ref rw, .ref gn, .ref ho, .ref sq])), (gd, .inr (0, [.ref pl, .int gdl, .long gdh, .long gdw, .int gdi, .int gde, .int gdc, .ref gdt, .int gdg, .ref gdu, .int gdn, .ref gdx])), (pl, .inr (3, [.int plw, .int pld, .int plc, .int pls, .long plm, .ref plf, .ref plo, .ref plb, .ref pla])), (rw, .inl (krw, 4, .inr (.inr (.inr (.inr fr))))), (r0, .inr (5, [.int rt0, .int rv0, .int rz0, .ref rn0])), (rn0, .inl (rc0, 60, .inr (.inl rN0))), (r1, .inr (5, [.int rt1, .int rv1, .int rz1, .ref rn1])), (rn1, .inl (rc1, 60, .inr (.inl rN1))), (r2, .inr (5, [.int rt2, .int rv2, .int rz2, .ref rn2])), (rn2, .inl (rc2, 60, .inr (.inl rN2))), (r3, .inr (5, [.int rt3, .int rv3, .int rz3, .ref rn3])), (rn3, .inl (rc3, 60, .inr (.inl rN3)))]) (w1 := []) hP hD [] [0, 1, 2, 3, 4, 5, 6, 7, 8, 9, 10, 11] rfl rfl (by decide) (by decide) hk1 hFc hP1 hD1
      generalize H1 = H at hP hS ⊢
      have hP : va_P (dC, dI) vwCl [(h0, .inr (6, [.ref tp, .int ts, .int fn, .int fp, .ref rd, .ref gd, .ref im, .ref rw, .ref gn, .ref ho, .ref sq])), (gd, .inr (0, [.ref pl, .int gdl, .long gdh, .long gdw, .int gdi, .int gde, .int gdc, .ref gdt, .int gdg, .ref gdu, .int gdn, .ref gdx])), (pl, .inr (3, [.int plw, .int pld, .int plc, .int pls, .long plm, .ref plf, .ref plo, .ref plb, .ref pla])), (rw, .inl (krw, 4, .inr (.inr (.inr (.inr fr))))), (r0, .inr (5, [.int rt0, .int rv0, .int rz0, .ref rn0])), (rn0, .inl (rc0, 60, .inr (.inl rN0))), (r1, .inr (5, [.int rt1, .int rv1, .int rz1, .ref rn1])), (rn1, .inl (rc1, 60, .inr (.inl rN1))), (r2, .inr (5, [.int rt2, .int rv2, .int rz2, .ref rn2])), (rn2, .inl (rc2, 60, .inr (.inl rN2))), (r3, .inr (5, [.int rt3, .int rv3, .int rz3, .ref rn3])), (rn3, .inl (rc3, 60, .inr (.inl rN3)))] H := hP
      have hD : va_D A [(h0, .inr (6, [.ref tp, .int ts, .int fn, .int fp, .ref rd, .ref gd, .ref im, .ref rw, .ref gn, .ref ho, .ref sq])), (gd, .inr (0, [.ref pl, .int gdl, .long gdh, .long gdw, .int gdi, .int gde, .int gdc, .ref gdt, .int gdg, .ref gdu, .int gdn, .ref gdx])), (pl, .inr (3, [.int plw, .int pld, .int plc, .int pls, .long plm, .ref plf, .ref plo, .ref plb, .ref pla])), (rw, .inl (krw, 4, .inr (.inr (.inr (.inr fr))))), (r0, .inr (5, [.int rt0, .int rv0, .int rz0, .ref rn0])), (rn0, .inl (rc0, 60, .inr (.inl rN0))), (r1, .inr (5, [.int rt1, .int rv1, .int rz1, .ref rn1])), (rn1, .inl (rc1, 60, .inr (.inl rN1))), (r2, .inr (5, [.int rt2, .int rv2, .int rz2, .ref rn2])), (rn2, .inl (rc2, 60, .inr (.inl rN2))), (r3, .inr (5, [.int rt3, .int rv3, .int rz3, .ref rn3])), (rn3, .inl (rc3, 60, .inr (.inl rN3)))] := hD
      have hP9 := hP.sub (ws' := [(h0, .inr (6, [.ref tp, .int ts, .int fn, .int fp, .ref rd, .ref gd, .ref im, .ref rw, .ref gn, .ref ho, .ref sq])), (gd, .inr (0, [.ref pl, .int gdl, .long gdh, .long gdw, .int gdi, .int gde, .int gdc, .ref gdt, .int gdg, .ref gdu, .int gdn, .ref gdx])), (pl, .inr (3, [.int plw, .int pld, .int plc, .int pls, .long plm, .ref plf, .ref plo, .ref plb, .ref pla])), (rw, .inl (krw, 4, .inr (.inr (.inr (.inr fr))))), (r0, .inr (5, [.int rt0, .int rv0, .int rz0, .ref rn0])), (rn0, .inl (rc0, 60, .inr (.inl rN0))), (r1, .inr (5, [.int rt1, .int rv1, .int rz1, .ref rn1])), (rn1, .inl (rc1, 60, .inr (.inl rN1))), (r2, .inr (5, [.int rt2, .int rv2, .int rz2, .ref rn2])), (rn2, .inl (rc2, 60, .inr (.inl rN2))), (r3, .inr (5, [.int rt3, .int rv3, .int rz3, .ref rn3])), (rn3, .inl (rc3, 60, .inr (.inl rN3)))]) [0, 1, 2, 3, 4, 5, 6, 7, 8, 9, 10, 11] rfl
      have hD9 := hD.sub (ws' := [(h0, .inr (6, [.ref tp, .int ts, .int fn, .int fp, .ref rd, .ref gd, .ref im, .ref rw, .ref gn, .ref ho, .ref sq])), (gd, .inr (0, [.ref pl, .int gdl, .long gdh, .long gdw, .int gdi, .int gde, .int gdc, .ref gdt, .int gdg, .ref gdu, .int gdn, .ref gdx])), (pl, .inr (3, [.int plw, .int pld, .int plc, .int pls, .long plm, .ref plf, .ref plo, .ref plb, .ref pla])), (rw, .inl (krw, 4, .inr (.inr (.inr (.inr fr))))), (r0, .inr (5, [.int rt0, .int rv0, .int rz0, .ref rn0])), (rn0, .inl (rc0, 60, .inr (.inl rN0))), (r1, .inr (5, [.int rt1, .int rv1, .int rz1, .ref rn1])), (rn1, .inl (rc1, 60, .inr (.inl rN1))), (r2, .inr (5, [.int rt2, .int rv2, .int rz2, .ref rn2])), (rn2, .inl (rc2, 60, .inr (.inl rN2))), (r3, .inr (5, [.int rt3, .int rv3, .int rz3, .ref rn3])), (rn3, .inl (rc3, 60, .inr (.inl rN3)))]) [0, 1, 2, 3, 4, 5, 6, 7, 8, 9, 10, 11] (by decide) rfl
      have hK9 := hK.sub (tys' := []) [] rfl
      refine W.widen (k := 0) (n := 0) (by omega) (by omega) ?_
      exact W.iret (v := r_1) hx hb hr (fun t ht hW => ⟨⟨r_1, (), rfl, trivial, by rw [ht]; exact hP9, va_K.moved hW.alike hK9, hD9⟩, hS.F ht⟩) hS.2.2 dX6_count_92
    · have hxz : p0.toInt = 3 := (rfl : p0.toInt = p0.toInt).trans hsw2
      refine lv_tableIn (off := 92) (tgt := 93) hx hb dX6_count_1 (by rw [hxz]; decide) (by rw [hxz]; decide) (by rw [hxz]; rfl) (by decide) ?_
      refine lv_aload_n hx hb dX6_count_93 rfl (lv_at hl 0 rfl) ?_
      refine va_get (D := (dC, dI)) (ci := 6) (v := .ref gd) (C := RX6) (T := TX6) (N := 11) hx hb hts in_X6_count_X6 hown hK hP 0 rfl rfl 5 (by decide) (hts _ wd_X6_count_0) (fun _ h9 => h9) rfl dX6_count_94 ?_
      refine va_get (D := (dC, dI)) (ci := 0) (v := .long gdw) (C := RX0) (T := TX0) (N := 12) hx hb hts in_X6_count_X0 hown hK hP 1 rfl rfl 3 (by decide) (hts _ wd_X6_count_5) (fun _ h9 => h9) rfl dX6_count_97 ?_
      have hPc := hP.sub (ws' := []) [] rfl
      have hDc := hD.sub (ws' := []) [] (by decide) rfl
      have hKc := hK.sub (tys' := []) [] rfl
      have hFc := va_free (wc := []) hD hS hA [] rfl
      refine va_calli (va_runS (As := [.long gdw]) (rest := []) ⟨hx, hb, hml, hown, hts⟩ (c_J13_bitCount_95d88 l dC dI s.heap.size gdw ) (va_cwS 1 hts g_X6_count_J13_bitCount_95d88 rfl rfl rfl (by decide +kernel) ⟨Nat.le_of_ble_eq_true rfl, Nat.le_of_ble_eq_true rfl⟩) ⟨fun a U g mk q => by obtain ⟨q0, q1, qP, qK, qD⟩ := q; exact ⟨q0, q1, qP, va_K.moved (u := U) (U := U.calling g mk a) (Vm.Alike.refl U.vm) qK, qD⟩, fun U hU hW => ⟨rfl, by rw [hU], by rw [hU]; exact hPc, va_K.moved hW.alike hKc, hDc.weaken (fun _ _ _ _ => trivial)⟩⟩ rfl rfl hl.1 rfl (lv_room (Nat.le_of_ble_eq_true rfl)) dX6_count_100 ⟨Nat.le_of_ble_eq_true rfl, Nat.le_of_ble_eq_true rfl⟩) hS (fun q _ h => hFc q h) hFc (fun r_3 u t H1 locs ht hvm hw_4 hB hz1 hk1 hS => ?_)
      have hP1 : va_P (dC, dI) vwCl [] H1 := i_nilP
      have hD1 : va_D (va_A [] s.heap.size) [] := i_nilD
      try dsimp only at hw_4
      obtain ⟨hP, hD⟩ := va_join (wr := [(h0, .inr (6, [.ref tp, .int ts, .int fn, .int fp, .ref rd, .ref gd, .ref im, .ref rw, .ref gn, .ref ho, .ref sq])), (gd, .inr (0, [.ref pl, .int gdl, .long gdh, .long gdw, .int gdi, .int gde, .int gdc, .ref gdt, .int gdg, .ref gdu, .int gdn, .ref gdx])), (pl, .inr (3, [.int plw, .int pld, .int plc, .int pls, .long plm, .ref plf, .ref plo, .ref plb, .ref pla])), (rw, .inl (krw, 4, .inr (.inr (.inr (.inr fr))))), (r0, .inr (5, [.int rt0, .int rv0, .int rz0, .ref rn0])), (rn0, .inl (rc0, 60, .inr (.inl rN0))), (r1, .inr (5, [.int rt1, .int rv1, .int rz1, .ref rn1])), (rn1, .inl (rc1, 60, .inr (.inl rN1))), (r2, .inr (5, [.int rt2, .int rv2, .int rz2, .ref rn2])), (rn2, .inl (rc2, 60, .inr (.inl rN2))), (r3, .inr (5, [.int rt3, .int rv3, .int rz3, .ref rn3])), (rn3, .inl (rc3, 60, .inr (.inl rN3)))]) (w1 := []) hP hD [] [0, 1, 2, 3, 4, 5, 6, 7, 8, 9, 10, 11] rfl rfl (by decide) (by decide) hk1 hFc hP1 hD1
      generalize H1 = H at hP hS ⊢
      have hP : va_P (dC, dI) vwCl [(h0, .inr (6, [.ref tp, .int ts, .int fn, .int fp, .ref rd, .ref gd, .ref im, .ref rw, .ref gn, .ref ho, .ref sq])), (gd, .inr (0, [.ref pl, .int gdl, .long gdh, .long gdw, .int gdi, .int gde, .int gdc, .ref gdt, .int gdg, .ref gdu, .int gdn, .ref gdx])), (pl, .inr (3, [.int plw, .int pld, .int plc, .int pls, .long plm, .ref plf, .ref plo, .ref plb, .ref pla])), (rw, .inl (krw, 4, .inr (.inr (.inr (.inr fr))))), (r0, .inr (5, [.int rt0, .int rv0, .int rz0, .ref rn0])), (rn0, .inl (rc0, 60, .inr (.inl rN0))), (r1, .inr (5, [.int rt1, .int rv1, .int rz1, .ref rn1])), (rn1, .inl (rc1, 60, .inr (.inl rN1))), (r2, .inr (5, [.int rt2, .int rv2, .int rz2, .ref rn2])), (rn2, .inl (rc2, 60, .inr (.inl rN2))), (r3, .inr (5, [.int rt3, .int rv3, .int rz3, .ref rn3])), (rn3, .inl (rc3, 60, .inr (.inl rN3)))] H := hP
      have hD : va_D A [(h0, .inr (6, [.ref tp, .int ts, .int fn, .int fp, .ref rd, .ref gd, .ref im, .ref rw, .ref gn, .ref ho, .ref sq])), (gd, .inr (0, [.ref pl, .int gdl, .long gdh, .long gdw, .int gdi, .int gde, .int gdc, .ref gdt, .int gdg, .ref gdu, .int gdn, .ref gdx])), (pl, .inr (3, [.int plw, .int pld, .int plc, .int pls, .long plm, .ref plf, .ref plo, .ref plb, .ref pla])), (rw, .inl (krw, 4, .inr (.inr (.inr (.inr fr))))), (r0, .inr (5, [.int rt0, .int rv0, .int rz0, .ref rn0])), (rn0, .inl (rc0, 60, .inr (.inl rN0))), (r1, .inr (5, [.int rt1, .int rv1, .int rz1, .ref rn1])), (rn1, .inl (rc1, 60, .inr (.inl rN1))), (r2, .inr (5, [.int rt2, .int rv2, .int rz2, .ref rn2])), (rn2, .inl (rc2, 60, .inr (.inl rN2))), (r3, .inr (5, [.int rt3, .int rv3, .int rz3, .ref rn3])), (rn3, .inl (rc3, 60, .inr (.inl rN3)))] := hD
      have hP9 := hP.sub (ws' := [(h0, .inr (6, [.ref tp, .int ts, .int fn, .int fp, .ref rd, .ref gd, .ref im, .ref rw, .ref gn, .ref ho, .ref sq])), (gd, .inr (0, [.ref pl, .int gdl, .long gdh, .long gdw, .int gdi, .int gde, .int gdc, .ref gdt, .int gdg, .ref gdu, .int gdn, .ref gdx])), (pl, .inr (3, [.int plw, .int pld, .int plc, .int pls, .long plm, .ref plf, .ref plo, .ref plb, .ref pla])), (rw, .inl (krw, 4, .inr (.inr (.inr (.inr fr))))), (r0, .inr (5, [.int rt0, .int rv0, .int rz0, .ref rn0])), (rn0, .inl (rc0, 60, .inr (.inl rN0))), (r1, .inr (5, [.int rt1, .int rv1, .int rz1, .ref rn1])), (rn1, .inl (rc1, 60, .inr (.inl rN1))), (r2, .inr (5, [.int rt2, .int rv2, .int rz2, .ref rn2])), (rn2, .inl (rc2, 60, .inr (.inl rN2))), (r3, .inr (5, [.int rt3, .int rv3, .int rz3, .ref rn3])), (rn3, .inl (rc3, 60, .inr (.inl rN3)))]) [0, 1, 2, 3, 4, 5, 6, 7, 8, 9, 10, 11] rfl
      have hD9 := hD.sub (ws' := [(h0, .inr (6, [.ref tp, .int ts, .int fn, .int fp, .ref rd, .ref gd, .ref im, .ref rw, .ref gn, .ref ho, .ref sq])), (gd, .inr (0, [.ref pl, .int gdl, .long gdh, .long gdw, .int gdi, .int gde, .int gdc, .ref gdt, .int gdg, .ref gdu, .int gdn, .ref gdx])), (pl, .inr (3, [.int plw, .int pld, .int plc, .int pls, .long plm, .ref plf, .ref plo, .ref plb, .ref pla])), (rw, .inl (krw, 4, .inr (.inr (.inr (.inr fr))))), (r0, .inr (5, [.int rt0, .int rv0, .int rz0, .ref rn0])), (rn0, .inl (rc0, 60, .inr (.inl rN0))), (r1, .inr (5, [.int rt1, .int rv1, .int rz1, .ref rn1])), (rn1, .inl (rc1, 60, .inr (.inl rN1))), (r2, .inr (5, [.int rt2, .int rv2, .int rz2, .ref rn2])), (rn2, .inl (rc2, 60, .inr (.inl rN2))), (r3, .inr (5, [.int rt3, .int rv3, .int rz3, .ref rn3])), (rn3, .inl (rc3, 60, .inr (.inl rN3)))]) [0, 1, 2, 3, 4, 5, 6, 7, 8, 9, 10, 11] (by decide) rfl
      have hK9 := hK.sub (tys' := []) [] rfl
      refine W.widen (k := 0) (n := 0) (by omega) (by omega) ?_
      exact W.iret (v := r_3) hx hb hr (fun t ht hW => ⟨⟨r_3, (), rfl, trivial, by rw [ht]; exact hP9, va_K.moved hW.alike hK9, hD9⟩, hS.F ht⟩) hS.2.2 dX6_count_103
    · have hxz : p0.toInt = 4 := (rfl : p0.toInt = p0.toInt).trans hsw2
      refine lv_tableIn (off := 103) (tgt := 104) hx hb dX6_count_1 (by rw [hxz]; decide) (by rw [hxz]; decide) (by rw [hxz]; rfl) (by decide) ?_
      refine lv_aload_n hx hb dX6_count_104 rfl (lv_at hl 0 rfl) ?_
      refine va_get (D := (dC, dI)) (ci := 6) (v := .ref gd) (C := RX6) (T := TX6) (N := 11) hx hb hts in_X6_count_X6 hown hK hP 0 rfl rfl 5 (by decide) (hts _ wd_X6_count_0) (fun _ h9 => h9) rfl dX6_count_105 ?_
      refine va_get (D := (dC, dI)) (ci := 0) (v := .int gdc) (C := RX0) (T := TX0) (N := 12) hx hb hts in_X6_count_X0 hown hK hP 1 rfl rfl 6 (by decide) (hts _ wd_X6_count_6) (fun _ h9 => h9) rfl dX6_count_108 ?_
      have hP9 := hP.sub (ws' := [(h0, .inr (6, [.ref tp, .int ts, .int fn, .int fp, .ref rd, .ref gd, .ref im, .ref rw, .ref gn, .ref ho, .ref sq])), (gd, .inr (0, [.ref pl, .int gdl, .long gdh, .long gdw, .int gdi, .int gde, .int gdc, .ref gdt, .int gdg, .ref gdu, .int gdn, .ref gdx])), (pl, .inr (3, [.int plw, .int pld, .int plc, .int pls, .long plm, .ref plf, .ref plo, .ref plb, .ref pla])), (rw, .inl (krw, 4, .inr (.inr (.inr (.inr fr))))), (r0, .inr (5, [.int rt0, .int rv0, .int rz0, .ref rn0])), (rn0, .inl (rc0, 60, .inr (.inl rN0))), (r1, .inr (5, [.int rt1, .int rv1, .int rz1, .ref rn1])), (rn1, .inl (rc1, 60, .inr (.inl rN1))), (r2, .inr (5, [.int rt2, .int rv2, .int rz2, .ref rn2])), (rn2, .inl (rc2, 60, .inr (.inl rN2))), (r3, .inr (5, [.int rt3, .int rv3, .int rz3, .ref rn3])), (rn3, .inl (rc3, 60, .inr (.inl rN3)))]) [0, 1, 2, 3, 4, 5, 6, 7, 8, 9, 10, 11] rfl
      have hD9 := hD.sub (ws' := [(h0, .inr (6, [.ref tp, .int ts, .int fn, .int fp, .ref rd, .ref gd, .ref im, .ref rw, .ref gn, .ref ho, .ref sq])), (gd, .inr (0, [.ref pl, .int gdl, .long gdh, .long gdw, .int gdi, .int gde, .int gdc, .ref gdt, .int gdg, .ref gdu, .int gdn, .ref gdx])), (pl, .inr (3, [.int plw, .int pld, .int plc, .int pls, .long plm, .ref plf, .ref plo, .ref plb, .ref pla])), (rw, .inl (krw, 4, .inr (.inr (.inr (.inr fr))))), (r0, .inr (5, [.int rt0, .int rv0, .int rz0, .ref rn0])), (rn0, .inl (rc0, 60, .inr (.inl rN0))), (r1, .inr (5, [.int rt1, .int rv1, .int rz1, .ref rn1])), (rn1, .inl (rc1, 60, .inr (.inl rN1))), (r2, .inr (5, [.int rt2, .int rv2, .int rz2, .ref rn2])), (rn2, .inl (rc2, 60, .inr (.inl rN2))), (r3, .inr (5, [.int rt3, .int rv3, .int rz3, .ref rn3])), (rn3, .inl (rc3, 60, .inr (.inl rN3)))]) [0, 1, 2, 3, 4, 5, 6, 7, 8, 9, 10, 11] (by decide) rfl
      have hK9 := hK.sub (tys' := []) [] rfl
      refine W.widen (k := 0) (n := 0) (by omega) (by omega) ?_
      exact W.iret (v := gdc) hx hb hr (fun t ht hW => ⟨⟨gdc, (), rfl, trivial, by rw [ht]; exact hP9, va_K.moved hW.alike hK9, hD9⟩, hS.F ht⟩) hS.2.2 dX6_count_111
    · have hxz : p0.toInt = 5 := (rfl : p0.toInt = p0.toInt).trans hsw2
      refine lv_tableIn (off := 111) (tgt := 112) hx hb dX6_count_1 (by rw [hxz]; decide) (by rw [hxz]; decide) (by rw [hxz]; rfl) (by decide) ?_
      refine lv_aload_n hx hb dX6_count_112 rfl (lv_at hl 0 rfl) ?_
      refine va_get (D := (dC, dI)) (ci := 6) (v := .ref gd) (C := RX6) (T := TX6) (N := 11) hx hb hts in_X6_count_X6 hown hK hP 0 rfl rfl 5 (by decide) (hts _ wd_X6_count_0) (fun _ h9 => h9) rfl dX6_count_113 ?_
      refine va_get (D := (dC, dI)) (ci := 0) (v := .int gdg) (C := RX0) (T := TX0) (N := 12) hx hb hts in_X6_count_X0 hown hK hP 1 rfl rfl 8 (by decide) (hts _ wd_X6_count_7) (fun _ h9 => h9) rfl dX6_count_116 ?_
      have hP9 := hP.sub (ws' := [(h0, .inr (6, [.ref tp, .int ts, .int fn, .int fp, .ref rd, .ref gd, .ref im, .ref rw, .ref gn, .ref ho, .ref sq])), (gd, .inr (0, [.ref pl, .int gdl, .long gdh, .long gdw, .int gdi, .int gde, .int gdc, .ref gdt, .int gdg, .ref gdu, .int gdn, .ref gdx])), (pl, .inr (3, [.int plw, .int pld, .int plc, .int pls, .long plm, .ref plf, .ref plo, .ref plb, .ref pla])), (rw, .inl (krw, 4, .inr (.inr (.inr (.inr fr))))), (r0, .inr (5, [.int rt0, .int rv0, .int rz0, .ref rn0])), (rn0, .inl (rc0, 60, .inr (.inl rN0))), (r1, .inr (5, [.int rt1, .int rv1, .int rz1, .ref rn1])), (rn1, .inl (rc1, 60, .inr (.inl rN1))), (r2, .inr (5, [.int rt2, .int rv2, .int rz2, .ref rn2])), (rn2, .inl (rc2, 60, .inr (.inl rN2))), (r3, .inr (5, [.int rt3, .int rv3, .int rz3, .ref rn3])), (rn3, .inl (rc3, 60, .inr (.inl rN3)))]) [0, 1, 2, 3, 4, 5, 6, 7, 8, 9, 10, 11] rfl
      have hD9 := hD.sub (ws' := [(h0, .inr (6, [.ref tp, .int ts, .int fn, .int fp, .ref rd, .ref gd, .ref im, .ref rw, .ref gn, .ref ho, .ref sq])), (gd, .inr (0, [.ref pl, .int gdl, .long gdh, .long gdw, .int gdi, .int gde, .int gdc, .ref gdt, .int gdg, .ref gdu, .int gdn, .ref gdx])), (pl, .inr (3, [.int plw, .int pld, .int plc, .int pls, .long plm, .ref plf, .ref plo, .ref plb, .ref pla])), (rw, .inl (krw, 4, .inr (.inr (.inr (.inr fr))))), (r0, .inr (5, [.int rt0, .int rv0, .int rz0, .ref rn0])), (rn0, .inl (rc0, 60, .inr (.inl rN0))), (r1, .inr (5, [.int rt1, .int rv1, .int rz1, .ref rn1])), (rn1, .inl (rc1, 60, .inr (.inl rN1))), (r2, .inr (5, [.int rt2, .int rv2, .int rz2, .ref rn2])), (rn2, .inl (rc2, 60, .inr (.inl rN2))), (r3, .inr (5, [.int rt3, .int rv3, .int rz3, .ref rn3])), (rn3, .inl (rc3, 60, .inr (.inl rN3)))]) [0, 1, 2, 3, 4, 5, 6, 7, 8, 9, 10, 11] (by decide) rfl
      have hK9 := hK.sub (tys' := []) [] rfl
      refine W.widen (k := 0) (n := 0) (by omega) (by omega) ?_
      exact W.iret (v := gdg) hx hb hr (fun t ht hW => ⟨⟨gdg, (), rfl, trivial, by rw [ht]; exact hP9, va_K.moved hW.alike hK9, hD9⟩, hS.F ht⟩) hS.2.2 dX6_count_119
    · have hxz : p0.toInt = 6 := (rfl : p0.toInt = p0.toInt).trans hsw2
      refine lv_tableIn (off := 119) (tgt := 120) hx hb dX6_count_1 (by rw [hxz]; decide) (by rw [hxz]; decide) (by rw [hxz]; rfl) (by decide) ?_
      refine lv_aload_n hx hb dX6_count_120 rfl (lv_at hl 0 rfl) ?_
      refine va_get (D := (dC, dI)) (ci := 6) (v := .ref gd) (C := RX6) (T := TX6) (N := 11) hx hb hts in_X6_count_X6 hown hK hP 0 rfl rfl 5 (by decide) (hts _ wd_X6_count_0) (fun _ h9 => h9) rfl dX6_count_121 ?_
      refine va_get (D := (dC, dI)) (ci := 0) (v := .int gdl) (C := RX0) (T := TX0) (N := 12) hx hb hts in_X6_count_X0 hown hK hP 1 rfl rfl 1 (by decide) (hts _ wd_X6_count_8) (fun _ h9 => h9) rfl dX6_count_124 ?_
      have hP9 := hP.sub (ws' := [(h0, .inr (6, [.ref tp, .int ts, .int fn, .int fp, .ref rd, .ref gd, .ref im, .ref rw, .ref gn, .ref ho, .ref sq])), (gd, .inr (0, [.ref pl, .int gdl, .long gdh, .long gdw, .int gdi, .int gde, .int gdc, .ref gdt, .int gdg, .ref gdu, .int gdn, .ref gdx])), (pl, .inr (3, [.int plw, .int pld, .int plc, .int pls, .long plm, .ref plf, .ref plo, .ref plb, .ref pla])), (rw, .inl (krw, 4, .inr (.inr (.inr (.inr fr))))), (r0, .inr (5, [.int rt0, .int rv0, .int rz0, .ref rn0])), (rn0, .inl (rc0, 60, .inr (.inl rN0))), (r1, .inr (5, [.int rt1, .int rv1, .int rz1, .ref rn1])), (rn1, .inl (rc1, 60, .inr (.inl rN1))), (r2, .inr (5, [.int rt2, .int rv2, .int rz2, .ref rn2])), (rn2, .inl (rc2, 60, .inr (.inl rN2))), (r3, .inr (5, [.int rt3, .int rv3, .int rz3, .ref rn3])), (rn3, .inl (rc3, 60, .inr (.inl rN3)))]) [0, 1, 2, 3, 4, 5, 6, 7, 8, 9, 10, 11] rfl
      have hD9 := hD.sub (ws' := [(h0, .inr (6, [.ref tp, .int ts, .int fn, .int fp, .ref rd, .ref gd, .ref im, .ref rw, .ref gn, .ref ho, .ref sq])), (gd, .inr (0, [.ref pl, .int gdl, .long gdh, .long gdw, .int gdi, .int gde, .int gdc, .ref gdt, .int gdg, .ref gdu, .int gdn, .ref gdx])), (pl, .inr (3, [.int plw, .int pld, .int plc, .int pls, .long plm, .ref plf, .ref plo, .ref plb, .ref pla])), (rw, .inl (krw, 4, .inr (.inr (.inr (.inr fr))))), (r0, .inr (5, [.int rt0, .int rv0, .int rz0, .ref rn0])), (rn0, .inl (rc0, 60, .inr (.inl rN0))), (r1, .inr (5, [.int rt1, .int rv1, .int rz1, .ref rn1])), (rn1, .inl (rc1, 60, .inr (.inl rN1))), (r2, .inr (5, [.int rt2, .int rv2, .int rz2, .ref rn2])), (rn2, .inl (rc2, 60, .inr (.inl rN2))), (r3, .inr (5, [.int rt3, .int rv3, .int rz3, .ref rn3])), (rn3, .inl (rc3, 60, .inr (.inl rN3)))]) [0, 1, 2, 3, 4, 5, 6, 7, 8, 9, 10, 11] (by decide) rfl
      have hK9 := hK.sub (tys' := []) [] rfl
      refine W.widen (k := 0) (n := 0) (by omega) (by omega) ?_
      exact W.iret (v := gdl) hx hb hr (fun t ht hW => ⟨⟨gdl, (), rfl, trivial, by rw [ht]; exact hP9, va_K.moved hW.alike hK9, hD9⟩, hS.F ht⟩) hS.2.2 dX6_count_127
    · have hxz : p0.toInt = 7 := (rfl : p0.toInt = p0.toInt).trans hsw2
      refine lv_tableIn (off := 127) (tgt := 128) hx hb dX6_count_1 (by rw [hxz]; decide) (by rw [hxz]; decide) (by rw [hxz]; rfl) (by decide) ?_
      refine lv_aload_n hx hb dX6_count_128 rfl (lv_at hl 0 rfl) ?_
      refine va_get (D := (dC, dI)) (ci := 6) (v := .int ts) (C := RX6) (T := TX6) (N := 11) hx hb hts in_X6_count_X6 hown hK hP 0 rfl rfl 1 (by decide) (hts _ wd_X6_count_9) (fun _ h9 => h9) rfl dX6_count_129 ?_
      have hP9 := hP.sub (ws' := [(h0, .inr (6, [.ref tp, .int ts, .int fn, .int fp, .ref rd, .ref gd, .ref im, .ref rw, .ref gn, .ref ho, .ref sq])), (gd, .inr (0, [.ref pl, .int gdl, .long gdh, .long gdw, .int gdi, .int gde, .int gdc, .ref gdt, .int gdg, .ref gdu, .int gdn, .ref gdx])), (pl, .inr (3, [.int plw, .int pld, .int plc, .int pls, .long plm, .ref plf, .ref plo, .ref plb, .ref pla])), (rw, .inl (krw, 4, .inr (.inr (.inr (.inr fr))))), (r0, .inr (5, [.int rt0, .int rv0, .int rz0, .ref rn0])), (rn0, .inl (rc0, 60, .inr (.inl rN0))), (r1, .inr (5, [.int rt1, .int rv1, .int rz1, .ref rn1])), (rn1, .inl (rc1, 60, .inr (.inl rN1))), (r2, .inr (5, [.int rt2, .int rv2, .int rz2, .ref rn2])), (rn2, .inl (rc2, 60, .inr (.inl rN2))), (r3, .inr (5, [.int rt3, .int rv3, .int rz3, .ref rn3])), (rn3, .inl (rc3, 60, .inr (.inl rN3)))]) [0, 1, 2, 3, 4, 5, 6, 7, 8, 9, 10, 11] rfl
      have hD9 := hD.sub (ws' := [(h0, .inr (6, [.ref tp, .int ts, .int fn, .int fp, .ref rd, .ref gd, .ref im, .ref rw, .ref gn, .ref ho, .ref sq])), (gd, .inr (0, [.ref pl, .int gdl, .long gdh, .long gdw, .int gdi, .int gde, .int gdc, .ref gdt, .int gdg, .ref gdu, .int gdn, .ref gdx])), (pl, .inr (3, [.int plw, .int pld, .int plc, .int pls, .long plm, .ref plf, .ref plo, .ref plb, .ref pla])), (rw, .inl (krw, 4, .inr (.inr (.inr (.inr fr))))), (r0, .inr (5, [.int rt0, .int rv0, .int rz0, .ref rn0])), (rn0, .inl (rc0, 60, .inr (.inl rN0))), (r1, .inr (5, [.int rt1, .int rv1, .int rz1, .ref rn1])), (rn1, .inl (rc1, 60, .inr (.inl rN1))), (r2, .inr (5, [.int rt2, .int rv2, .int rz2, .ref rn2])), (rn2, .inl (rc2, 60, .inr (.inl rN2))), (r3, .inr (5, [.int rt3, .int rv3, .int rz3, .ref rn3])), (rn3, .inl (rc3, 60, .inr (.inl rN3)))]) [0, 1, 2, 3, 4, 5, 6, 7, 8, 9, 10, 11] (by decide) rfl
      have hK9 := hK.sub (tys' := []) [] rfl
      refine W.widen (k := 0) (n := 0) (by omega) (by omega) ?_
      exact W.iret (v := ts) hx hb hr (fun t ht hW => ⟨⟨ts, (), rfl, trivial, by rw [ht]; exact hP9, va_K.moved hW.alike hK9, hD9⟩, hS.F ht⟩) hS.2.2 dX6_count_132
    · have hxz : p0.toInt = 8 := (rfl : p0.toInt = p0.toInt).trans hsw2
      refine lv_tableIn (off := 132) (tgt := 133) hx hb dX6_count_1 (by rw [hxz]; decide) (by rw [hxz]; decide) (by rw [hxz]; rfl) (by decide) ?_
      refine lv_aload_n hx hb dX6_count_133 rfl (lv_at hl 0 rfl) ?_
      refine va_get (D := (dC, dI)) (ci := 6) (v := .ref gd) (C := RX6) (T := TX6) (N := 11) hx hb hts in_X6_count_X6 hown hK hP 0 rfl rfl 5 (by decide) (hts _ wd_X6_count_0) (fun _ h9 => h9) rfl dX6_count_134 ?_
      refine va_get (D := (dC, dI)) (ci := 0) (v := .int gdi) (C := RX0) (T := TX0) (N := 12) hx hb hts in_X6_count_X0 hown hK hP 1 rfl rfl 4 (by decide) (hts _ wd_X6_count_10) (fun _ h9 => h9) rfl dX6_count_137 ?_
      refine lv_if_eq (tgt := 147) hx hb dX6_count_140 (by decide) (fun c_5 => ?_) (fun c_5 => ?_)
      · have c_5 : gdi.toInt = 0 := i_eq (a := gdi) (b := 0) rfl (by decide) c_5
        refine lv_iconst (v := 0) hx hb dX6_count_147 (by decide) ?_
        have hP9 := hP.sub (ws' := [(h0, .inr (6, [.ref tp, .int ts, .int fn, .int fp, .ref rd, .ref gd, .ref im, .ref rw, .ref gn, .ref ho, .ref sq])), (gd, .inr (0, [.ref pl, .int gdl, .long gdh, .long gdw, .int gdi, .int gde, .int gdc, .ref gdt, .int gdg, .ref gdu, .int gdn, .ref gdx])), (pl, .inr (3, [.int plw, .int pld, .int plc, .int pls, .long plm, .ref plf, .ref plo, .ref plb, .ref pla])), (rw, .inl (krw, 4, .inr (.inr (.inr (.inr fr))))), (r0, .inr (5, [.int rt0, .int rv0, .int rz0, .ref rn0])), (rn0, .inl (rc0, 60, .inr (.inl rN0))), (r1, .inr (5, [.int rt1, .int rv1, .int rz1, .ref rn1])), (rn1, .inl (rc1, 60, .inr (.inl rN1))), (r2, .inr (5, [.int rt2, .int rv2, .int rz2, .ref rn2])), (rn2, .inl (rc2, 60, .inr (.inl rN2))), (r3, .inr (5, [.int rt3, .int rv3, .int rz3, .ref rn3])), (rn3, .inl (rc3, 60, .inr (.inl rN3)))]) [0, 1, 2, 3, 4, 5, 6, 7, 8, 9, 10, 11] rfl
        have hD9 := hD.sub (ws' := [(h0, .inr (6, [.ref tp, .int ts, .int fn, .int fp, .ref rd, .ref gd, .ref im, .ref rw, .ref gn, .ref ho, .ref sq])), (gd, .inr (0, [.ref pl, .int gdl, .long gdh, .long gdw, .int gdi, .int gde, .int gdc, .ref gdt, .int gdg, .ref gdu, .int gdn, .ref gdx])), (pl, .inr (3, [.int plw, .int pld, .int plc, .int pls, .long plm, .ref plf, .ref plo, .ref plb, .ref pla])), (rw, .inl (krw, 4, .inr (.inr (.inr (.inr fr))))), (r0, .inr (5, [.int rt0, .int rv0, .int rz0, .ref rn0])), (rn0, .inl (rc0, 60, .inr (.inl rN0))), (r1, .inr (5, [.int rt1, .int rv1, .int rz1, .ref rn1])), (rn1, .inl (rc1, 60, .inr (.inl rN1))), (r2, .inr (5, [.int rt2, .int rv2, .int rz2, .ref rn2])), (rn2, .inl (rc2, 60, .inr (.inl rN2))), (r3, .inr (5, [.int rt3, .int rv3, .int rz3, .ref rn3])), (rn3, .inl (rc3, 60, .inr (.inl rN3)))]) [0, 1, 2, 3, 4, 5, 6, 7, 8, 9, 10, 11] (by decide) rfl
        have hK9 := hK.sub (tys' := []) [] rfl
        refine W.widen (k := 0) (n := 0) (by omega) (by omega) ?_
        exact W.iret (v := 0) hx hb hr (fun t ht hW => ⟨⟨0, (), rfl, trivial, by rw [ht]; exact hP9, va_K.moved hW.alike hK9, hD9⟩, hS.F ht⟩) hS.2.2 dX6_count_148
      · have c_5 : gdi.toInt ≠ 0 := i_ne (a := gdi) (b := 0) rfl (by decide) c_5
        refine lv_iconst (v := 1) hx hb dX6_count_143 (by decide) ?_
        refine lv_goto (tgt := 148) hx hb dX6_count_144 (by decide) ?_
        have hP9 := hP.sub (ws' := [(h0, .inr (6, [.ref tp, .int ts, .int fn, .int fp, .ref rd, .ref gd, .ref im, .ref rw, .ref gn, .ref ho, .ref sq])), (gd, .inr (0, [.ref pl, .int gdl, .long gdh, .long gdw, .int gdi, .int gde, .int gdc, .ref gdt, .int gdg, .ref gdu, .int gdn, .ref gdx])), (pl, .inr (3, [.int plw, .int pld, .int plc, .int pls, .long plm, .ref plf, .ref plo, .ref plb, .ref pla])), (rw, .inl (krw, 4, .inr (.inr (.inr (.inr fr))))), (r0, .inr (5, [.int rt0, .int rv0, .int rz0, .ref rn0])), (rn0, .inl (rc0, 60, .inr (.inl rN0))), (r1, .inr (5, [.int rt1, .int rv1, .int rz1, .ref rn1])), (rn1, .inl (rc1, 60, .inr (.inl rN1))), (r2, .inr (5, [.int rt2, .int rv2, .int rz2, .ref rn2])), (rn2, .inl (rc2, 60, .inr (.inl rN2))), (r3, .inr (5, [.int rt3, .int rv3, .int rz3, .ref rn3])), (rn3, .inl (rc3, 60, .inr (.inl rN3)))]) [0, 1, 2, 3, 4, 5, 6, 7, 8, 9, 10, 11] rfl
        have hD9 := hD.sub (ws' := [(h0, .inr (6, [.ref tp, .int ts, .int fn, .int fp, .ref rd, .ref gd, .ref im, .ref rw, .ref gn, .ref ho, .ref sq])), (gd, .inr (0, [.ref pl, .int gdl, .long gdh, .long gdw, .int gdi, .int gde, .int gdc, .ref gdt, .int gdg, .ref gdu, .int gdn, .ref gdx])), (pl, .inr (3, [.int plw, .int pld, .int plc, .int pls, .long plm, .ref plf, .ref plo, .ref plb, .ref pla])), (rw, .inl (krw, 4, .inr (.inr (.inr (.inr fr))))), (r0, .inr (5, [.int rt0, .int rv0, .int rz0, .ref rn0])), (rn0, .inl (rc0, 60, .inr (.inl rN0))), (r1, .inr (5, [.int rt1, .int rv1, .int rz1, .ref rn1])), (rn1, .inl (rc1, 60, .inr (.inl rN1))), (r2, .inr (5, [.int rt2, .int rv2, .int rz2, .ref rn2])), (rn2, .inl (rc2, 60, .inr (.inl rN2))), (r3, .inr (5, [.int rt3, .int rv3, .int rz3, .ref rn3])), (rn3, .inl (rc3, 60, .inr (.inl rN3)))]) [0, 1, 2, 3, 4, 5, 6, 7, 8, 9, 10, 11] (by decide) rfl
        have hK9 := hK.sub (tys' := []) [] rfl
        refine W.widen (k := 0) (n := 0) (by omega) (by omega) ?_
        exact W.iret (v := 1) hx hb hr (fun t ht hW => ⟨⟨1, (), rfl, trivial, by rw [ht]; exact hP9, va_K.moved hW.alike hK9, hD9⟩, hS.F ht⟩) hS.2.2 dX6_count_148
    · have hxz : p0.toInt = 9 := (rfl : p0.toInt = p0.toInt).trans hsw2
      refine lv_tableIn (off := 148) (tgt := 149) hx hb dX6_count_1 (by rw [hxz]; decide) (by rw [hxz]; decide) (by rw [hxz]; rfl) (by decide) ?_
      refine lv_aload_n hx hb dX6_count_149 rfl (lv_at hl 0 rfl) ?_
      refine va_get (D := (dC, dI)) (ci := 6) (v := .ref gd) (C := RX6) (T := TX6) (N := 11) hx hb hts in_X6_count_X6 hown hK hP 0 rfl rfl 5 (by decide) (hts _ wd_X6_count_0) (fun _ h9 => h9) rfl dX6_count_150 ?_
      refine va_get (D := (dC, dI)) (ci := 0) (v := .int gde) (C := RX0) (T := TX0) (N := 12) hx hb hts in_X6_count_X0 hown hK hP 1 rfl rfl 5 (by decide) (hts _ wd_X6_count_11) (fun _ h9 => h9) rfl dX6_count_153 ?_
      have hP9 := hP.sub (ws' := [(h0, .inr (6, [.ref tp, .int ts, .int fn, .int fp, .ref rd, .ref gd, .ref im, .ref rw, .ref gn, .ref ho, .ref sq])), (gd, .inr (0, [.ref pl, .int gdl, .long gdh, .long gdw, .int gdi, .int gde, .int gdc, .ref gdt, .int gdg, .ref gdu, .int gdn, .ref gdx])), (pl, .inr (3, [.int plw, .int pld, .int plc, .int pls, .long plm, .ref plf, .ref plo, .ref plb, .ref pla])), (rw, .inl (krw, 4, .inr (.inr (.inr (.inr fr))))), (r0, .inr (5, [.int rt0, .int rv0, .int rz0, .ref rn0])), (rn0, .inl (rc0, 60, .inr (.inl rN0))), (r1, .inr (5, [.int rt1, .int rv1, .int rz1, .ref rn1])), (rn1, .inl (rc1, 60, .inr (.inl rN1))), (r2, .inr (5, [.int rt2, .int rv2, .int rz2, .ref rn2])), (rn2, .inl (rc2, 60, .inr (.inl rN2))), (r3, .inr (5, [.int rt3, .int rv3, .int rz3, .ref rn3])), (rn3, .inl (rc3, 60, .inr (.inl rN3)))]) [0, 1, 2, 3, 4, 5, 6, 7, 8, 9, 10, 11] rfl
      have hD9 := hD.sub (ws' := [(h0, .inr (6, [.ref tp, .int ts, .int fn, .int fp, .ref rd, .ref gd, .ref im, .ref rw, .ref gn, .ref ho, .ref sq])), (gd, .inr (0, [.ref pl, .int gdl, .long gdh, .long gdw, .int gdi, .int gde, .int gdc, .ref gdt, .int gdg, .ref gdu, .int gdn, .ref gdx])), (pl, .inr (3, [.int plw, .int pld, .int plc, .int pls, .long plm, .ref plf, .ref plo, .ref plb, .ref pla])), (rw, .inl (krw, 4, .inr (.inr (.inr (.inr fr))))), (r0, .inr (5, [.int rt0, .int rv0, .int rz0, .ref rn0])), (rn0, .inl (rc0, 60, .inr (.inl rN0))), (r1, .inr (5, [.int rt1, .int rv1, .int rz1, .ref rn1])), (rn1, .inl (rc1, 60, .inr (.inl rN1))), (r2, .inr (5, [.int rt2, .int rv2, .int rz2, .ref rn2])), (rn2, .inl (rc2, 60, .inr (.inl rN2))), (r3, .inr (5, [.int rt3, .int rv3, .int rz3, .ref rn3])), (rn3, .inl (rc3, 60, .inr (.inl rN3)))]) [0, 1, 2, 3, 4, 5, 6, 7, 8, 9, 10, 11] (by decide) rfl
      have hK9 := hK.sub (tys' := []) [] rfl
      refine W.widen (k := 0) (n := 0) (by omega) (by omega) ?_
      exact W.iret (v := gde) hx hb hr (fun t ht hW => ⟨⟨gde, (), rfl, trivial, by rw [ht]; exact hP9, va_K.moved hW.alike hK9, hD9⟩, hS.F ht⟩) hS.2.2 dX6_count_156
    · have hxz : p0.toInt = 10 := (rfl : p0.toInt = p0.toInt).trans hsw2
      refine lv_tableIn (off := 156) (tgt := 157) hx hb dX6_count_1 (by rw [hxz]; decide) (by rw [hxz]; decide) (by rw [hxz]; rfl) (by decide) ?_
      refine lv_aload_n hx hb dX6_count_157 rfl (lv_at hl 0 rfl) ?_
      have hPc := hP.sub (ws' := [(h0, .inr (6, [.ref tp, .int ts, .int fn, .int fp, .ref rd, .ref gd, .ref im, .ref rw, .ref gn, .ref ho, .ref sq])), (rw, .inl (krw, 4, .inr (.inr (.inr (.inr fr))))), (r0, .inr (5, [.int rt0, .int rv0, .int rz0, .ref rn0])), (rn0, .inl (rc0, 60, .inr (.inl rN0))), (r1, .inr (5, [.int rt1, .int rv1, .int rz1, .ref rn1])), (rn1, .inl (rc1, 60, .inr (.inl rN1))), (r2, .inr (5, [.int rt2, .int rv2, .int rz2, .ref rn2])), (rn2, .inl (rc2, 60, .inr (.inl rN2))), (r3, .inr (5, [.int rt3, .int rv3, .int rz3, .ref rn3])), (rn3, .inl (rc3, 60, .inr (.inl rN3)))]) [0, 3, 4, 5, 6, 7, 8, 9, 10, 11] rfl
      have hDc := hD.sub (ws' := [(h0, .inr (6, [.ref tp, .int ts, .int fn, .int fp, .ref rd, .ref gd, .ref im, .ref rw, .ref gn, .ref ho, .ref sq])), (rw, .inl (krw, 4, .inr (.inr (.inr (.inr fr))))), (r0, .inr (5, [.int rt0, .int rv0, .int rz0, .ref rn0])), (rn0, .inl (rc0, 60, .inr (.inl rN0))), (r1, .inr (5, [.int rt1, .int rv1, .int rz1, .ref rn1])), (rn1, .inl (rc1, 60, .inr (.inl rN1))), (r2, .inr (5, [.int rt2, .int rv2, .int rz2, .ref rn2])), (rn2, .inl (rc2, 60, .inr (.inl rN2))), (r3, .inr (5, [.int rt3, .int rv3, .int rz3, .ref rn3])), (rn3, .inl (rc3, 60, .inr (.inl rN3)))]) [0, 3, 4, 5, 6, 7, 8, 9, 10, 11] (by decide) rfl
      have hKc := hK.sub (tys' := [(krw, .object RX5), (rc0, .long), (rc1, .long), (rc2, .long), (rc3, .long)]) [0, 1, 2, 3, 4] rfl
      have hFc := va_free (wc := [(h0, .inr (6, [.ref tp, .int ts, .int fn, .int fp, .ref rd, .ref gd, .ref im, .ref rw, .ref gn, .ref ho, .ref sq])), (rw, .inl (krw, 4, .inr (.inr (.inr (.inr fr))))), (r0, .inr (5, [.int rt0, .int rv0, .int rz0, .ref rn0])), (rn0, .inl (rc0, 60, .inr (.inl rN0))), (r1, .inr (5, [.int rt1, .int rv1, .int rz1, .ref rn1])), (rn1, .inl (rc1, 60, .inr (.inl rN1))), (r2, .inr (5, [.int rt2, .int rv2, .int rz2, .ref rn2])), (rn2, .inl (rc2, 60, .inr (.inl rN2))), (r3, .inr (5, [.int rt3, .int rv3, .int rz3, .ref rn3])), (rn3, .inl (rc3, 60, .inr (.inl rN3)))]) hD hS hA [0, 3, 4, 5, 6, 7, 8, 9, 10, 11] rfl
      refine va_calli (va_runV (As := []) (rest := []) ⟨hx, hb, hml, hown, hts⟩ (c_X6_countRows l dC dI s.heap.size h0 tp ts fn fp rd gd im rw gn ho sq krw fr r0 rt0 rv0 rz0 rn0 rc0 rN0 r1 rt1 rv1 rz1 rn1 rc1 rN1 r2 rt2 rv2 rz2 rn2 rc2 rN2 r3 rt3 rv3 rz3 rn3 rc3 rN3 hf0 hf1 hf2 hf3) (cwV 0 hts g_X6_count_X6_countRows rfl rfl rfl (by decide +kernel) ⟨Nat.le_of_ble_eq_true rfl, Nat.le_of_ble_eq_true rfl⟩) ⟨fun a U g mk q => by obtain ⟨q0, q1, qP, qK, qD⟩ := q; exact ⟨q0, q1, qP, va_K.moved (u := U) (U := U.calling g mk a) (Vm.Alike.refl U.vm) qK, qD⟩, va_recv hKc hPc (ci := 6) (q0 := 0) rfl rfl, fun U hU hW => ⟨rfl, by rw [hU], by rw [hU]; exact hPc, va_K.moved hW.alike hKc, hDc.weaken (fun _ _ _ _ => trivial)⟩⟩ rfl rfl hl.1 rfl (lv_room (Nat.le_of_ble_eq_true rfl)) dX6_count_158 ⟨Nat.le_of_ble_eq_true rfl, Nat.le_of_ble_eq_true rfl⟩) hS (fun q _ h => hFc q h) hFc (fun r_6 u t H1 locs ht hvm hw_7 hB hz1 hk1 hS => ?_)
      obtain ⟨hP1, hK1, hD1⟩ := hB
      have hP1 : va_P (dC, dI) vwCl [(h0, .inr (6, [.ref tp, .int ts, .int fn, .int fp, .ref rd, .ref gd, .ref im, .ref rw, .ref gn, .ref ho, .ref sq])), (rw, .inl (krw, 4, .inr (.inr (.inr (.inr fr))))), (r0, .inr (5, [.int rt0, .int rv0, .int rz0, .ref rn0])), (rn0, .inl (rc0, 60, .inr (.inl rN0))), (r1, .inr (5, [.int rt1, .int rv1, .int rz1, .ref rn1])), (rn1, .inl (rc1, 60, .inr (.inl rN1))), (r2, .inr (5, [.int rt2, .int rv2, .int rz2, .ref rn2])), (rn2, .inl (rc2, 60, .inr (.inl rN2))), (r3, .inr (5, [.int rt3, .int rv3, .int rz3, .ref rn3])), (rn3, .inl (rc3, 60, .inr (.inl rN3)))] t.heap := hP1
      rw [ht] at hP1
      try dsimp only at hw_7
      obtain ⟨hP, hD⟩ := va_join (wr := [(gd, .inr (0, [.ref pl, .int gdl, .long gdh, .long gdw, .int gdi, .int gde, .int gdc, .ref gdt, .int gdg, .ref gdu, .int gdn, .ref gdx])), (pl, .inr (3, [.int plw, .int pld, .int plc, .int pls, .long plm, .ref plf, .ref plo, .ref plb, .ref pla]))]) (w1 := [(h0, .inr (6, [.ref tp, .int ts, .int fn, .int fp, .ref rd, .ref gd, .ref im, .ref rw, .ref gn, .ref ho, .ref sq])), (rw, .inl (krw, 4, .inr (.inr (.inr (.inr fr))))), (r0, .inr (5, [.int rt0, .int rv0, .int rz0, .ref rn0])), (rn0, .inl (rc0, 60, .inr (.inl rN0))), (r1, .inr (5, [.int rt1, .int rv1, .int rz1, .ref rn1])), (rn1, .inl (rc1, 60, .inr (.inl rN1))), (r2, .inr (5, [.int rt2, .int rv2, .int rz2, .ref rn2])), (rn2, .inl (rc2, 60, .inr (.inl rN2))), (r3, .inr (5, [.int rt3, .int rv3, .int rz3, .ref rn3])), (rn3, .inl (rc3, 60, .inr (.inl rN3)))]) hP hD [0, 3, 4, 5, 6, 7, 8, 9, 10, 11] [1, 2] rfl rfl (by decide) (by decide) hk1 hFc hP1 hD1
      generalize H1 = H at hP hS ⊢
      have hP : va_P (dC, dI) vwCl [(gd, .inr (0, [.ref pl, .int gdl, .long gdh, .long gdw, .int gdi, .int gde, .int gdc, .ref gdt, .int gdg, .ref gdu, .int gdn, .ref gdx])), (pl, .inr (3, [.int plw, .int pld, .int plc, .int pls, .long plm, .ref plf, .ref plo, .ref plb, .ref pla])), (h0, .inr (6, [.ref tp, .int ts, .int fn, .int fp, .ref rd, .ref gd, .ref im, .ref rw, .ref gn, .ref ho, .ref sq])), (rw, .inl (krw, 4, .inr (.inr (.inr (.inr fr))))), (r0, .inr (5, [.int rt0, .int rv0, .int rz0, .ref rn0])), (rn0, .inl (rc0, 60, .inr (.inl rN0))), (r1, .inr (5, [.int rt1, .int rv1, .int rz1, .ref rn1])), (rn1, .inl (rc1, 60, .inr (.inl rN1))), (r2, .inr (5, [.int rt2, .int rv2, .int rz2, .ref rn2])), (rn2, .inl (rc2, 60, .inr (.inl rN2))), (r3, .inr (5, [.int rt3, .int rv3, .int rz3, .ref rn3])), (rn3, .inl (rc3, 60, .inr (.inl rN3)))] H := hP
      have hD : va_D A [(gd, .inr (0, [.ref pl, .int gdl, .long gdh, .long gdw, .int gdi, .int gde, .int gdc, .ref gdt, .int gdg, .ref gdu, .int gdn, .ref gdx])), (pl, .inr (3, [.int plw, .int pld, .int plc, .int pls, .long plm, .ref plf, .ref plo, .ref plb, .ref pla])), (h0, .inr (6, [.ref tp, .int ts, .int fn, .int fp, .ref rd, .ref gd, .ref im, .ref rw, .ref gn, .ref ho, .ref sq])), (rw, .inl (krw, 4, .inr (.inr (.inr (.inr fr))))), (r0, .inr (5, [.int rt0, .int rv0, .int rz0, .ref rn0])), (rn0, .inl (rc0, 60, .inr (.inl rN0))), (r1, .inr (5, [.int rt1, .int rv1, .int rz1, .ref rn1])), (rn1, .inl (rc1, 60, .inr (.inl rN1))), (r2, .inr (5, [.int rt2, .int rv2, .int rz2, .ref rn2])), (rn2, .inl (rc2, 60, .inr (.inl rN2))), (r3, .inr (5, [.int rt3, .int rv3, .int rz3, .ref rn3])), (rn3, .inl (rc3, 60, .inr (.inl rN3)))] := hD
      have hP9 := hP.sub (ws' := [(h0, .inr (6, [.ref tp, .int ts, .int fn, .int fp, .ref rd, .ref gd, .ref im, .ref rw, .ref gn, .ref ho, .ref sq])), (gd, .inr (0, [.ref pl, .int gdl, .long gdh, .long gdw, .int gdi, .int gde, .int gdc, .ref gdt, .int gdg, .ref gdu, .int gdn, .ref gdx])), (pl, .inr (3, [.int plw, .int pld, .int plc, .int pls, .long plm, .ref plf, .ref plo, .ref plb, .ref pla])), (rw, .inl (krw, 4, .inr (.inr (.inr (.inr fr))))), (r0, .inr (5, [.int rt0, .int rv0, .int rz0, .ref rn0])), (rn0, .inl (rc0, 60, .inr (.inl rN0))), (r1, .inr (5, [.int rt1, .int rv1, .int rz1, .ref rn1])), (rn1, .inl (rc1, 60, .inr (.inl rN1))), (r2, .inr (5, [.int rt2, .int rv2, .int rz2, .ref rn2])), (rn2, .inl (rc2, 60, .inr (.inl rN2))), (r3, .inr (5, [.int rt3, .int rv3, .int rz3, .ref rn3])), (rn3, .inl (rc3, 60, .inr (.inl rN3)))]) [2, 0, 1, 3, 4, 5, 6, 7, 8, 9, 10, 11] rfl
      have hD9 := hD.sub (ws' := [(h0, .inr (6, [.ref tp, .int ts, .int fn, .int fp, .ref rd, .ref gd, .ref im, .ref rw, .ref gn, .ref ho, .ref sq])), (gd, .inr (0, [.ref pl, .int gdl, .long gdh, .long gdw, .int gdi, .int gde, .int gdc, .ref gdt, .int gdg, .ref gdu, .int gdn, .ref gdx])), (pl, .inr (3, [.int plw, .int pld, .int plc, .int pls, .long plm, .ref plf, .ref plo, .ref plb, .ref pla])), (rw, .inl (krw, 4, .inr (.inr (.inr (.inr fr))))), (r0, .inr (5, [.int rt0, .int rv0, .int rz0, .ref rn0])), (rn0, .inl (rc0, 60, .inr (.inl rN0))), (r1, .inr (5, [.int rt1, .int rv1, .int rz1, .ref rn1])), (rn1, .inl (rc1, 60, .inr (.inl rN1))), (r2, .inr (5, [.int rt2, .int rv2, .int rz2, .ref rn2])), (rn2, .inl (rc2, 60, .inr (.inl rN2))), (r3, .inr (5, [.int rt3, .int rv3, .int rz3, .ref rn3])), (rn3, .inl (rc3, 60, .inr (.inl rN3)))]) [2, 0, 1, 3, 4, 5, 6, 7, 8, 9, 10, 11] (by decide) rfl
      have hK9 := hK.sub (tys' := []) [] rfl
      refine W.widen (k := 0) (n := 0) (by omega) (by omega) ?_
      exact W.iret (v := r_6) hx hb hr (fun t ht hW => ⟨⟨r_6, (), rfl, trivial, by rw [ht]; exact hP9, va_K.moved hW.alike hK9, hD9⟩, hS.F ht⟩) hS.2.2 dX6_count_161

theorem dX6_row_0 : decode cX6_row 0 = .ok (.iload_n 1, 1) := by decide +kernel
theorem dX6_row_1 : decode cX6_row 1 = .ok (.invokestatic 211, 3) := by decide +kernel
theorem dX6_row_4 : decode cX6_row 4 = .ok (.ifCond .eq 18, 3) := by decide +kernel
theorem dX6_row_7 : decode cX6_row 7 = .ok (.iload_n 2, 1) := by decide +kernel
theorem dX6_row_8 : decode cX6_row 8 = .ok (.ifCond .lt 14, 3) := by decide +kernel
theorem dX6_row_11 : decode cX6_row 11 = .ok (.iload_n 2, 1) := by decide +kernel
theorem dX6_row_12 : decode cX6_row 12 = .ok (.iconst 3, 1) := by decide +kernel
theorem dX6_row_13 : decode cX6_row 13 = .ok (.if_icmp .gt 9, 3) := by decide +kernel
theorem dX6_row_16 : decode cX6_row 16 = .ok (.iload_n 3, 1) := by decide +kernel
theorem dX6_row_17 : decode cX6_row 17 = .ok (.bipush 60, 2) := by decide +kernel
theorem dX6_row_19 : decode cX6_row 19 = .ok (.if_icmp .le 6, 3) := by decide +kernel
theorem dX6_row_22 : decode cX6_row 22 = .ok (.bipush (-2), 2) := by decide +kernel
theorem dX6_row_24 : decode cX6_row 24 = .ok (.ireturn, 1) := by decide +kernel
theorem dX6_row_25 : decode cX6_row 25 = .ok (.iload_n 3, 1) := by decide +kernel
theorem dX6_row_26 : decode cX6_row 26 = .ok (.ifCond .ge 6, 3) := by decide +kernel
theorem dX6_row_29 : decode cX6_row 29 = .ok (.bipush (-3), 2) := by decide +kernel
theorem dX6_row_31 : decode cX6_row 31 = .ok (.ireturn, 1) := by decide +kernel
theorem dX6_row_32 : decode cX6_row 32 = .ok (.aload_n 0, 1) := by decide +kernel
theorem dX6_row_33 : decode cX6_row 33 = .ok (.getfield 43, 3) := by decide +kernel
theorem dX6_row_36 : decode cX6_row 36 = .ok (.iload_n 1, 1) := by decide +kernel
theorem dX6_row_37 : decode cX6_row 37 = .ok (.aaload, 1) := by decide +kernel
theorem dX6_row_38 : decode cX6_row 38 = .ok (.iload_n 2, 1) := by decide +kernel
theorem dX6_row_39 : decode cX6_row 39 = .ok (.iload_n 3, 1) := by decide +kernel
theorem dX6_row_40 : decode cX6_row 40 = .ok (.invokevirtual 338, 3) := by decide +kernel
theorem dX6_row_43 : decode cX6_row 43 = .ok (.iconst 0, 1) := by decide +kernel
theorem dX6_row_44 : decode cX6_row 44 = .ok (.ireturn, 1) := by decide +kernel
def wz_X6_row : List Cond := .code yX6_row cX6_row 4 (some .int) :: ([Cond.fieldLink RX6 43 "HedgeMaze" "rows" "[LHedgeMaze$Row;", Cond.methodLink RX6 211 yX6_isSlot, Cond.static yX6_isSlot, Cond.initialized RX6, Cond.code yX6_isSlot cX6_isSlot 1 (some .boolean), Cond.methodLink RX6 338 yX5_begin, Cond.instanceMethod yX5_begin, Cond.selects RX5 yX5_begin yX5_begin, Cond.initialized RX5, Cond.code yX5_begin cX5_begin 3 none, Cond.fieldLink RX5 9 "HedgeMaze$Row" "there" "Z", Cond.fieldLink RX5 15 "HedgeMaze$Row" "width" "I", Cond.fieldLink RX5 19 "HedgeMaze$Row" "size" "I", Cond.fieldLink RX5 22 "HedgeMaze$Row" "numbers" "[J", Cond.methodLink RX5 26 yJ7_fill_d0a16, Cond.static yJ7_fill_d0a16, Cond.initialized RJ7, Cond.code yJ7_fill_d0a16 cJ7_fill_d0a16 5 none] ++ wsX60 ++ wsX50)
theorem wd_X6_row_0 : Cond.fieldLink RX6 43 "HedgeMaze" "rows" "[LHedgeMaze$Row;" ∈ wz_X6_row := List.mem_of_getElem? (i := 1) rfl
theorem in_X6_row_X6 : ∀ w ∈ wsX60, w ∈ wz_X6_row := fun _ h => List.mem_cons_of_mem _ (List.mem_append_left _ (List.mem_append_right _ h))
set_option maxRecDepth 20000 in
theorem g_X6_row_X6_isSlot : GoodIn wz_X6_row (va_wsS RX6 211 yX6_isSlot wz_X6_isSlot) := goodIn_r _ [2, 3, 4, 5] rfl (by decide +kernel)
set_option maxRecDepth 20000 in
theorem g_X6_row_X5_begin : GoodIn wz_X6_row (wsV RX6 338 RX5 yX5_begin wz_X5_begin) := goodIn_r _ [6, 7, 8, 9, 10, 11, 12, 13, 14, 15, 16, 17, 18, 30, 31, 32, 33] rfl (by decide +kernel)
set_option maxHeartbeats 4000000 in
set_option maxRecDepth 100000 in
theorem c_X6_row (l : Launch) (dC : Nat → ClassId) (dI : Nat → Nat → Nat) (sz : Nat) (h0 : Nat) (tp : Nat) (ts : Int32) (fn : Int32) (fp : Int32) (rd : Nat) (gd : Nat) (im : Nat) (rw : Nat) (gn : Nat) (ho : Nat) (sq : Nat) (krw : ClassId) (fr : Nat → Option Nat) (r0 : Nat) (rt0 : Int32) (rv0 : Int32) (rz0 : Int32) (rn0 : Nat) (rc0 : ClassId) (rN0 : Nat → Int64) (r1 : Nat) (rt1 : Int32) (rv1 : Int32) (rz1 : Int32) (rn1 : Nat) (rc1 : ClassId) (rN1 : Nat → Int64) (r2 : Nat) (rt2 : Int32) (rv2 : Int32) (rz2 : Int32) (rn2 : Nat) (rc2 : ClassId) (rN2 : Nat → Int64) (r3 : Nat) (rt3 : Int32) (rv3 : Int32) (rz3 : Int32) (rn3 : Nat) (rc3 : ClassId) (rN3 : Nat → Int64) (p0 : Int32) (p1 : Int32) (p2 : Int32) (hf0 : fr 0 = some r0) (hf1 : fr 1 = some r1) (hf2 : fr 2 = some r2) (hf3 : fr 3 = some r3) (h_rz0 : 0 ≤ rz0.toInt ∧ rz0.toInt ≤ 60) (h_rz1 : 0 ≤ rz1.toInt ∧ rz1.toInt ≤ 60) (h_rz2 : 0 ≤ rz2.toInt ∧ rz2.toInt ≤ 60) (h_rz3 : 0 ≤ rz3.toInt ∧ rz3.toInt ≤ 60) : Met l yX6_row wz_X6_row ({ frames := 2, cells := 0, slots := 0, locals := 46 }) (va_Pc [.ref h0, .int p0, .int p1, .int p2] (fun U => U.heap.size = sz ∧ va_P (dC, dI) vwCl [(h0, .inr (6, [.ref tp, .int ts, .int fn, .int fp, .ref rd, .ref gd, .ref im, .ref rw, .ref gn, .ref ho, .ref sq])), (rw, .inl (krw, 4, .inr (.inr (.inr (.inr fr))))), (r0, .inr (5, [.int rt0, .int rv0, .int rz0, .ref rn0])), (rn0, .inl (rc0, 60, .inr (.inl rN0))), (r1, .inr (5, [.int rt1, .int rv1, .int rz1, .ref rn1])), (rn1, .inl (rc1, 60, .inr (.inl rN1))), (r2, .inr (5, [.int rt2, .int rv2, .int rz2, .ref rn2])), (rn2, .inl (rc2, 60, .inr (.inl rN2))), (r3, .inr (5, [.int rt3, .int rv3, .int rz3, .ref rn3])), (rn3, .inl (rc3, 60, .inr (.inl rN3)))] U.heap ∧ va_K (dC, dI) vwCl [(krw, .object RX5), (rc0, .long), (rc1, .long), (rc2, .long), (rc3, .long)] U ∧ va_D (fun _ => True) [(h0, .inr (6, [.ref tp, .int ts, .int fn, .int fp, .ref rd, .ref gd, .ref im, .ref rw, .ref gn, .ref ho, .ref sq])), (rw, .inl (krw, 4, .inr (.inr (.inr (.inr fr))))), (r0, .inr (5, [.int rt0, .int rv0, .int rz0, .ref rn0])), (rn0, .inl (rc0, 60, .inr (.inl rN0))), (r1, .inr (5, [.int rt1, .int rv1, .int rz1, .ref rn1])), (rn1, .inl (rc1, 60, .inr (.inl rN1))), (r2, .inr (5, [.int rt2, .int rv2, .int rz2, .ref rn2])), (rn2, .inl (rc2, 60, .inr (.inl rN2))), (r3, .inr (5, [.int rt3, .int rv3, .int rz3, .ref rn3])), (rn3, .inl (rc3, 60, .inr (.inl rN3)))])) (va_Qi (fun (r : Int32) (u : Int32 × Int32 × Int32 × (Nat → Int64) × Int32 × Int32 × Int32 × (Nat → Int64) × Int32 × Int32 × Int32 × (Nat → Int64) × Int32 × Int32 × Int32 × (Nat → Int64)) => (r = if (0 ≤ p0.toInt ∧ p0.toInt ≤ 3) ∧ (0 ≤ p1.toInt ∧ p1.toInt ≤ 3) ∧ p2.toInt ≤ 60 then (if p2.toInt < 0 then -3 else 0) else -2) ∧ (0 ≤ u.2.2.1.toInt ∧ u.2.2.1.toInt ≤ 60) ∧ (0 ≤ u.2.2.2.2.2.2.1.toInt ∧ u.2.2.2.2.2.2.1.toInt ≤ 60) ∧ (0 ≤ u.2.2.2.2.2.2.2.2.2.2.1.toInt ∧ u.2.2.2.2.2.2.2.2.2.2.1.toInt ≤ 60) ∧ (0 ≤ u.2.2.2.2.2.2.2.2.2.2.2.2.2.2.1.toInt ∧ u.2.2.2.2.2.2.2.2.2.2.2.2.2.2.1.toInt ≤ 60) ∧ (((p0.toInt = 0 ∧ 0 ≤ p1.toInt ∧ p1.toInt ≤ 3 ∧ 0 ≤ p2.toInt ∧ p2.toInt ≤ 60) ∧ u.1 = 1 ∧ u.2.1 = p1 ∧ u.2.2.1 = p2) ∨ (¬ (p0.toInt = 0 ∧ 0 ≤ p1.toInt ∧ p1.toInt ≤ 3 ∧ 0 ≤ p2.toInt ∧ p2.toInt ≤ 60) ∧ u.1 = rt0 ∧ u.2.1 = rv0 ∧ u.2.2.1 = rz0)) ∧ (((p0.toInt = 1 ∧ 0 ≤ p1.toInt ∧ p1.toInt ≤ 3 ∧ 0 ≤ p2.toInt ∧ p2.toInt ≤ 60) ∧ u.2.2.2.2.1 = 1 ∧ u.2.2.2.2.2.1 = p1 ∧ u.2.2.2.2.2.2.1 = p2) ∨ (¬ (p0.toInt = 1 ∧ 0 ≤ p1.toInt ∧ p1.toInt ≤ 3 ∧ 0 ≤ p2.toInt ∧ p2.toInt ≤ 60) ∧ u.2.2.2.2.1 = rt1 ∧ u.2.2.2.2.2.1 = rv1 ∧ u.2.2.2.2.2.2.1 = rz1)) ∧ (((p0.toInt = 2 ∧ 0 ≤ p1.toInt ∧ p1.toInt ≤ 3 ∧ 0 ≤ p2.toInt ∧ p2.toInt ≤ 60) ∧ u.2.2.2.2.2.2.2.2.1 = 1 ∧ u.2.2.2.2.2.2.2.2.2.1 = p1 ∧ u.2.2.2.2.2.2.2.2.2.2.1 = p2) ∨ (¬ (p0.toInt = 2 ∧ 0 ≤ p1.toInt ∧ p1.toInt ≤ 3 ∧ 0 ≤ p2.toInt ∧ p2.toInt ≤ 60) ∧ u.2.2.2.2.2.2.2.2.1 = rt2 ∧ u.2.2.2.2.2.2.2.2.2.1 = rv2 ∧ u.2.2.2.2.2.2.2.2.2.2.1 = rz2)) ∧ (((p0.toInt = 3 ∧ 0 ≤ p1.toInt ∧ p1.toInt ≤ 3 ∧ 0 ≤ p2.toInt ∧ p2.toInt ≤ 60) ∧ u.2.2.2.2.2.2.2.2.2.2.2.2.1 = 1 ∧ u.2.2.2.2.2.2.2.2.2.2.2.2.2.1 = p1 ∧ u.2.2.2.2.2.2.2.2.2.2.2.2.2.2.1 = p2) ∨ (¬ (p0.toInt = 3 ∧ 0 ≤ p1.toInt ∧ p1.toInt ≤ 3 ∧ 0 ≤ p2.toInt ∧ p2.toInt ≤ 60) ∧ u.2.2.2.2.2.2.2.2.2.2.2.2.1 = rt3 ∧ u.2.2.2.2.2.2.2.2.2.2.2.2.2.1 = rv3 ∧ u.2.2.2.2.2.2.2.2.2.2.2.2.2.2.1 = rz3))) (fun (u : Int32 × Int32 × Int32 × (Nat → Int64) × Int32 × Int32 × Int32 × (Nat → Int64) × Int32 × Int32 × Int32 × (Nat → Int64) × Int32 × Int32 × Int32 × (Nat → Int64)) (t : State) => va_P (dC, dI) vwCl [(h0, .inr (6, [.ref tp, .int ts, .int fn, .int fp, .ref rd, .ref gd, .ref im, .ref rw, .ref gn, .ref ho, .ref sq])), (rw, .inl (krw, 4, .inr (.inr (.inr (.inr fr))))), (r0, .inr (5, [.int u.1, .int u.2.1, .int u.2.2.1, .ref rn0])), (rn0, .inl (rc0, 60, .inr (.inl u.2.2.2.1))), (r1, .inr (5, [.int u.2.2.2.2.1, .int u.2.2.2.2.2.1, .int u.2.2.2.2.2.2.1, .ref rn1])), (rn1, .inl (rc1, 60, .inr (.inl u.2.2.2.2.2.2.2.1))), (r2, .inr (5, [.int u.2.2.2.2.2.2.2.2.1, .int u.2.2.2.2.2.2.2.2.2.1, .int u.2.2.2.2.2.2.2.2.2.2.1, .ref rn2])), (rn2, .inl (rc2, 60, .inr (.inl u.2.2.2.2.2.2.2.2.2.2.2.1))), (r3, .inr (5, [.int u.2.2.2.2.2.2.2.2.2.2.2.2.1, .int u.2.2.2.2.2.2.2.2.2.2.2.2.2.1, .int u.2.2.2.2.2.2.2.2.2.2.2.2.2.2.1, .ref rn3])), (rn3, .inl (rc3, 60, .inr (.inl u.2.2.2.2.2.2.2.2.2.2.2.2.2.2.2)))] t.heap ∧ va_K (dC, dI) vwCl [] t ∧ va_D (va_A [(h0, .inr (6, [.ref tp, .int ts, .int fn, .int fp, .ref rd, .ref gd, .ref im, .ref rw, .ref gn, .ref ho, .ref sq])), (rw, .inl (krw, 4, .inr (.inr (.inr (.inr fr))))), (r0, .inr (5, [.int rt0, .int rv0, .int rz0, .ref rn0])), (rn0, .inl (rc0, 60, .inr (.inl rN0))), (r1, .inr (5, [.int rt1, .int rv1, .int rz1, .ref rn1])), (rn1, .inl (rc1, 60, .inr (.inl rN1))), (r2, .inr (5, [.int rt2, .int rv2, .int rz2, .ref rn2])), (rn2, .inl (rc2, 60, .inr (.inl rN2))), (r3, .inr (5, [.int rt3, .int rv3, .int rz3, .ref rn3])), (rn3, .inl (rc3, 60, .inr (.inl rN3)))] sz) [(h0, .inr (6, [.ref tp, .int ts, .int fn, .int fp, .ref rd, .ref gd, .ref im, .ref rw, .ref gn, .ref ho, .ref sq])), (rw, .inl (krw, 4, .inr (.inr (.inr (.inr fr))))), (r0, .inr (5, [.int u.1, .int u.2.1, .int u.2.2.1, .ref rn0])), (rn0, .inl (rc0, 60, .inr (.inl u.2.2.2.1))), (r1, .inr (5, [.int u.2.2.2.2.1, .int u.2.2.2.2.2.1, .int u.2.2.2.2.2.2.1, .ref rn1])), (rn1, .inl (rc1, 60, .inr (.inl u.2.2.2.2.2.2.2.1))), (r2, .inr (5, [.int u.2.2.2.2.2.2.2.2.1, .int u.2.2.2.2.2.2.2.2.2.1, .int u.2.2.2.2.2.2.2.2.2.2.1, .ref rn2])), (rn2, .inl (rc2, 60, .inr (.inl u.2.2.2.2.2.2.2.2.2.2.2.1))), (r3, .inr (5, [.int u.2.2.2.2.2.2.2.2.2.2.2.2.1, .int u.2.2.2.2.2.2.2.2.2.2.2.2.2.1, .int u.2.2.2.2.2.2.2.2.2.2.2.2.2.2.1, .ref rn3])), (rn3, .inl (rc3, 60, .inr (.inl u.2.2.2.2.2.2.2.2.2.2.2.2.2.2.2)))]) (va_A [(h0, .inr (6, [.ref tp, .int ts, .int fn, .int fp, .ref rd, .ref gd, .ref im, .ref rw, .ref gn, .ref ho, .ref sq])), (rw, .inl (krw, 4, .inr (.inr (.inr (.inr fr))))), (r0, .inr (5, [.int rt0, .int rv0, .int rz0, .ref rn0])), (rn0, .inl (rc0, 60, .inr (.inl rN0))), (r1, .inr (5, [.int rt1, .int rv1, .int rz1, .ref rn1])), (rn1, .inl (rc1, 60, .inr (.inl rN1))), (r2, .inr (5, [.int rt2, .int rv2, .int rz2, .ref rn2])), (rn2, .inl (rc2, 60, .inr (.inl rN2))), (r3, .inr (5, [.int rt3, .int rv3, .int rz3, .ref rn3])), (rn3, .inl (rc3, 60, .inr (.inl rN3)))] sz)) 0 0 (va_A [(h0, .inr (6, [.ref tp, .int ts, .int fn, .int fp, .ref rd, .ref gd, .ref im, .ref rw, .ref gn, .ref ho, .ref sq])), (rw, .inl (krw, 4, .inr (.inr (.inr (.inr fr))))), (r0, .inr (5, [.int rt0, .int rv0, .int rz0, .ref rn0])), (rn0, .inl (rc0, 60, .inr (.inl rN0))), (r1, .inr (5, [.int rt1, .int rv1, .int rz1, .ref rn1])), (rn1, .inl (rc1, 60, .inr (.inl rN1))), (r2, .inr (5, [.int rt2, .int rv2, .int rz2, .ref rn2])), (rn2, .inl (rc2, 60, .inr (.inl rN2))), (r3, .inr (5, [.int rt3, .int rv3, .int rz3, .ref rn3])), (rn3, .inl (rc3, 60, .inr (.inl rN3)))] sz) := by
  refine Met.ofW (cc := cX6_row) (maxL := 4) (ret := (some .int)) (by decide) rfl ?_
  intro p e s m args below meth c s₁ B hml hv
  obtain ⟨rfl, hsz, hP, hK, hD0⟩ := hv
  have hx := B.exec
  have hb := B.bytes
  have hr := B.returns
  have hts := atoms_spec (ws := wz_X6_row) B.pre
  have hown : s.vm.findClass RX6 = some m.cls := findClass_of_methodNamed B.named
  have hlocks := B.notSynchronized
  subst hsz
  have hD := hD0.self (sz := s.heap.size)
  generalize hAe : va_A [(h0, .inr (6, [.ref tp, .int ts, .int fn, .int fp, .ref rd, .ref gd, .ref im, .ref rw, .ref gn, .ref ho, .ref sq])), (rw, .inl (krw, 4, .inr (.inr (.inr (.inr fr))))), (r0, .inr (5, [.int rt0, .int rv0, .int rz0, .ref rn0])), (rn0, .inl (rc0, 60, .inr (.inl rN0))), (r1, .inr (5, [.int rt1, .int rv1, .int rz1, .ref rn1])), (rn1, .inl (rc1, 60, .inr (.inl rN1))), (r2, .inr (5, [.int rt2, .int rv2, .int rz2, .ref rn2])), (rn2, .inl (rc2, 60, .inr (.inl rN2))), (r3, .inr (5, [.int rt3, .int rv3, .int rz3, .ref rn3])), (rn3, .inl (rc3, 60, .inr (.inl rN3)))] s.heap.size = A at hD ⊢
  have hA : ∀ q : Nat, s.heap.size ≤ q → A q := fun q h => by rw [← hAe]; exact Or.inr h
  have hS : va_S A s.heap s.heap [] := va_S.rf
  have hP : va_P (dC, dI) vwCl [(h0, .inr (6, [.ref tp, .int ts, .int fn, .int fp, .ref rd, .ref gd, .ref im, .ref rw, .ref gn, .ref ho, .ref sq])), (rw, .inl (krw, 4, .inr (.inr (.inr (.inr fr))))), (r0, .inr (5, [.int rt0, .int rv0, .int rz0, .ref rn0])), (rn0, .inl (rc0, 60, .inr (.inl rN0))), (r1, .inr (5, [.int rt1, .int rv1, .int rz1, .ref rn1])), (rn1, .inl (rc1, 60, .inr (.inl rN1))), (r2, .inr (5, [.int rt2, .int rv2, .int rz2, .ref rn2])), (rn2, .inl (rc2, 60, .inr (.inl rN2))), (r3, .inr (5, [.int rt3, .int rv3, .int rz3, .ref rn3])), (rn3, .inl (rc3, 60, .inr (.inl rN3)))] s.heap := hP
  have hl := lv_entry ([.ref h0, .int p0, .int p1, .int p2]) (n := 4) (Nat.le_of_ble_eq_true rfl)
  rw [lg_entry_eq]
  generalize (lg_sl ([.ref h0, .int p0, .int p1, .int p2]) ++ List.replicate (4 - (lg_sl ([.ref h0, .int p0, .int p1, .int p2])).length) Slot.unset).toArray = ls at hl ⊢
  have hl : lv_has ls 4 [(0, .ref h0), (1, .int p0), (2, .int p1), (3, .int p2)] := hl
  refine lv_iload_n hx hb dX6_row_0 rfl (lv_at hl 1 rfl) ?_
  have hPc := hP.sub (ws' := []) [] rfl
  have hDc := hD.sub (ws' := []) [] (by decide) rfl
  have hKc := hK.sub (tys' := []) [] rfl
  have hFc := va_free (wc := []) hD hS hA [] rfl
  refine va_calli (va_runS (As := [.int p0]) (rest := []) ⟨hx, hb, hml, hown, hts⟩ (c_X6_isSlot l dC dI s.heap.size p0 ) (va_cwS 1 hts g_X6_row_X6_isSlot rfl rfl rfl (by decide +kernel) ⟨Nat.le_of_ble_eq_true rfl, Nat.le_of_ble_eq_true rfl⟩) ⟨fun a U g mk q => by obtain ⟨q0, q1, qP, qK, qD⟩ := q; exact ⟨q0, q1, qP, va_K.moved (u := U) (U := U.calling g mk a) (Vm.Alike.refl U.vm) qK, qD⟩, fun U hU hW => ⟨rfl, by rw [hU], by rw [hU]; exact hPc, va_K.moved hW.alike hKc, hDc.weaken (fun _ _ _ _ => trivial)⟩⟩ rfl rfl hl.1 rfl (lv_room (Nat.le_of_ble_eq_true rfl)) dX6_row_1 ⟨Nat.le_of_ble_eq_true rfl, Nat.le_of_ble_eq_true rfl⟩) hS (fun q _ h => hFc q h) hFc (fun r_1 u t H1 locs ht hvm hw_2 hB hz1 hk1 hS => ?_)
  have hP1 : va_P (dC, dI) vwCl [] H1 := i_nilP
  have hD1 : va_D (va_A [] s.heap.size) [] := i_nilD
  try dsimp only at hw_2
  obtain ⟨hP, hD⟩ := va_join (wr := [(h0, .inr (6, [.ref tp, .int ts, .int fn, .int fp, .ref rd, .ref gd, .ref im, .ref rw, .ref gn, .ref ho, .ref sq])), (rw, .inl (krw, 4, .inr (.inr (.inr (.inr fr))))), (r0, .inr (5, [.int rt0, .int rv0, .int rz0, .ref rn0])), (rn0, .inl (rc0, 60, .inr (.inl rN0))), (r1, .inr (5, [.int rt1, .int rv1, .int rz1, .ref rn1])), (rn1, .inl (rc1, 60, .inr (.inl rN1))), (r2, .inr (5, [.int rt2, .int rv2, .int rz2, .ref rn2])), (rn2, .inl (rc2, 60, .inr (.inl rN2))), (r3, .inr (5, [.int rt3, .int rv3, .int rz3, .ref rn3])), (rn3, .inl (rc3, 60, .inr (.inl rN3)))]) (w1 := []) hP hD [] [0, 1, 2, 3, 4, 5, 6, 7, 8, 9] rfl rfl (by decide) (by decide) hk1 hFc hP1 hD1
  generalize H1 = H at hP hS ⊢
  have hP : va_P (dC, dI) vwCl [(h0, .inr (6, [.ref tp, .int ts, .int fn, .int fp, .ref rd, .ref gd, .ref im, .ref rw, .ref gn, .ref ho, .ref sq])), (rw, .inl (krw, 4, .inr (.inr (.inr (.inr fr))))), (r0, .inr (5, [.int rt0, .int rv0, .int rz0, .ref rn0])), (rn0, .inl (rc0, 60, .inr (.inl rN0))), (r1, .inr (5, [.int rt1, .int rv1, .int rz1, .ref rn1])), (rn1, .inl (rc1, 60, .inr (.inl rN1))), (r2, .inr (5, [.int rt2, .int rv2, .int rz2, .ref rn2])), (rn2, .inl (rc2, 60, .inr (.inl rN2))), (r3, .inr (5, [.int rt3, .int rv3, .int rz3, .ref rn3])), (rn3, .inl (rc3, 60, .inr (.inl rN3)))] H := hP
  have hD : va_D A [(h0, .inr (6, [.ref tp, .int ts, .int fn, .int fp, .ref rd, .ref gd, .ref im, .ref rw, .ref gn, .ref ho, .ref sq])), (rw, .inl (krw, 4, .inr (.inr (.inr (.inr fr))))), (r0, .inr (5, [.int rt0, .int rv0, .int rz0, .ref rn0])), (rn0, .inl (rc0, 60, .inr (.inl rN0))), (r1, .inr (5, [.int rt1, .int rv1, .int rz1, .ref rn1])), (rn1, .inl (rc1, 60, .inr (.inl rN1))), (r2, .inr (5, [.int rt2, .int rv2, .int rz2, .ref rn2])), (rn2, .inl (rc2, 60, .inr (.inl rN2))), (r3, .inr (5, [.int rt3, .int rv3, .int rz3, .ref rn3])), (rn3, .inl (rc3, 60, .inr (.inl rN3)))] := hD
  rcases i_bool hw_2 with ⟨r_19, hC⟩ | ⟨r_19, hC⟩
  · obtain rfl : r_1 = 1 := r_19
    have hC_3 := hC
    refine lv_if_eq (tgt := 22) hx hb dX6_row_4 (by decide) (fun h => absurd h (by decide)) (fun _ => ?_)
    refine lv_iload_n hx hb dX6_row_7 rfl (lv_at hl 2 rfl) ?_
    refine lv_if_lt (tgt := 22) hx hb dX6_row_8 (by decide) (fun c_5 => ?_) (fun c_5 => ?_)
    · have c_5 : p1.toInt < 0 := i_lt (a := p1) (b := 0) rfl (by decide) c_5
      refine lv_bipush (v := -2) hx hb dX6_row_22 (by decide) ?_
      have hP9 := hP.sub (ws' := [(h0, .inr (6, [.ref tp, .int ts, .int fn, .int fp, .ref rd, .ref gd, .ref im, .ref rw, .ref gn, .ref ho, .ref sq])), (rw, .inl (krw, 4, .inr (.inr (.inr (.inr fr))))), (r0, .inr (5, [.int rt0, .int rv0, .int rz0, .ref rn0])), (rn0, .inl (rc0, 60, .inr (.inl rN0))), (r1, .inr (5, [.int rt1, .int rv1, .int rz1, .ref rn1])), (rn1, .inl (rc1, 60, .inr (.inl rN1))), (r2, .inr (5, [.int rt2, .int rv2, .int rz2, .ref rn2])), (rn2, .inl (rc2, 60, .inr (.inl rN2))), (r3, .inr (5, [.int rt3, .int rv3, .int rz3, .ref rn3])), (rn3, .inl (rc3, 60, .inr (.inl rN3)))]) [0, 1, 2, 3, 4, 5, 6, 7, 8, 9] rfl
      have hD9 := hD.sub (ws' := [(h0, .inr (6, [.ref tp, .int ts, .int fn, .int fp, .ref rd, .ref gd, .ref im, .ref rw, .ref gn, .ref ho, .ref sq])), (rw, .inl (krw, 4, .inr (.inr (.inr (.inr fr))))), (r0, .inr (5, [.int rt0, .int rv0, .int rz0, .ref rn0])), (rn0, .inl (rc0, 60, .inr (.inl rN0))), (r1, .inr (5, [.int rt1, .int rv1, .int rz1, .ref rn1])), (rn1, .inl (rc1, 60, .inr (.inl rN1))), (r2, .inr (5, [.int rt2, .int rv2, .int rz2, .ref rn2])), (rn2, .inl (rc2, 60, .inr (.inl rN2))), (r3, .inr (5, [.int rt3, .int rv3, .int rz3, .ref rn3])), (rn3, .inl (rc3, 60, .inr (.inl rN3)))]) [0, 1, 2, 3, 4, 5, 6, 7, 8, 9] (by decide) rfl
      have hK9 := hK.sub (tys' := []) [] rfl
      refine W.widen (k := 0) (n := 0) (by omega) (by omega) ?_
      exact W.iret (v := -2) hx hb hr (fun t ht hW => ⟨⟨(-2), (rt0, rv0, rz0, rN0, rt1, rv1, rz1, rN1, rt2, rv2, rz2, rN2, rt3, rv3, rz3, rN3), rfl, ⟨(by first | rfl | ((repeat' split) <;> (first | rfl | (exfalso; omega)))), (by first | exact h_rz0 | (dsimp only; omega)), (by first | exact h_rz1 | (dsimp only; omega)), (by first | exact h_rz2 | (dsimp only; omega)), (by first | exact h_rz3 | (dsimp only; omega)), (by have j0 : (0 : Int32).toInt = 0 := (by decide); have j1 : (1 : Int32).toInt = 1 := (by decide); have j2 : (2 : Int32).toInt = 2 := (by decide); have j3 : (3 : Int32).toInt = 3 := (by decide); first | exact Or.inr ⟨by omega, rfl, rfl, rfl⟩ | exact Or.inl ⟨⟨by omega, by omega, by omega, by omega, by omega⟩, rfl, rfl, rfl⟩), (by have j0 : (0 : Int32).toInt = 0 := (by decide); have j1 : (1 : Int32).toInt = 1 := (by decide); have j2 : (2 : Int32).toInt = 2 := (by decide); have j3 : (3 : Int32).toInt = 3 := (by decide); first | exact Or.inr ⟨by omega, rfl, rfl, rfl⟩ | exact Or.inl ⟨⟨by omega, by omega, by omega, by omega, by omega⟩, rfl, rfl, rfl⟩), (by have j0 : (0 : Int32).toInt = 0 := (by decide); have j1 : (1 : Int32).toInt = 1 := (by decide); have j2 : (2 : Int32).toInt = 2 := (by decide); have j3 : (3 : Int32).toInt = 3 := (by decide); first | exact Or.inr ⟨by omega, rfl, rfl, rfl⟩ | exact Or.inl ⟨⟨by omega, by omega, by omega, by omega, by omega⟩, rfl, rfl, rfl⟩), (by have j0 : (0 : Int32).toInt = 0 := (by decide); have j1 : (1 : Int32).toInt = 1 := (by decide); have j2 : (2 : Int32).toInt = 2 := (by decide); have j3 : (3 : Int32).toInt = 3 := (by decide); first | exact Or.inr ⟨by omega, rfl, rfl, rfl⟩ | exact Or.inl ⟨⟨by omega, by omega, by omega, by omega, by omega⟩, rfl, rfl, rfl⟩)⟩, by rw [ht]; exact hP9, va_K.moved hW.alike hK9, hD9⟩, hS.F ht⟩) hS.2.2 dX6_row_24
    · have c_5 : 0 ≤ p1.toInt := i_nlt (a := p1) (b := 0) rfl (by decide) c_5
      refine lv_iload_n hx hb dX6_row_11 rfl (lv_at hl 2 rfl) ?_
      refine lv_iconst (v := 3) hx hb dX6_row_12 (by decide) ?_
      refine lv_icmp_gt (tgt := 22) hx hb dX6_row_13 (by decide) (fun c_6 => ?_) (fun c_6 => ?_)
      · have c_6 : 3 < p1.toInt := i_lt (a := 3) (b := p1) (by decide) rfl c_6
        refine lv_bipush (v := -2) hx hb dX6_row_22 (by decide) ?_
        have hP9 := hP.sub (ws' := [(h0, .inr (6, [.ref tp, .int ts, .int fn, .int fp, .ref rd, .ref gd, .ref im, .ref rw, .ref gn, .ref ho, .ref sq])), (rw, .inl (krw, 4, .inr (.inr (.inr (.inr fr))))), (r0, .inr (5, [.int rt0, .int rv0, .int rz0, .ref rn0])), (rn0, .inl (rc0, 60, .inr (.inl rN0))), (r1, .inr (5, [.int rt1, .int rv1, .int rz1, .ref rn1])), (rn1, .inl (rc1, 60, .inr (.inl rN1))), (r2, .inr (5, [.int rt2, .int rv2, .int rz2, .ref rn2])), (rn2, .inl (rc2, 60, .inr (.inl rN2))), (r3, .inr (5, [.int rt3, .int rv3, .int rz3, .ref rn3])), (rn3, .inl (rc3, 60, .inr (.inl rN3)))]) [0, 1, 2, 3, 4, 5, 6, 7, 8, 9] rfl
        have hD9 := hD.sub (ws' := [(h0, .inr (6, [.ref tp, .int ts, .int fn, .int fp, .ref rd, .ref gd, .ref im, .ref rw, .ref gn, .ref ho, .ref sq])), (rw, .inl (krw, 4, .inr (.inr (.inr (.inr fr))))), (r0, .inr (5, [.int rt0, .int rv0, .int rz0, .ref rn0])), (rn0, .inl (rc0, 60, .inr (.inl rN0))), (r1, .inr (5, [.int rt1, .int rv1, .int rz1, .ref rn1])), (rn1, .inl (rc1, 60, .inr (.inl rN1))), (r2, .inr (5, [.int rt2, .int rv2, .int rz2, .ref rn2])), (rn2, .inl (rc2, 60, .inr (.inl rN2))), (r3, .inr (5, [.int rt3, .int rv3, .int rz3, .ref rn3])), (rn3, .inl (rc3, 60, .inr (.inl rN3)))]) [0, 1, 2, 3, 4, 5, 6, 7, 8, 9] (by decide) rfl
        have hK9 := hK.sub (tys' := []) [] rfl
        refine W.widen (k := 0) (n := 0) (by omega) (by omega) ?_
        exact W.iret (v := -2) hx hb hr (fun t ht hW => ⟨⟨(-2), (rt0, rv0, rz0, rN0, rt1, rv1, rz1, rN1, rt2, rv2, rz2, rN2, rt3, rv3, rz3, rN3), rfl, ⟨(by first | rfl | ((repeat' split) <;> (first | rfl | (exfalso; omega)))), (by first | exact h_rz0 | (dsimp only; omega)), (by first | exact h_rz1 | (dsimp only; omega)), (by first | exact h_rz2 | (dsimp only; omega)), (by first | exact h_rz3 | (dsimp only; omega)), (by have j0 : (0 : Int32).toInt = 0 := (by decide); have j1 : (1 : Int32).toInt = 1 := (by decide); have j2 : (2 : Int32).toInt = 2 := (by decide); have j3 : (3 : Int32).toInt = 3 := (by decide); first | exact Or.inr ⟨by omega, rfl, rfl, rfl⟩ | exact Or.inl ⟨⟨by omega, by omega, by omega, by omega, by omega⟩, rfl, rfl, rfl⟩), (by have j0 : (0 : Int32).toInt = 0 := (by decide); have j1 : (1 : Int32).toInt = 1 := (by decide); have j2 : (2 : Int32).toInt = 2 := (by decide); have j3 : (3 : Int32).toInt = 3 := (by decide); first | exact Or.inr ⟨by omega, rfl, rfl, rfl⟩ | exact Or.inl ⟨⟨by omega, by omega, by omega, by omega, by omega⟩, rfl, rfl, rfl⟩), (by have j0 : (0 : Int32).toInt = 0 := (by decide); have j1 : (1 : Int32).toInt = 1 := (by decide); have j2 : (2 : Int32).toInt = 2 := (by decide); have j3 : (3 : Int32).toInt = 3 := (by decide); first | exact Or.inr ⟨by omega, rfl, rfl, rfl⟩ | exact Or.inl ⟨⟨by omega, by omega, by omega, by omega, by omega⟩, rfl, rfl, rfl⟩), (by have j0 : (0 : Int32).toInt = 0 := (by decide); have j1 : (1 : Int32).toInt = 1 := (by decide); have j2 : (2 : Int32).toInt = 2 := (by decide); have j3 : (3 : Int32).toInt = 3 := (by decide); first | exact Or.inr ⟨by omega, rfl, rfl, rfl⟩ | exact Or.inl ⟨⟨by omega, by omega, by omega, by omega, by omega⟩, rfl, rfl, rfl⟩)⟩, by rw [ht]; exact hP9, va_K.moved hW.alike hK9, hD9⟩, hS.F ht⟩) hS.2.2 dX6_row_24
      · have c_6 : p1.toInt ≤ 3 := i_nlt (a := 3) (b := p1) (by decide) rfl c_6
        refine lv_iload_n hx hb dX6_row_16 rfl (lv_at hl 3 rfl) ?_
        refine lv_bipush (v := 60) hx hb dX6_row_17 (by decide) ?_
        refine lv_icmp_le (tgt := 25) hx hb dX6_row_19 (by decide) (fun c_7 => ?_) (fun c_7 => ?_)
        · have c_7 : p2.toInt ≤ 60 := i_le (a := p2) (b := 60) rfl (by decide) c_7
          refine lv_iload_n hx hb dX6_row_25 rfl (lv_at hl 3 rfl) ?_
          refine lv_if_ge (tgt := 32) hx hb dX6_row_26 (by decide) (fun c_8 => ?_) (fun c_8 => ?_)
          · have c_8 : 0 ≤ p2.toInt := i_le (a := 0) (b := p2) (by decide) rfl c_8
            have hPy_9 := hP
            have hDy_9 := hD
            have hSy_9 := hS
            have hly_9 := hl
            have hKy_9 := hK
            rcases (i_four (a := p0) (by omega) (by omega) : p0 = 0 ∨ p0 = 1 ∨ p0 = 2 ∨ p0 = 3) with rfl | rfl | rfl | rfl
            · have hP := hPy_9
              have hD := hDy_9
              have hS := hSy_9
              have hl := hly_9
              have hK := hKy_9
              refine lv_aload_n hx hb dX6_row_32 rfl (lv_at hl 0 rfl) ?_
              refine va_get (D := (dC, dI)) (ci := 6) (v := .ref rw) (C := RX6) (T := TX6) (N := 11) hx hb hts in_X6_row_X6 hown hK hP 0 rfl rfl 7 (by decide) (hts _ wd_X6_row_0) (fun _ h9 => h9) rfl dX6_row_33 ?_
              refine lv_iload_n hx hb dX6_row_36 rfl (lv_at hl 1 rfl) ?_
              refine va_aldq (i := 0) hx hb hK hP 1 0 rfl rfl (vp_in_iff.mpr ⟨by decide, by decide⟩) dX6_row_37 ?_
              refine W.eq (g2 := F0 m 38 ls (.ref r0 :: [])) (by rw [show fr (0 : Int32).toNatClampNeg = some r0 from hf0]; rfl) ?_
              refine lv_iload_n hx hb dX6_row_38 rfl (lv_at hl 2 rfl) ?_
              refine lv_iload_n hx hb dX6_row_39 rfl (lv_at hl 3 rfl) ?_
              have hPc := hP.sub (ws' := [(r0, .inr (5, [.int rt0, .int rv0, .int rz0, .ref rn0])), (rn0, .inl (rc0, 60, .inr (.inl rN0)))]) [2, 3] rfl
              have hDc := hD.sub (ws' := [(r0, .inr (5, [.int rt0, .int rv0, .int rz0, .ref rn0])), (rn0, .inl (rc0, 60, .inr (.inl rN0)))]) [2, 3] (by decide) rfl
              have hKc := hK.sub (tys' := [(rc0, .long)]) [1] rfl
              have hFc := va_free (wc := [(r0, .inr (5, [.int rt0, .int rv0, .int rz0, .ref rn0])), (rn0, .inl (rc0, 60, .inr (.inl rN0)))]) hD hS hA [2, 3] rfl
              refine va_callv (va_runV (As := [.int p1, .int p2]) (rest := []) ⟨hx, hb, hml, hown, hts⟩ (c_X5_begin l dC dI H.size r0 rt0 rv0 rz0 rn0 rc0 rN0 p1 p2 ) (cwV 2 hts g_X6_row_X5_begin rfl rfl rfl (by decide +kernel) ⟨Nat.le_of_ble_eq_true rfl, Nat.le_of_ble_eq_true rfl⟩) ⟨fun a U g mk q => by obtain ⟨q0, q1, qP, qK, qD⟩ := q; exact ⟨q0, q1, qP, va_K.moved (u := U) (U := U.calling g mk a) (Vm.Alike.refl U.vm) qK, qD⟩, va_recv hKc hPc (ci := 5) (q0 := 0) rfl rfl, fun U hU hW => ⟨rfl, by rw [hU], by rw [hU]; exact hPc, va_K.moved hW.alike hKc, hDc.weaken (fun _ _ _ _ => trivial)⟩⟩ rfl rfl hl.1 rfl (lv_room (Nat.le_of_ble_eq_true rfl)) dX6_row_40 ⟨Nat.le_of_ble_eq_true rfl, Nat.le_of_ble_eq_true rfl⟩) hS (fun q _ h => hFc q h) hFc (fun u t H1 locs ht hvm hw_10 hB hz1 hk1 hS => ?_)
              obtain ⟨RN2_11, rfl⟩ : ∃ z, z = u := ⟨_, rfl⟩
              obtain ⟨hP1, hK1, hD1⟩ := hB
              have hP1 : va_P (dC, dI) vwCl [(r0, .inr (5, [.int 1, .int p1, .int p2, .ref rn0])), (rn0, .inl (rc0, 60, .inr (.inl RN2_11)))] t.heap := hP1
              rw [ht] at hP1
              try dsimp only at hw_10
              obtain ⟨hP, hD⟩ := va_join (wr := [(h0, .inr (6, [.ref tp, .int ts, .int fn, .int fp, .ref rd, .ref gd, .ref im, .ref rw, .ref gn, .ref ho, .ref sq])), (rw, .inl (krw, 4, .inr (.inr (.inr (.inr fr))))), (r1, .inr (5, [.int rt1, .int rv1, .int rz1, .ref rn1])), (rn1, .inl (rc1, 60, .inr (.inl rN1))), (r2, .inr (5, [.int rt2, .int rv2, .int rz2, .ref rn2])), (rn2, .inl (rc2, 60, .inr (.inl rN2))), (r3, .inr (5, [.int rt3, .int rv3, .int rz3, .ref rn3])), (rn3, .inl (rc3, 60, .inr (.inl rN3)))]) (w1 := [(r0, .inr (5, [.int 1, .int p1, .int p2, .ref rn0])), (rn0, .inl (rc0, 60, .inr (.inl RN2_11)))]) hP hD [2, 3] [0, 1, 4, 5, 6, 7, 8, 9] rfl rfl (by decide) (by decide) hk1 hFc hP1 hD1
              generalize H1 = H at hP hS ⊢
              have hP : va_P (dC, dI) vwCl [(h0, .inr (6, [.ref tp, .int ts, .int fn, .int fp, .ref rd, .ref gd, .ref im, .ref rw, .ref gn, .ref ho, .ref sq])), (rw, .inl (krw, 4, .inr (.inr (.inr (.inr fr))))), (r1, .inr (5, [.int rt1, .int rv1, .int rz1, .ref rn1])), (rn1, .inl (rc1, 60, .inr (.inl rN1))), (r2, .inr (5, [.int rt2, .int rv2, .int rz2, .ref rn2])), (rn2, .inl (rc2, 60, .inr (.inl rN2))), (r3, .inr (5, [.int rt3, .int rv3, .int rz3, .ref rn3])), (rn3, .inl (rc3, 60, .inr (.inl rN3))), (r0, .inr (5, [.int 1, .int p1, .int p2, .ref rn0])), (rn0, .inl (rc0, 60, .inr (.inl RN2_11)))] H := hP
              have hD : va_D A [(h0, .inr (6, [.ref tp, .int ts, .int fn, .int fp, .ref rd, .ref gd, .ref im, .ref rw, .ref gn, .ref ho, .ref sq])), (rw, .inl (krw, 4, .inr (.inr (.inr (.inr fr))))), (r1, .inr (5, [.int rt1, .int rv1, .int rz1, .ref rn1])), (rn1, .inl (rc1, 60, .inr (.inl rN1))), (r2, .inr (5, [.int rt2, .int rv2, .int rz2, .ref rn2])), (rn2, .inl (rc2, 60, .inr (.inl rN2))), (r3, .inr (5, [.int rt3, .int rv3, .int rz3, .ref rn3])), (rn3, .inl (rc3, 60, .inr (.inl rN3))), (r0, .inr (5, [.int 1, .int p1, .int p2, .ref rn0])), (rn0, .inl (rc0, 60, .inr (.inl RN2_11)))] := hD
              refine lv_iconst (v := 0) hx hb dX6_row_43 (by decide) ?_
              have hP9 := hP.sub (ws' := [(h0, .inr (6, [.ref tp, .int ts, .int fn, .int fp, .ref rd, .ref gd, .ref im, .ref rw, .ref gn, .ref ho, .ref sq])), (rw, .inl (krw, 4, .inr (.inr (.inr (.inr fr))))), (r0, .inr (5, [.int 1, .int p1, .int p2, .ref rn0])), (rn0, .inl (rc0, 60, .inr (.inl RN2_11))), (r1, .inr (5, [.int rt1, .int rv1, .int rz1, .ref rn1])), (rn1, .inl (rc1, 60, .inr (.inl rN1))), (r2, .inr (5, [.int rt2, .int rv2, .int rz2, .ref rn2])), (rn2, .inl (rc2, 60, .inr (.inl rN2))), (r3, .inr (5, [.int rt3, .int rv3, .int rz3, .ref rn3])), (rn3, .inl (rc3, 60, .inr (.inl rN3)))]) [0, 1, 8, 9, 2, 3, 4, 5, 6, 7] rfl
              have hD9 := hD.sub (ws' := [(h0, .inr (6, [.ref tp, .int ts, .int fn, .int fp, .ref rd, .ref gd, .ref im, .ref rw, .ref gn, .ref ho, .ref sq])), (rw, .inl (krw, 4, .inr (.inr (.inr (.inr fr))))), (r0, .inr (5, [.int 1, .int p1, .int p2, .ref rn0])), (rn0, .inl (rc0, 60, .inr (.inl RN2_11))), (r1, .inr (5, [.int rt1, .int rv1, .int rz1, .ref rn1])), (rn1, .inl (rc1, 60, .inr (.inl rN1))), (r2, .inr (5, [.int rt2, .int rv2, .int rz2, .ref rn2])), (rn2, .inl (rc2, 60, .inr (.inl rN2))), (r3, .inr (5, [.int rt3, .int rv3, .int rz3, .ref rn3])), (rn3, .inl (rc3, 60, .inr (.inl rN3)))]) [0, 1, 8, 9, 2, 3, 4, 5, 6, 7] (by decide) rfl
              have hK9 := hK.sub (tys' := []) [] rfl
              refine W.widen (k := 0) (n := 0) (by omega) (by omega) ?_
              exact W.iret (v := 0) hx hb hr (fun t ht hW => ⟨⟨0, ((1 : Int32), p1, p2, RN2_11, rt1, rv1, rz1, rN1, rt2, rv2, rz2, rN2, rt3, rv3, rz3, rN3), rfl, ⟨(by first | rfl | ((repeat' split) <;> (first | rfl | (exfalso; omega)))), (by first | exact h_rz0 | (dsimp only; omega)), (by first | exact h_rz1 | (dsimp only; omega)), (by first | exact h_rz2 | (dsimp only; omega)), (by first | exact h_rz3 | (dsimp only; omega)), (by have j0 : (0 : Int32).toInt = 0 := (by decide); have j1 : (1 : Int32).toInt = 1 := (by decide); have j2 : (2 : Int32).toInt = 2 := (by decide); have j3 : (3 : Int32).toInt = 3 := (by decide); first | exact Or.inr ⟨by omega, rfl, rfl, rfl⟩ | exact Or.inl ⟨⟨by omega, by omega, by omega, by omega, by omega⟩, rfl, rfl, rfl⟩), (by have j0 : (0 : Int32).toInt = 0 := (by decide); have j1 : (1 : Int32).toInt = 1 := (by decide); have j2 : (2 : Int32).toInt = 2 := (by decide); have j3 : (3 : Int32).toInt = 3 := (by decide); first | exact Or.inr ⟨by omega, rfl, rfl, rfl⟩ | exact Or.inl ⟨⟨by omega, by omega, by omega, by omega, by omega⟩, rfl, rfl, rfl⟩), (by have j0 : (0 : Int32).toInt = 0 := (by decide); have j1 : (1 : Int32).toInt = 1 := (by decide); have j2 : (2 : Int32).toInt = 2 := (by decide); have j3 : (3 : Int32).toInt = 3 := (by decide); first | exact Or.inr ⟨by omega, rfl, rfl, rfl⟩ | exact Or.inl ⟨⟨by omega, by omega, by omega, by omega, by omega⟩, rfl, rfl, rfl⟩), (by have j0 : (0 : Int32).toInt = 0 := (by decide); have j1 : (1 : Int32).toInt = 1 := (by decide); have j2 : (2 : Int32).toInt = 2 := (by decide); have j3 : (3 : Int32).toInt = 3 := (by decide); first | exact Or.inr ⟨by omega, rfl, rfl, rfl⟩ | exact Or.inl ⟨⟨by omega, by omega, by omega, by omega, by omega⟩, rfl, rfl, rfl⟩)⟩, by rw [ht]; exact hP9, va_K.moved hW.alike hK9, hD9⟩, hS.F ht⟩) hS.2.2 dX6_row_44
            · have hP := hPy_9
              have hD := hDy_9
              have hS := hSy_9
              have hl := hly_9
              have hK := hKy_9
              refine lv_aload_n hx hb dX6_row_32 rfl (lv_at hl 0 rfl) ?_
              refine va_get (D := (dC, dI)) (ci := 6) (v := .ref rw) (C := RX6) (T := TX6) (N := 11) hx hb hts in_X6_row_X6 hown hK hP 0 rfl rfl 7 (by decide) (hts _ wd_X6_row_0) (fun _ h9 => h9) rfl dX6_row_33 ?_
              refine lv_iload_n hx hb dX6_row_36 rfl (lv_at hl 1 rfl) ?_
              refine va_aldq (i := 1) hx hb hK hP 1 0 rfl rfl (vp_in_iff.mpr ⟨by decide, by decide⟩) dX6_row_37 ?_
              refine W.eq (g2 := F0 m 38 ls (.ref r1 :: [])) (by rw [show fr (1 : Int32).toNatClampNeg = some r1 from hf1]; rfl) ?_
              refine lv_iload_n hx hb dX6_row_38 rfl (lv_at hl 2 rfl) ?_
              refine lv_iload_n hx hb dX6_row_39 rfl (lv_at hl 3 rfl) ?_
              have hPc := hP.sub (ws' := [(r1, .inr (5, [.int rt1, .int rv1, .int rz1, .ref rn1])), (rn1, .inl (rc1, 60, .inr (.inl rN1)))]) [4, 5] rfl
              have hDc := hD.sub (ws' := [(r1, .inr (5, [.int rt1, .int rv1, .int rz1, .ref rn1])), (rn1, .inl (rc1, 60, .inr (.inl rN1)))]) [4, 5] (by decide) rfl
              have hKc := hK.sub (tys' := [(rc1, .long)]) [2] rfl
              have hFc := va_free (wc := [(r1, .inr (5, [.int rt1, .int rv1, .int rz1, .ref rn1])), (rn1, .inl (rc1, 60, .inr (.inl rN1)))]) hD hS hA [4, 5] rfl
              refine va_callv (va_runV (As := [.int p1, .int p2]) (rest := []) ⟨hx, hb, hml, hown, hts⟩ (c_X5_begin l dC dI H.size r1 rt1 rv1 rz1 rn1 rc1 rN1 p1 p2 ) (cwV 2 hts g_X6_row_X5_begin rfl rfl rfl (by decide +kernel) ⟨Nat.le_of_ble_eq_true rfl, Nat.le_of_ble_eq_true rfl⟩) ⟨fun a U g mk q => by obtain ⟨q0, q1, qP, qK, qD⟩ := q; exact ⟨q0, q1, qP, va_K.moved (u := U) (U := U.calling g mk a) (Vm.Alike.refl U.vm) qK, qD⟩, va_recv hKc hPc (ci := 5) (q0 := 0) rfl rfl, fun U hU hW => ⟨rfl, by rw [hU], by rw [hU]; exact hPc, va_K.moved hW.alike hKc, hDc.weaken (fun _ _ _ _ => trivial)⟩⟩ rfl rfl hl.1 rfl (lv_room (Nat.le_of_ble_eq_true rfl)) dX6_row_40 ⟨Nat.le_of_ble_eq_true rfl, Nat.le_of_ble_eq_true rfl⟩) hS (fun q _ h => hFc q h) hFc (fun u t H1 locs ht hvm hw_12 hB hz1 hk1 hS => ?_)
              obtain ⟨RN2_13, rfl⟩ : ∃ z, z = u := ⟨_, rfl⟩
              obtain ⟨hP1, hK1, hD1⟩ := hB
              have hP1 : va_P (dC, dI) vwCl [(r1, .inr (5, [.int 1, .int p1, .int p2, .ref rn1])), (rn1, .inl (rc1, 60, .inr (.inl RN2_13)))] t.heap := hP1
              rw [ht] at hP1
              try dsimp only at hw_12
              obtain ⟨hP, hD⟩ := va_join (wr := [(h0, .inr (6, [.ref tp, .int ts, .int fn, .int fp, .ref rd, .ref gd, .ref im, .ref rw, .ref gn, .ref ho, .ref sq])), (rw, .inl (krw, 4, .inr (.inr (.inr (.inr fr))))), (r0, .inr (5, [.int rt0, .int rv0, .int rz0, .ref rn0])), (rn0, .inl (rc0, 60, .inr (.inl rN0))), (r2, .inr (5, [.int rt2, .int rv2, .int rz2, .ref rn2])), (rn2, .inl (rc2, 60, .inr (.inl rN2))), (r3, .inr (5, [.int rt3, .int rv3, .int rz3, .ref rn3])), (rn3, .inl (rc3, 60, .inr (.inl rN3)))]) (w1 := [(r1, .inr (5, [.int 1, .int p1, .int p2, .ref rn1])), (rn1, .inl (rc1, 60, .inr (.inl RN2_13)))]) hP hD [4, 5] [0, 1, 2, 3, 6, 7, 8, 9] rfl rfl (by decide) (by decide) hk1 hFc hP1 hD1
              generalize H1 = H at hP hS ⊢
              have hP : va_P (dC, dI) vwCl [(h0, .inr (6, [.ref tp, .int ts, .int fn, .int fp, .ref rd, .ref gd, .ref im, .ref rw, .ref gn, .ref ho, .ref sq])), (rw, .inl (krw, 4, .inr (.inr (.inr (.inr fr))))), (r0, .inr (5, [.int rt0, .int rv0, .int rz0, .ref rn0])), (rn0, .inl (rc0, 60, .inr (.inl rN0))), (r2, .inr (5, [.int rt2, .int rv2, .int rz2, .ref rn2])), (rn2, .inl (rc2, 60, .inr (.inl rN2))), (r3, .inr (5, [.int rt3, .int rv3, .int rz3, .ref rn3])), (rn3, .inl (rc3, 60, .inr (.inl rN3))), (r1, .inr (5, [.int 1, .int p1, .int p2, .ref rn1])), (rn1, .inl (rc1, 60, .inr (.inl RN2_13)))] H := hP
              have hD : va_D A [(h0, .inr (6, [.ref tp, .int ts, .int fn, .int fp, .ref rd, .ref gd, .ref im, .ref rw, .ref gn, .ref ho, .ref sq])), (rw, .inl (krw, 4, .inr (.inr (.inr (.inr fr))))), (r0, .inr (5, [.int rt0, .int rv0, .int rz0, .ref rn0])), (rn0, .inl (rc0, 60, .inr (.inl rN0))), (r2, .inr (5, [.int rt2, .int rv2, .int rz2, .ref rn2])), (rn2, .inl (rc2, 60, .inr (.inl rN2))), (r3, .inr (5, [.int rt3, .int rv3, .int rz3, .ref rn3])), (rn3, .inl (rc3, 60, .inr (.inl rN3))), (r1, .inr (5, [.int 1, .int p1, .int p2, .ref rn1])), (rn1, .inl (rc1, 60, .inr (.inl RN2_13)))] := hD
              refine lv_iconst (v := 0) hx hb dX6_row_43 (by decide) ?_
              have hP9 := hP.sub (ws' := [(h0, .inr (6, [.ref tp, .int ts, .int fn, .int fp, .ref rd, .ref gd, .ref im, .ref rw, .ref gn, .ref ho, .ref sq])), (rw, .inl (krw, 4, .inr (.inr (.inr (.inr fr))))), (r0, .inr (5, [.int rt0, .int rv0, .int rz0, .ref rn0])), (rn0, .inl (rc0, 60, .inr (.inl rN0))), (r1, .inr (5, [.int 1, .int p1, .int p2, .ref rn1])), (rn1, .inl (rc1, 60, .inr (.inl RN2_13))), (r2, .inr (5, [.int rt2, .int rv2, .int rz2, .ref rn2])), (rn2, .inl (rc2, 60, .inr (.inl rN2))), (r3, .inr (5, [.int rt3, .int rv3, .int rz3, .ref rn3])), (rn3, .inl (rc3, 60, .inr (.inl rN3)))]) [0, 1, 2, 3, 8, 9, 4, 5, 6, 7] rfl
              have hD9 := hD.sub (ws' := [(h0, .inr (6, [.ref tp, .int ts, .int fn, .int fp, .ref rd, .ref gd, .ref im, .ref rw, .ref gn, .ref ho, .ref sq])), (rw, .inl (krw, 4, .inr (.inr (.inr (.inr fr))))), (r0, .inr (5, [.int rt0, .int rv0, .int rz0, .ref rn0])), (rn0, .inl (rc0, 60, .inr (.inl rN0))), (r1, .inr (5, [.int 1, .int p1, .int p2, .ref rn1])), (rn1, .inl (rc1, 60, .inr (.inl RN2_13))), (r2, .inr (5, [.int rt2, .int rv2, .int rz2, .ref rn2])), (rn2, .inl (rc2, 60, .inr (.inl rN2))), (r3, .inr (5, [.int rt3, .int rv3, .int rz3, .ref rn3])), (rn3, .inl (rc3, 60, .inr (.inl rN3)))]) [0, 1, 2, 3, 8, 9, 4, 5, 6, 7] (by decide) rfl
              have hK9 := hK.sub (tys' := []) [] rfl
              refine W.widen (k := 0) (n := 0) (by omega) (by omega) ?_
              exact W.iret (v := 0) hx hb hr (fun t ht hW => ⟨⟨0, (rt0, rv0, rz0, rN0, (1 : Int32), p1, p2, RN2_13, rt2, rv2, rz2, rN2, rt3, rv3, rz3, rN3), rfl, ⟨(by first | rfl | ((repeat' split) <;> (first | rfl | (exfalso; omega)))), (by first | exact h_rz0 | (dsimp only; omega)), (by first | exact h_rz1 | (dsimp only; omega)), (by first | exact h_rz2 | (dsimp only; omega)), (by first | exact h_rz3 | (dsimp only; omega)), (by have j0 : (0 : Int32).toInt = 0 := (by decide); have j1 : (1 : Int32).toInt = 1 := (by decide); have j2 : (2 : Int32).toInt = 2 := (by decide); have j3 : (3 : Int32).toInt = 3 := (by decide); first | exact Or.inr ⟨by omega, rfl, rfl, rfl⟩ | exact Or.inl ⟨⟨by omega, by omega, by omega, by omega, by omega⟩, rfl, rfl, rfl⟩), (by have j0 : (0 : Int32).toInt = 0 := (by decide); have j1 : (1 : Int32).toInt = 1 := (by decide); have j2 : (2 : Int32).toInt = 2 := (by decide); have j3 : (3 : Int32).toInt = 3 := (by decide); first | exact Or.inr ⟨by omega, rfl, rfl, rfl⟩ | exact Or.inl ⟨⟨by omega, by omega, by omega, by omega, by omega⟩, rfl, rfl, rfl⟩), (by have j0 : (0 : Int32).toInt = 0 := (by decide); have j1 : (1 : Int32).toInt = 1 := (by decide); have j2 : (2 : Int32).toInt = 2 := (by decide); have j3 : (3 : Int32).toInt = 3 := (by decide); first | exact Or.inr ⟨by omega, rfl, rfl, rfl⟩ | exact Or.inl ⟨⟨by omega, by omega, by omega, by omega, by omega⟩, rfl, rfl, rfl⟩), (by have j0 : (0 : Int32).toInt = 0 := (by decide); have j1 : (1 : Int32).toInt = 1 := (by decide); have j2 : (2 : Int32).toInt = 2 := (by decide); have j3 : (3 : Int32).toInt = 3 := (by decide); first | exact Or.inr ⟨by omega, rfl, rfl, rfl⟩ | exact Or.inl ⟨⟨by omega, by omega, by omega, by omega, by omega⟩, rfl, rfl, rfl⟩)⟩, by rw [ht]; exact hP9, va_K.moved hW.alike hK9, hD9⟩, hS.F ht⟩) hS.2.2 dX6_row_44
            · have hP := hPy_9
              have hD := hDy_9
              have hS := hSy_9
              have hl := hly_9
              have hK := hKy_9
              refine lv_aload_n hx hb dX6_row_32 rfl (lv_at hl 0 rfl) ?_
              refine va_get (D := (dC, dI)) (ci := 6) (v := .ref rw) (C := RX6) (T := TX6) (N := 11) hx hb hts in_X6_row_X6 hown hK hP 0 rfl rfl 7 (by decide) (hts _ wd_X6_row_0) (fun _ h9 => h9) rfl dX6_row_33 ?_
              refine lv_iload_n hx hb dX6_row_36 rfl (lv_at hl 1 rfl) ?_
              refine va_aldq (i := 2) hx hb hK hP 1 0 rfl rfl (vp_in_iff.mpr ⟨by decide, by decide⟩) dX6_row_37 ?_
              refine W.eq (g2 := F0 m 38 ls (.ref r2 :: [])) (by rw [show fr (2 : Int32).toNatClampNeg = some r2 from hf2]; rfl) ?_
              refine lv_iload_n hx hb dX6_row_38 rfl (lv_at hl 2 rfl) ?_
              refine lv_iload_n hx hb dX6_row_39 rfl (lv_at hl 3 rfl) ?_
              have hPc := hP.sub (ws' := [(r2, .inr (5, [.int rt2, .int rv2, .int rz2, .ref rn2])), (rn2, .inl (rc2, 60, .inr (.inl rN2)))]) [6, 7] rfl
              have hDc := hD.sub (ws' := [(r2, .inr (5, [.int rt2, .int rv2, .int rz2, .ref rn2])), (rn2, .inl (rc2, 60, .inr (.inl rN2)))]) [6, 7] (by decide) rfl
              have hKc := hK.sub (tys' := [(rc2, .long)]) [3] rfl
              have hFc := va_free (wc := [(r2, .inr (5, [.int rt2, .int rv2, .int rz2, .ref rn2])), (rn2, .inl (rc2, 60, .inr (.inl rN2)))]) hD hS hA [6, 7] rfl
              refine va_callv (va_runV (As := [.int p1, .int p2]) (rest := []) ⟨hx, hb, hml, hown, hts⟩ (c_X5_begin l dC dI H.size r2 rt2 rv2 rz2 rn2 rc2 rN2 p1 p2 ) (cwV 2 hts g_X6_row_X5_begin rfl rfl rfl (by decide +kernel) ⟨Nat.le_of_ble_eq_true rfl, Nat.le_of_ble_eq_true rfl⟩) ⟨fun a U g mk q => by obtain ⟨q0, q1, qP, qK, qD⟩ := q; exact ⟨q0, q1, qP, va_K.moved (u := U) (U := U.calling g mk a) (Vm.Alike.refl U.vm) qK, qD⟩, va_recv hKc hPc (ci := 5) (q0 := 0) rfl rfl, fun U hU hW => ⟨rfl, by rw [hU], by rw [hU]; exact hPc, va_K.moved hW.alike hKc, hDc.weaken (fun _ _ _ _ => trivial)⟩⟩ rfl rfl hl.1 rfl (lv_room (Nat.le_of_ble_eq_true rfl)) dX6_row_40 ⟨Nat.le_of_ble_eq_true rfl, Nat.le_of_ble_eq_true rfl⟩) hS (fun q _ h => hFc q h) hFc (fun u t H1 locs ht hvm hw_14 hB hz1 hk1 hS => ?_)
              obtain ⟨RN2_15, rfl⟩ : ∃ z, z = u := ⟨_, rfl⟩
              obtain ⟨hP1, hK1, hD1⟩ := hB
              have hP1 : va_P (dC, dI) vwCl [(r2, .inr (5, [.int 1, .int p1, .int p2, .ref rn2])), (rn2, .inl (rc2, 60, .inr (.inl RN2_15)))] t.heap := hP1
              rw [ht] at hP1
              try dsimp only at hw_14
              obtain ⟨hP, hD⟩ := va_join (wr := [(h0, .inr (6, [.ref tp, .int ts, .int fn, .int fp, .ref rd, .ref gd, .ref im, .ref rw, .ref gn, .ref ho, .ref sq])), (rw, .inl (krw, 4, .inr (.inr (.inr (.inr fr))))), (r0, .inr (5, [.int rt0, .int rv0, .int rz0, .ref rn0])), (rn0, .inl (rc0, 60, .inr (.inl rN0))), (r1, .inr (5, [.int rt1, .int rv1, .int rz1, .ref rn1])), (rn1, .inl (rc1, 60, .inr (.inl rN1))), (r3, .inr (5, [.int rt3, .int rv3, .int rz3, .ref rn3])), (rn3, .inl (rc3, 60, .inr (.inl rN3)))]) (w1 := [(r2, .inr (5, [.int 1, .int p1, .int p2, .ref rn2])), (rn2, .inl (rc2, 60, .inr (.inl RN2_15)))]) hP hD [6, 7] [0, 1, 2, 3, 4, 5, 8, 9] rfl rfl (by decide) (by decide) hk1 hFc hP1 hD1
              generalize H1 = H at hP hS ⊢
              have hP : va_P (dC, dI) vwCl [(h0, .inr (6, [.ref tp, .int ts, .int fn, .int fp, .ref rd, .ref gd, .ref im, .ref rw, .ref gn, .ref ho, .ref sq])), (rw, .inl (krw, 4, .inr (.inr (.inr (.inr fr))))), (r0, .inr (5, [.int rt0, .int rv0, .int rz0, .ref rn0])), (rn0, .inl (rc0, 60, .inr (.inl rN0))), (r1, .inr (5, [.int rt1, .int rv1, .int rz1, .ref rn1])), (rn1, .inl (rc1, 60, .inr (.inl rN1))), (r3, .inr (5, [.int rt3, .int rv3, .int rz3, .ref rn3])), (rn3, .inl (rc3, 60, .inr (.inl rN3))), (r2, .inr (5, [.int 1, .int p1, .int p2, .ref rn2])), (rn2, .inl (rc2, 60, .inr (.inl RN2_15)))] H := hP
              have hD : va_D A [(h0, .inr (6, [.ref tp, .int ts, .int fn, .int fp, .ref rd, .ref gd, .ref im, .ref rw, .ref gn, .ref ho, .ref sq])), (rw, .inl (krw, 4, .inr (.inr (.inr (.inr fr))))), (r0, .inr (5, [.int rt0, .int rv0, .int rz0, .ref rn0])), (rn0, .inl (rc0, 60, .inr (.inl rN0))), (r1, .inr (5, [.int rt1, .int rv1, .int rz1, .ref rn1])), (rn1, .inl (rc1, 60, .inr (.inl rN1))), (r3, .inr (5, [.int rt3, .int rv3, .int rz3, .ref rn3])), (rn3, .inl (rc3, 60, .inr (.inl rN3))), (r2, .inr (5, [.int 1, .int p1, .int p2, .ref rn2])), (rn2, .inl (rc2, 60, .inr (.inl RN2_15)))] := hD
              refine lv_iconst (v := 0) hx hb dX6_row_43 (by decide) ?_
              have hP9 := hP.sub (ws' := [(h0, .inr (6, [.ref tp, .int ts, .int fn, .int fp, .ref rd, .ref gd, .ref im, .ref rw, .ref gn, .ref ho, .ref sq])), (rw, .inl (krw, 4, .inr (.inr (.inr (.inr fr))))), (r0, .inr (5, [.int rt0, .int rv0, .int rz0, .ref rn0])), (rn0, .inl (rc0, 60, .inr (.inl rN0))), (r1, .inr (5, [.int rt1, .int rv1, .int rz1, .ref rn1])), (rn1, .inl (rc1, 60, .inr (.inl rN1))), (r2, .inr (5, [.int 1, .int p1, .int p2, .ref rn2])), (rn2, .inl (rc2, 60, .inr (.inl RN2_15))), (r3, .inr (5, [.int rt3, .int rv3, .int rz3, .ref rn3])), (rn3, .inl (rc3, 60, .inr (.inl rN3)))]) [0, 1, 2, 3, 4, 5, 8, 9, 6, 7] rfl
              have hD9 := hD.sub (ws' := [(h0, .inr (6, [.ref tp, .int ts, .int fn, .int fp, .ref rd, .ref gd, .ref im, .ref rw, .ref gn, .ref ho, .ref sq])), (rw, .inl (krw, 4, .inr (.inr (.inr (.inr fr))))), (r0, .inr (5, [.int rt0, .int rv0, .int rz0, .ref rn0])), (rn0, .inl (rc0, 60, .inr (.inl rN0))), (r1, .inr (5, [.int rt1, .int rv1, .int rz1, .ref rn1])), (rn1, .inl (rc1, 60, .inr (.inl rN1))), (r2, .inr (5, [.int 1, .int p1, .int p2, .ref rn2])), (rn2, .inl (rc2, 60, .inr (.inl RN2_15))), (r3, .inr (5, [.int rt3, .int rv3, .int rz3, .ref rn3])), (rn3, .inl (rc3, 60, .inr (.inl rN3)))]) [0, 1, 2, 3, 4, 5, 8, 9, 6, 7] (by decide) rfl
              have hK9 := hK.sub (tys' := []) [] rfl
              refine W.widen (k := 0) (n := 0) (by omega) (by omega) ?_
              exact W.iret (v := 0) hx hb hr (fun t ht hW => ⟨⟨0, (rt0, rv0, rz0, rN0, rt1, rv1, rz1, rN1, (1 : Int32), p1, p2, RN2_15, rt3, rv3, rz3, rN3), rfl, ⟨(by first | rfl | ((repeat' split) <;> (first | rfl | (exfalso; omega)))), (by first | exact h_rz0 | (dsimp only; omega)), (by first | exact h_rz1 | (dsimp only; omega)), (by first | exact h_rz2 | (dsimp only; omega)), (by first | exact h_rz3 | (dsimp only; omega)), (by have j0 : (0 : Int32).toInt = 0 := (by decide); have j1 : (1 : Int32).toInt = 1 := (by decide); have j2 : (2 : Int32).toInt = 2 := (by decide); have j3 : (3 : Int32).toInt = 3 := (by decide); first | exact Or.inr ⟨by omega, rfl, rfl, rfl⟩ | exact Or.inl ⟨⟨by omega, by omega, by omega, by omega, by omega⟩, rfl, rfl, rfl⟩), (by have j0 : (0 : Int32).toInt = 0 := (by decide); have j1 : (1 : Int32).toInt = 1 := (by decide); have j2 : (2 : Int32).toInt = 2 := (by decide); have j3 : (3 : Int32).toInt = 3 := (by decide); first | exact Or.inr ⟨by omega, rfl, rfl, rfl⟩ | exact Or.inl ⟨⟨by omega, by omega, by omega, by omega, by omega⟩, rfl, rfl, rfl⟩), (by have j0 : (0 : Int32).toInt = 0 := (by decide); have j1 : (1 : Int32).toInt = 1 := (by decide); have j2 : (2 : Int32).toInt = 2 := (by decide); have j3 : (3 : Int32).toInt = 3 := (by decide); first | exact Or.inr ⟨by omega, rfl, rfl, rfl⟩ | exact Or.inl ⟨⟨by omega, by omega, by omega, by omega, by omega⟩, rfl, rfl, rfl⟩), (by have j0 : (0 : Int32).toInt = 0 := (by decide); have j1 : (1 : Int32).toInt = 1 := (by decide); have j2 : (2 : Int32).toInt = 2 := (by decide); have j3 : (3 : Int32).toInt = 3 := (by decide); first | exact Or.inr ⟨by omega, rfl, rfl, rfl⟩ | exact Or.inl ⟨⟨by omega, by omega, by omega, by omega, by omega⟩, rfl, rfl, rfl⟩)⟩, by rw [ht]; exact hP9, va_K.moved hW.alike hK9, hD9⟩, hS.F ht⟩) hS.2.2 dX6_row_44
            · have hP := hPy_9
              have hD := hDy_9
              have hS := hSy_9
              have hl := hly_9
              have hK := hKy_9
              refine lv_aload_n hx hb dX6_row_32 rfl (lv_at hl 0 rfl) ?_
              refine va_get (D := (dC, dI)) (ci := 6) (v := .ref rw) (C := RX6) (T := TX6) (N := 11) hx hb hts in_X6_row_X6 hown hK hP 0 rfl rfl 7 (by decide) (hts _ wd_X6_row_0) (fun _ h9 => h9) rfl dX6_row_33 ?_
              refine lv_iload_n hx hb dX6_row_36 rfl (lv_at hl 1 rfl) ?_
              refine va_aldq (i := 3) hx hb hK hP 1 0 rfl rfl (vp_in_iff.mpr ⟨by decide, by decide⟩) dX6_row_37 ?_
              refine W.eq (g2 := F0 m 38 ls (.ref r3 :: [])) (by rw [show fr (3 : Int32).toNatClampNeg = some r3 from hf3]; rfl) ?_
              refine lv_iload_n hx hb dX6_row_38 rfl (lv_at hl 2 rfl) ?_
              refine lv_iload_n hx hb dX6_row_39 rfl (lv_at hl 3 rfl) ?_
              have hPc := hP.sub (ws' := [(r3, .inr (5, [.int rt3, .int rv3, .int rz3, .ref rn3])), (rn3, .inl (rc3, 60, .inr (.inl rN3)))]) [8, 9] rfl
              have hDc := hD.sub (ws' := [(r3, .inr (5, [.int rt3, .int rv3, .int rz3, .ref rn3])), (rn3, .inl (rc3, 60, .inr (.inl rN3)))]) [8, 9] (by decide) rfl
              have hKc := hK.sub (tys' := [(rc3, .long)]) [4] rfl
              have hFc := va_free (wc := [(r3, .inr (5, [.int rt3, .int rv3, .int rz3, .ref rn3])), (rn3, .inl (rc3, 60, .inr (.inl rN3)))]) hD hS hA [8, 9] rfl
              refine va_callv (va_runV (As := [.int p1, .int p2]) (rest := []) ⟨hx, hb, hml, hown, hts⟩ (c_X5_begin l dC dI H.size r3 rt3 rv3 rz3 rn3 rc3 rN3 p1 p2 ) (cwV 2 hts g_X6_row_X5_begin rfl rfl rfl (by decide +kernel) ⟨Nat.le_of_ble_eq_true rfl, Nat.le_of_ble_eq_true rfl⟩) ⟨fun a U g mk q => by obtain ⟨q0, q1, qP, qK, qD⟩ := q; exact ⟨q0, q1, qP, va_K.moved (u := U) (U := U.calling g mk a) (Vm.Alike.refl U.vm) qK, qD⟩, va_recv hKc hPc (ci := 5) (q0 := 0) rfl rfl, fun U hU hW => ⟨rfl, by rw [hU], by rw [hU]; exact hPc, va_K.moved hW.alike hKc, hDc.weaken (fun _ _ _ _ => trivial)⟩⟩ rfl rfl hl.1 rfl (lv_room (Nat.le_of_ble_eq_true rfl)) dX6_row_40 ⟨Nat.le_of_ble_eq_true rfl, Nat.le_of_ble_eq_true rfl⟩) hS (fun q _ h => hFc q h) hFc (fun u t H1 locs ht hvm hw_16 hB hz1 hk1 hS => ?_)
              obtain ⟨RN2_17, rfl⟩ : ∃ z, z = u := ⟨_, rfl⟩
              obtain ⟨hP1, hK1, hD1⟩ := hB
              have hP1 : va_P (dC, dI) vwCl [(r3, .inr (5, [.int 1, .int p1, .int p2, .ref rn3])), (rn3, .inl (rc3, 60, .inr (.inl RN2_17)))] t.heap := hP1
              rw [ht] at hP1
              try dsimp only at hw_16
              obtain ⟨hP, hD⟩ := va_join (wr := [(h0, .inr (6, [.ref tp, .int ts, .int fn, .int fp, .ref rd, .ref gd, .ref im, .ref rw, .ref gn, .ref ho, .ref sq])), (rw, .inl (krw, 4, .inr (.inr (.inr (.inr fr))))), (r0, .inr (5, [.int rt0, .int rv0, .int rz0, .ref rn0])), (rn0, .inl (rc0, 60, .inr (.inl rN0))), (r1, .inr (5, [.int rt1, .int rv1, .int rz1, .ref rn1])), (rn1, .inl (rc1, 60, .inr (.inl rN1))), (r2, .inr (5, [.int rt2, .int rv2, .int rz2, .ref rn2])), (rn2, .inl (rc2, 60, .inr (.inl rN2)))]) (w1 := [(r3, .inr (5, [.int 1, .int p1, .int p2, .ref rn3])), (rn3, .inl (rc3, 60, .inr (.inl RN2_17)))]) hP hD [8, 9] [0, 1, 2, 3, 4, 5, 6, 7] rfl rfl (by decide) (by decide) hk1 hFc hP1 hD1
              generalize H1 = H at hP hS ⊢
              have hP : va_P (dC, dI) vwCl [(h0, .inr (6, [.ref tp, .int ts, .int fn, .int fp, .ref rd, .ref gd, .ref im, .ref rw, .ref gn, .ref ho, .ref sq])), (rw, .inl (krw, 4, .inr (.inr (.inr (.inr fr))))), (r0, .inr (5, [.int rt0, .int rv0, .int rz0, .ref rn0])), (rn0, .inl (rc0, 60, .inr (.inl rN0))), (r1, .inr (5, [.int rt1, .int rv1, .int rz1, .ref rn1])), (rn1, .inl (rc1, 60, .inr (.inl rN1))), (r2, .inr (5, [.int rt2, .int rv2, .int rz2, .ref rn2])), (rn2, .inl (rc2, 60, .inr (.inl rN2))), (r3, .inr (5, [.int 1, .int p1, .int p2, .ref rn3])), (rn3, .inl (rc3, 60, .inr (.inl RN2_17)))] H := hP
              have hD : va_D A [(h0, .inr (6, [.ref tp, .int ts, .int fn, .int fp, .ref rd, .ref gd, .ref im, .ref rw, .ref gn, .ref ho, .ref sq])), (rw, .inl (krw, 4, .inr (.inr (.inr (.inr fr))))), (r0, .inr (5, [.int rt0, .int rv0, .int rz0, .ref rn0])), (rn0, .inl (rc0, 60, .inr (.inl rN0))), (r1, .inr (5, [.int rt1, .int rv1, .int rz1, .ref rn1])), (rn1, .inl (rc1, 60, .inr (.inl rN1))), (r2, .inr (5, [.int rt2, .int rv2, .int rz2, .ref rn2])), (rn2, .inl (rc2, 60, .inr (.inl rN2))), (r3, .inr (5, [.int 1, .int p1, .int p2, .ref rn3])), (rn3, .inl (rc3, 60, .inr (.inl RN2_17)))] := hD
              refine lv_iconst (v := 0) hx hb dX6_row_43 (by decide) ?_
              have hP9 := hP.sub (ws' := [(h0, .inr (6, [.ref tp, .int ts, .int fn, .int fp, .ref rd, .ref gd, .ref im, .ref rw, .ref gn, .ref ho, .ref sq])), (rw, .inl (krw, 4, .inr (.inr (.inr (.inr fr))))), (r0, .inr (5, [.int rt0, .int rv0, .int rz0, .ref rn0])), (rn0, .inl (rc0, 60, .inr (.inl rN0))), (r1, .inr (5, [.int rt1, .int rv1, .int rz1, .ref rn1])), (rn1, .inl (rc1, 60, .inr (.inl rN1))), (r2, .inr (5, [.int rt2, .int rv2, .int rz2, .ref rn2])), (rn2, .inl (rc2, 60, .inr (.inl rN2))), (r3, .inr (5, [.int 1, .int p1, .int p2, .ref rn3])), (rn3, .inl (rc3, 60, .inr (.inl RN2_17)))]) [0, 1, 2, 3, 4, 5, 6, 7, 8, 9] rfl
              have hD9 := hD.sub (ws' := [(h0, .inr (6, [.ref tp, .int ts, .int fn, .int fp, .ref rd, .ref gd, .ref im, .ref rw, .ref gn, .ref ho, .ref sq])), (rw, .inl (krw, 4, .inr (.inr (.inr (.inr fr))))), (r0, .inr (5, [.int rt0, .int rv0, .int rz0, .ref rn0])), (rn0, .inl (rc0, 60, .inr (.inl rN0))), (r1, .inr (5, [.int rt1, .int rv1, .int rz1, .ref rn1])), (rn1, .inl (rc1, 60, .inr (.inl rN1))), (r2, .inr (5, [.int rt2, .int rv2, .int rz2, .ref rn2])), (rn2, .inl (rc2, 60, .inr (.inl rN2))), (r3, .inr (5, [.int 1, .int p1, .int p2, .ref rn3])), (rn3, .inl (rc3, 60, .inr (.inl RN2_17)))]) [0, 1, 2, 3, 4, 5, 6, 7, 8, 9] (by decide) rfl
              have hK9 := hK.sub (tys' := []) [] rfl
              refine W.widen (k := 0) (n := 0) (by omega) (by omega) ?_
              exact W.iret (v := 0) hx hb hr (fun t ht hW => ⟨⟨0, (rt0, rv0, rz0, rN0, rt1, rv1, rz1, rN1, rt2, rv2, rz2, rN2, (1 : Int32), p1, p2, RN2_17), rfl, ⟨(by first | rfl | ((repeat' split) <;> (first | rfl | (exfalso; omega)))), (by first | exact h_rz0 | (dsimp only; omega)), (by first | exact h_rz1 | (dsimp only; omega)), (by first | exact h_rz2 | (dsimp only; omega)), (by first | exact h_rz3 | (dsimp only; omega)), (by have j0 : (0 : Int32).toInt = 0 := (by decide); have j1 : (1 : Int32).toInt = 1 := (by decide); have j2 : (2 : Int32).toInt = 2 := (by decide); have j3 : (3 : Int32).toInt = 3 := (by decide); first | exact Or.inr ⟨by omega, rfl, rfl, rfl⟩ | exact Or.inl ⟨⟨by omega, by omega, by omega, by omega, by omega⟩, rfl, rfl, rfl⟩), (by have j0 : (0 : Int32).toInt = 0 := (by decide); have j1 : (1 : Int32).toInt = 1 := (by decide); have j2 : (2 : Int32).toInt = 2 := (by decide); have j3 : (3 : Int32).toInt = 3 := (by decide); first | exact Or.inr ⟨by omega, rfl, rfl, rfl⟩ | exact Or.inl ⟨⟨by omega, by omega, by omega, by omega, by omega⟩, rfl, rfl, rfl⟩), (by have j0 : (0 : Int32).toInt = 0 := (by decide); have j1 : (1 : Int32).toInt = 1 := (by decide); have j2 : (2 : Int32).toInt = 2 := (by decide); have j3 : (3 : Int32).toInt = 3 := (by decide); first | exact Or.inr ⟨by omega, rfl, rfl, rfl⟩ | exact Or.inl ⟨⟨by omega, by omega, by omega, by omega, by omega⟩, rfl, rfl, rfl⟩), (by have j0 : (0 : Int32).toInt = 0 := (by decide); have j1 : (1 : Int32).toInt = 1 := (by decide); have j2 : (2 : Int32).toInt = 2 := (by decide); have j3 : (3 : Int32).toInt = 3 := (by decide); first | exact Or.inr ⟨by omega, rfl, rfl, rfl⟩ | exact Or.inl ⟨⟨by omega, by omega, by omega, by omega, by omega⟩, rfl, rfl, rfl⟩)⟩, by rw [ht]; exact hP9, va_K.moved hW.alike hK9, hD9⟩, hS.F ht⟩) hS.2.2 dX6_row_44
          · have c_8 : p2.toInt < 0 := i_nle (a := 0) (b := p2) (by decide) rfl c_8
            refine lv_bipush (v := -3) hx hb dX6_row_29 (by decide) ?_
            have hP9 := hP.sub (ws' := [(h0, .inr (6, [.ref tp, .int ts, .int fn, .int fp, .ref rd, .ref gd, .ref im, .ref rw, .ref gn, .ref ho, .ref sq])), (rw, .inl (krw, 4, .inr (.inr (.inr (.inr fr))))), (r0, .inr (5, [.int rt0, .int rv0, .int rz0, .ref rn0])), (rn0, .inl (rc0, 60, .inr (.inl rN0))), (r1, .inr (5, [.int rt1, .int rv1, .int rz1, .ref rn1])), (rn1, .inl (rc1, 60, .inr (.inl rN1))), (r2, .inr (5, [.int rt2, .int rv2, .int rz2, .ref rn2])), (rn2, .inl (rc2, 60, .inr (.inl rN2))), (r3, .inr (5, [.int rt3, .int rv3, .int rz3, .ref rn3])), (rn3, .inl (rc3, 60, .inr (.inl rN3)))]) [0, 1, 2, 3, 4, 5, 6, 7, 8, 9] rfl
            have hD9 := hD.sub (ws' := [(h0, .inr (6, [.ref tp, .int ts, .int fn, .int fp, .ref rd, .ref gd, .ref im, .ref rw, .ref gn, .ref ho, .ref sq])), (rw, .inl (krw, 4, .inr (.inr (.inr (.inr fr))))), (r0, .inr (5, [.int rt0, .int rv0, .int rz0, .ref rn0])), (rn0, .inl (rc0, 60, .inr (.inl rN0))), (r1, .inr (5, [.int rt1, .int rv1, .int rz1, .ref rn1])), (rn1, .inl (rc1, 60, .inr (.inl rN1))), (r2, .inr (5, [.int rt2, .int rv2, .int rz2, .ref rn2])), (rn2, .inl (rc2, 60, .inr (.inl rN2))), (r3, .inr (5, [.int rt3, .int rv3, .int rz3, .ref rn3])), (rn3, .inl (rc3, 60, .inr (.inl rN3)))]) [0, 1, 2, 3, 4, 5, 6, 7, 8, 9] (by decide) rfl
            have hK9 := hK.sub (tys' := []) [] rfl
            refine W.widen (k := 0) (n := 0) (by omega) (by omega) ?_
            exact W.iret (v := -3) hx hb hr (fun t ht hW => ⟨⟨(-3), (rt0, rv0, rz0, rN0, rt1, rv1, rz1, rN1, rt2, rv2, rz2, rN2, rt3, rv3, rz3, rN3), rfl, ⟨(by first | rfl | ((repeat' split) <;> (first | rfl | (exfalso; omega)))), (by first | exact h_rz0 | (dsimp only; omega)), (by first | exact h_rz1 | (dsimp only; omega)), (by first | exact h_rz2 | (dsimp only; omega)), (by first | exact h_rz3 | (dsimp only; omega)), (by have j0 : (0 : Int32).toInt = 0 := (by decide); have j1 : (1 : Int32).toInt = 1 := (by decide); have j2 : (2 : Int32).toInt = 2 := (by decide); have j3 : (3 : Int32).toInt = 3 := (by decide); first | exact Or.inr ⟨by omega, rfl, rfl, rfl⟩ | exact Or.inl ⟨⟨by omega, by omega, by omega, by omega, by omega⟩, rfl, rfl, rfl⟩), (by have j0 : (0 : Int32).toInt = 0 := (by decide); have j1 : (1 : Int32).toInt = 1 := (by decide); have j2 : (2 : Int32).toInt = 2 := (by decide); have j3 : (3 : Int32).toInt = 3 := (by decide); first | exact Or.inr ⟨by omega, rfl, rfl, rfl⟩ | exact Or.inl ⟨⟨by omega, by omega, by omega, by omega, by omega⟩, rfl, rfl, rfl⟩), (by have j0 : (0 : Int32).toInt = 0 := (by decide); have j1 : (1 : Int32).toInt = 1 := (by decide); have j2 : (2 : Int32).toInt = 2 := (by decide); have j3 : (3 : Int32).toInt = 3 := (by decide); first | exact Or.inr ⟨by omega, rfl, rfl, rfl⟩ | exact Or.inl ⟨⟨by omega, by omega, by omega, by omega, by omega⟩, rfl, rfl, rfl⟩), (by have j0 : (0 : Int32).toInt = 0 := (by decide); have j1 : (1 : Int32).toInt = 1 := (by decide); have j2 : (2 : Int32).toInt = 2 := (by decide); have j3 : (3 : Int32).toInt = 3 := (by decide); first | exact Or.inr ⟨by omega, rfl, rfl, rfl⟩ | exact Or.inl ⟨⟨by omega, by omega, by omega, by omega, by omega⟩, rfl, rfl, rfl⟩)⟩, by rw [ht]; exact hP9, va_K.moved hW.alike hK9, hD9⟩, hS.F ht⟩) hS.2.2 dX6_row_31
        · have c_7 : 60 < p2.toInt := i_nle (a := p2) (b := 60) rfl (by decide) c_7
          refine lv_bipush (v := -2) hx hb dX6_row_22 (by decide) ?_
          have hP9 := hP.sub (ws' := [(h0, .inr (6, [.ref tp, .int ts, .int fn, .int fp, .ref rd, .ref gd, .ref im, .ref rw, .ref gn, .ref ho, .ref sq])), (rw, .inl (krw, 4, .inr (.inr (.inr (.inr fr))))), (r0, .inr (5, [.int rt0, .int rv0, .int rz0, .ref rn0])), (rn0, .inl (rc0, 60, .inr (.inl rN0))), (r1, .inr (5, [.int rt1, .int rv1, .int rz1, .ref rn1])), (rn1, .inl (rc1, 60, .inr (.inl rN1))), (r2, .inr (5, [.int rt2, .int rv2, .int rz2, .ref rn2])), (rn2, .inl (rc2, 60, .inr (.inl rN2))), (r3, .inr (5, [.int rt3, .int rv3, .int rz3, .ref rn3])), (rn3, .inl (rc3, 60, .inr (.inl rN3)))]) [0, 1, 2, 3, 4, 5, 6, 7, 8, 9] rfl
          have hD9 := hD.sub (ws' := [(h0, .inr (6, [.ref tp, .int ts, .int fn, .int fp, .ref rd, .ref gd, .ref im, .ref rw, .ref gn, .ref ho, .ref sq])), (rw, .inl (krw, 4, .inr (.inr (.inr (.inr fr))))), (r0, .inr (5, [.int rt0, .int rv0, .int rz0, .ref rn0])), (rn0, .inl (rc0, 60, .inr (.inl rN0))), (r1, .inr (5, [.int rt1, .int rv1, .int rz1, .ref rn1])), (rn1, .inl (rc1, 60, .inr (.inl rN1))), (r2, .inr (5, [.int rt2, .int rv2, .int rz2, .ref rn2])), (rn2, .inl (rc2, 60, .inr (.inl rN2))), (r3, .inr (5, [.int rt3, .int rv3, .int rz3, .ref rn3])), (rn3, .inl (rc3, 60, .inr (.inl rN3)))]) [0, 1, 2, 3, 4, 5, 6, 7, 8, 9] (by decide) rfl
          have hK9 := hK.sub (tys' := []) [] rfl
          refine W.widen (k := 0) (n := 0) (by omega) (by omega) ?_
          exact W.iret (v := -2) hx hb hr (fun t ht hW => ⟨⟨(-2), (rt0, rv0, rz0, rN0, rt1, rv1, rz1, rN1, rt2, rv2, rz2, rN2, rt3, rv3, rz3, rN3), rfl, ⟨(by first | rfl | ((repeat' split) <;> (first | rfl | (exfalso; omega)))), (by first | exact h_rz0 | (dsimp only; omega)), (by first | exact h_rz1 | (dsimp only; omega)), (by first | exact h_rz2 | (dsimp only; omega)), (by first | exact h_rz3 | (dsimp only; omega)), (by have j0 : (0 : Int32).toInt = 0 := (by decide); have j1 : (1 : Int32).toInt = 1 := (by decide); have j2 : (2 : Int32).toInt = 2 := (by decide); have j3 : (3 : Int32).toInt = 3 := (by decide); first | exact Or.inr ⟨by omega, rfl, rfl, rfl⟩ | exact Or.inl ⟨⟨by omega, by omega, by omega, by omega, by omega⟩, rfl, rfl, rfl⟩), (by have j0 : (0 : Int32).toInt = 0 := (by decide); have j1 : (1 : Int32).toInt = 1 := (by decide); have j2 : (2 : Int32).toInt = 2 := (by decide); have j3 : (3 : Int32).toInt = 3 := (by decide); first | exact Or.inr ⟨by omega, rfl, rfl, rfl⟩ | exact Or.inl ⟨⟨by omega, by omega, by omega, by omega, by omega⟩, rfl, rfl, rfl⟩), (by have j0 : (0 : Int32).toInt = 0 := (by decide); have j1 : (1 : Int32).toInt = 1 := (by decide); have j2 : (2 : Int32).toInt = 2 := (by decide); have j3 : (3 : Int32).toInt = 3 := (by decide); first | exact Or.inr ⟨by omega, rfl, rfl, rfl⟩ | exact Or.inl ⟨⟨by omega, by omega, by omega, by omega, by omega⟩, rfl, rfl, rfl⟩), (by have j0 : (0 : Int32).toInt = 0 := (by decide); have j1 : (1 : Int32).toInt = 1 := (by decide); have j2 : (2 : Int32).toInt = 2 := (by decide); have j3 : (3 : Int32).toInt = 3 := (by decide); first | exact Or.inr ⟨by omega, rfl, rfl, rfl⟩ | exact Or.inl ⟨⟨by omega, by omega, by omega, by omega, by omega⟩, rfl, rfl, rfl⟩)⟩, by rw [ht]; exact hP9, va_K.moved hW.alike hK9, hD9⟩, hS.F ht⟩) hS.2.2 dX6_row_24
  · obtain rfl : r_1 = 0 := r_19
    have hC_18 := hC
    refine lv_if_eq (tgt := 22) hx hb dX6_row_4 (by decide) (fun _ => ?_) (fun h => absurd (by decide) h)
    refine lv_bipush (v := -2) hx hb dX6_row_22 (by decide) ?_
    have hP9 := hP.sub (ws' := [(h0, .inr (6, [.ref tp, .int ts, .int fn, .int fp, .ref rd, .ref gd, .ref im, .ref rw, .ref gn, .ref ho, .ref sq])), (rw, .inl (krw, 4, .inr (.inr (.inr (.inr fr))))), (r0, .inr (5, [.int rt0, .int rv0, .int rz0, .ref rn0])), (rn0, .inl (rc0, 60, .inr (.inl rN0))), (r1, .inr (5, [.int rt1, .int rv1, .int rz1, .ref rn1])), (rn1, .inl (rc1, 60, .inr (.inl rN1))), (r2, .inr (5, [.int rt2, .int rv2, .int rz2, .ref rn2])), (rn2, .inl (rc2, 60, .inr (.inl rN2))), (r3, .inr (5, [.int rt3, .int rv3, .int rz3, .ref rn3])), (rn3, .inl (rc3, 60, .inr (.inl rN3)))]) [0, 1, 2, 3, 4, 5, 6, 7, 8, 9] rfl
    have hD9 := hD.sub (ws' := [(h0, .inr (6, [.ref tp, .int ts, .int fn, .int fp, .ref rd, .ref gd, .ref im, .ref rw, .ref gn, .ref ho, .ref sq])), (rw, .inl (krw, 4, .inr (.inr (.inr (.inr fr))))), (r0, .inr (5, [.int rt0, .int rv0, .int rz0, .ref rn0])), (rn0, .inl (rc0, 60, .inr (.inl rN0))), (r1, .inr (5, [.int rt1, .int rv1, .int rz1, .ref rn1])), (rn1, .inl (rc1, 60, .inr (.inl rN1))), (r2, .inr (5, [.int rt2, .int rv2, .int rz2, .ref rn2])), (rn2, .inl (rc2, 60, .inr (.inl rN2))), (r3, .inr (5, [.int rt3, .int rv3, .int rz3, .ref rn3])), (rn3, .inl (rc3, 60, .inr (.inl rN3)))]) [0, 1, 2, 3, 4, 5, 6, 7, 8, 9] (by decide) rfl
    have hK9 := hK.sub (tys' := []) [] rfl
    refine W.widen (k := 0) (n := 0) (by omega) (by omega) ?_
    exact W.iret (v := -2) hx hb hr (fun t ht hW => ⟨⟨(-2), (rt0, rv0, rz0, rN0, rt1, rv1, rz1, rN1, rt2, rv2, rz2, rN2, rt3, rv3, rz3, rN3), rfl, ⟨(by first | rfl | ((repeat' split) <;> (first | rfl | (exfalso; omega)))), (by first | exact h_rz0 | (dsimp only; omega)), (by first | exact h_rz1 | (dsimp only; omega)), (by first | exact h_rz2 | (dsimp only; omega)), (by first | exact h_rz3 | (dsimp only; omega)), (by have j0 : (0 : Int32).toInt = 0 := (by decide); have j1 : (1 : Int32).toInt = 1 := (by decide); have j2 : (2 : Int32).toInt = 2 := (by decide); have j3 : (3 : Int32).toInt = 3 := (by decide); first | exact Or.inr ⟨by omega, rfl, rfl, rfl⟩ | exact Or.inl ⟨⟨by omega, by omega, by omega, by omega, by omega⟩, rfl, rfl, rfl⟩), (by have j0 : (0 : Int32).toInt = 0 := (by decide); have j1 : (1 : Int32).toInt = 1 := (by decide); have j2 : (2 : Int32).toInt = 2 := (by decide); have j3 : (3 : Int32).toInt = 3 := (by decide); first | exact Or.inr ⟨by omega, rfl, rfl, rfl⟩ | exact Or.inl ⟨⟨by omega, by omega, by omega, by omega, by omega⟩, rfl, rfl, rfl⟩), (by have j0 : (0 : Int32).toInt = 0 := (by decide); have j1 : (1 : Int32).toInt = 1 := (by decide); have j2 : (2 : Int32).toInt = 2 := (by decide); have j3 : (3 : Int32).toInt = 3 := (by decide); first | exact Or.inr ⟨by omega, rfl, rfl, rfl⟩ | exact Or.inl ⟨⟨by omega, by omega, by omega, by omega, by omega⟩, rfl, rfl, rfl⟩), (by have j0 : (0 : Int32).toInt = 0 := (by decide); have j1 : (1 : Int32).toInt = 1 := (by decide); have j2 : (2 : Int32).toInt = 2 := (by decide); have j3 : (3 : Int32).toInt = 3 := (by decide); first | exact Or.inr ⟨by omega, rfl, rfl, rfl⟩ | exact Or.inl ⟨⟨by omega, by omega, by omega, by omega, by omega⟩, rfl, rfl, rfl⟩)⟩, by rw [ht]; exact hP9, va_K.moved hW.alike hK9, hD9⟩, hS.F ht⟩) hS.2.2 dX6_row_24

theorem dX5_cut_0 : decode cX5_cut 0 = .ok (.aload_n 0, 1) := by decide +kernel
theorem dX5_cut_1 : decode cX5_cut 1 = .ok (.getfield 15, 3) := by decide +kernel
theorem dX5_cut_4 : decode cX5_cut 4 = .ok (.tableswitch 42 0 2 #[28, 33, 38], 28) := by decide +kernel
theorem dX5_cut_32 : decode cX5_cut 32 = .ok (.lload_n 1, 1) := by decide +kernel
theorem dX5_cut_33 : decode cX5_cut 33 = .ok (.l2i, 1) := by decide +kernel
theorem dX5_cut_34 : decode cX5_cut 34 = .ok (.i2b, 1) := by decide +kernel
theorem dX5_cut_35 : decode cX5_cut 35 = .ok (.i2l, 1) := by decide +kernel
theorem dX5_cut_36 : decode cX5_cut 36 = .ok (.lreturn, 1) := by decide +kernel
theorem dX5_cut_37 : decode cX5_cut 37 = .ok (.lload_n 1, 1) := by decide +kernel
theorem dX5_cut_38 : decode cX5_cut 38 = .ok (.l2i, 1) := by decide +kernel
theorem dX5_cut_39 : decode cX5_cut 39 = .ok (.i2s, 1) := by decide +kernel
theorem dX5_cut_40 : decode cX5_cut 40 = .ok (.i2l, 1) := by decide +kernel
theorem dX5_cut_41 : decode cX5_cut 41 = .ok (.lreturn, 1) := by decide +kernel
theorem dX5_cut_42 : decode cX5_cut 42 = .ok (.lload_n 1, 1) := by decide +kernel
theorem dX5_cut_43 : decode cX5_cut 43 = .ok (.l2i, 1) := by decide +kernel
theorem dX5_cut_44 : decode cX5_cut 44 = .ok (.i2l, 1) := by decide +kernel
theorem dX5_cut_45 : decode cX5_cut 45 = .ok (.lreturn, 1) := by decide +kernel
theorem dX5_cut_46 : decode cX5_cut 46 = .ok (.lload_n 1, 1) := by decide +kernel
theorem dX5_cut_47 : decode cX5_cut 47 = .ok (.lreturn, 1) := by decide +kernel
def wz_X5_cut : List Cond := .code yX5_cut cX5_cut 3 (some .long) :: ([Cond.fieldLink RX5 15 "HedgeMaze$Row" "width" "I"] ++ wsX50)
theorem wd_X5_cut_0 : Cond.fieldLink RX5 15 "HedgeMaze$Row" "width" "I" ∈ wz_X5_cut := List.mem_of_getElem? (i := 1) rfl
theorem in_X5_cut_X5 : ∀ w ∈ wsX50, w ∈ wz_X5_cut := fun _ h => List.mem_cons_of_mem _ (List.mem_append_right _ h)
set_option maxHeartbeats 4000000 in
set_option maxRecDepth 100000 in
theorem c_X5_cut (l : Launch) (dC : Nat → ClassId) (dI : Nat → Nat → Nat) (sz : Nat) (ro : Nat) (rt : Int32) (rwd : Int32) (rs : Int32) (rn : Nat) (p0 : Int64)  : Met l yX5_cut wz_X5_cut ({ frames := 0, cells := 0, slots := 0, locals := 0 }) (va_Pc [.ref ro, .long p0] (fun U => U.heap.size = sz ∧ va_P (dC, dI) vwCl [(ro, .inr (5, [.int rt, .int rwd, .int rs, .ref rn]))] U.heap ∧ va_K (dC, dI) vwCl [] U ∧ va_D (fun _ => True) [(ro, .inr (5, [.int rt, .int rwd, .int rs, .ref rn]))])) (va_Ql (fun (r : Int64) (u : Unit) => True) (fun (u : Unit) (t : State) => va_P (dC, dI) vwCl [(ro, .inr (5, [.int rt, .int rwd, .int rs, .ref rn]))] t.heap ∧ va_K (dC, dI) vwCl [] t ∧ va_D (va_A [(ro, .inr (5, [.int rt, .int rwd, .int rs, .ref rn]))] sz) [(ro, .inr (5, [.int rt, .int rwd, .int rs, .ref rn]))]) (va_A [(ro, .inr (5, [.int rt, .int rwd, .int rs, .ref rn]))] sz)) 0 0 (va_A [(ro, .inr (5, [.int rt, .int rwd, .int rs, .ref rn]))] sz) := by
  refine Met.ofW (cc := cX5_cut) (maxL := 3) (ret := (some .long)) (by decide) rfl ?_
  intro p e s m args below meth c s₁ B hml hv
  obtain ⟨rfl, hsz, hP, hK, hD0⟩ := hv
  have hx := B.exec
  have hb := B.bytes
  have hr := B.returns
  have hts := atoms_spec (ws := wz_X5_cut) B.pre
  have hown : s.vm.findClass RX5 = some m.cls := findClass_of_methodNamed B.named
  have hlocks := B.notSynchronized
  subst hsz
  have hD := hD0.self (sz := s.heap.size)
  generalize hAe : va_A [(ro, .inr (5, [.int rt, .int rwd, .int rs, .ref rn]))] s.heap.size = A at hD ⊢
  have hA : ∀ q : Nat, s.heap.size ≤ q → A q := fun q h => by rw [← hAe]; exact Or.inr h
  have hS : va_S A s.heap s.heap [] := va_S.rf
  have hP : va_P (dC, dI) vwCl [(ro, .inr (5, [.int rt, .int rwd, .int rs, .ref rn]))] s.heap := hP
  have hl := lv_entry ([.ref ro, .long p0]) (n := 3) (Nat.le_of_ble_eq_true rfl)
  rw [lg_entry_eq]
  generalize (lg_sl ([.ref ro, .long p0]) ++ List.replicate (3 - (lg_sl ([.ref ro, .long p0])).length) Slot.unset).toArray = ls at hl ⊢
  have hl : lv_has ls 3 [(0, .ref ro), (1, .long p0)] := hl
  refine lv_aload_n hx hb dX5_cut_0 rfl (lv_at hl 0 rfl) ?_
  refine va_get (D := (dC, dI)) (ci := 5) (v := .int rwd) (C := RX5) (T := TX5) (N := 4) hx hb hts in_X5_cut_X5 hown hK hP 0 rfl rfl 1 (by decide) (hts _ wd_X5_cut_0) (fun _ h9 => h9) rfl dX5_cut_1 ?_
  rcases i_sw (a := rwd) rfl (lo := 0) (hi := 2) with hsw | hsw | hsw
  · refine lv_tableOut (tgt := 46) hx hb dX5_cut_4 (Or.inl (i_clo rfl hsw)) (by decide) ?_
    refine lv_lload_n hx hb dX5_cut_46 rfl (lv_at hl 1 rfl) ?_
    have hP9 := hP.sub (ws' := [(ro, .inr (5, [.int rt, .int rwd, .int rs, .ref rn]))]) [0] rfl
    have hD9 := hD.sub (ws' := [(ro, .inr (5, [.int rt, .int rwd, .int rs, .ref rn]))]) [0] (by decide) rfl
    have hK9 := hK.sub (tys' := []) [] rfl
    refine W.widen (k := 0) (n := 0) (by omega) (by omega) ?_
    exact W.lret (v := p0) hx hb hr (fun t ht hW => ⟨⟨p0, (), rfl, trivial, by rw [ht]; exact hP9, va_K.moved hW.alike hK9, hD9⟩, hS.F ht⟩) hS.2.2 dX5_cut_47
  · refine lv_tableOut (tgt := 46) hx hb dX5_cut_4 (Or.inr (i_chi rfl hsw)) (by decide) ?_
    refine lv_lload_n hx hb dX5_cut_46 rfl (lv_at hl 1 rfl) ?_
    have hP9 := hP.sub (ws' := [(ro, .inr (5, [.int rt, .int rwd, .int rs, .ref rn]))]) [0] rfl
    have hD9 := hD.sub (ws' := [(ro, .inr (5, [.int rt, .int rwd, .int rs, .ref rn]))]) [0] (by decide) rfl
    have hK9 := hK.sub (tys' := []) [] rfl
    refine W.widen (k := 0) (n := 0) (by omega) (by omega) ?_
    exact W.lret (v := p0) hx hb hr (fun t ht hW => ⟨⟨p0, (), rfl, trivial, by rw [ht]; exact hP9, va_K.moved hW.alike hK9, hD9⟩, hS.F ht⟩) hS.2.2 dX5_cut_47
  · have hsw2 : rwd.toInt = 0 ∨ rwd.toInt = 1 ∨ rwd.toInt = 2 := by omega
    rcases hsw2 with hsw2 | hsw2 | hsw2
    · have hxz : rwd.toInt = 0 := (rfl : rwd.toInt = rwd.toInt).trans hsw2
      refine lv_tableIn (off := 28) (tgt := 32) hx hb dX5_cut_4 (by rw [hxz]; decide) (by rw [hxz]; decide) (by rw [hxz]; rfl) (by decide) ?_
      refine lv_lload_n hx hb dX5_cut_32 rfl (lv_at hl 1 rfl) ?_
      refine lv_l2i (v := p0.toInt32) hx hb dX5_cut_33 rfl ?_
      refine lv_topi (fun x_1 ex_1 => ?_)
      refine lv_i2b (v := x_1.toInt8.toInt32) hx hb dX5_cut_34 rfl ?_
      refine lv_topi (fun x_2 ex_2 => ?_)
      refine lv_i2l (v := x_2.toInt64) hx hb dX5_cut_35 rfl ?_
      have hP9 := hP.sub (ws' := [(ro, .inr (5, [.int rt, .int rwd, .int rs, .ref rn]))]) [0] rfl
      have hD9 := hD.sub (ws' := [(ro, .inr (5, [.int rt, .int rwd, .int rs, .ref rn]))]) [0] (by decide) rfl
      have hK9 := hK.sub (tys' := []) [] rfl
      refine W.widen (k := 0) (n := 0) (by omega) (by omega) ?_
      exact W.lret (v := x_2.toInt64) hx hb hr (fun t ht hW => ⟨⟨x_2.toInt64, (), rfl, trivial, by rw [ht]; exact hP9, va_K.moved hW.alike hK9, hD9⟩, hS.F ht⟩) hS.2.2 dX5_cut_36
    · have hxz : rwd.toInt = 1 := (rfl : rwd.toInt = rwd.toInt).trans hsw2
      refine lv_tableIn (off := 33) (tgt := 37) hx hb dX5_cut_4 (by rw [hxz]; decide) (by rw [hxz]; decide) (by rw [hxz]; rfl) (by decide) ?_
      refine lv_lload_n hx hb dX5_cut_37 rfl (lv_at hl 1 rfl) ?_
      refine lv_l2i (v := p0.toInt32) hx hb dX5_cut_38 rfl ?_
      refine lv_topi (fun x_3 ex_3 => ?_)
      refine lv_i2s (v := x_3.toInt16.toInt32) hx hb dX5_cut_39 rfl ?_
      refine lv_topi (fun x_4 ex_4 => ?_)
      refine lv_i2l (v := x_4.toInt64) hx hb dX5_cut_40 rfl ?_
      have hP9 := hP.sub (ws' := [(ro, .inr (5, [.int rt, .int rwd, .int rs, .ref rn]))]) [0] rfl
      have hD9 := hD.sub (ws' := [(ro, .inr (5, [.int rt, .int rwd, .int rs, .ref rn]))]) [0] (by decide) rfl
      have hK9 := hK.sub (tys' := []) [] rfl
      refine W.widen (k := 0) (n := 0) (by omega) (by omega) ?_
      exact W.lret (v := x_4.toInt64) hx hb hr (fun t ht hW => ⟨⟨x_4.toInt64, (), rfl, trivial, by rw [ht]; exact hP9, va_K.moved hW.alike hK9, hD9⟩, hS.F ht⟩) hS.2.2 dX5_cut_41
    · have hxz : rwd.toInt = 2 := (rfl : rwd.toInt = rwd.toInt).trans hsw2
      refine lv_tableIn (off := 38) (tgt := 42) hx hb dX5_cut_4 (by rw [hxz]; decide) (by rw [hxz]; decide) (by rw [hxz]; rfl) (by decide) ?_
      refine lv_lload_n hx hb dX5_cut_42 rfl (lv_at hl 1 rfl) ?_
      refine lv_l2i (v := p0.toInt32) hx hb dX5_cut_43 rfl ?_
      refine lv_topi (fun x_5 ex_5 => ?_)
      refine lv_i2l (v := x_5.toInt64) hx hb dX5_cut_44 rfl ?_
      have hP9 := hP.sub (ws' := [(ro, .inr (5, [.int rt, .int rwd, .int rs, .ref rn]))]) [0] rfl
      have hD9 := hD.sub (ws' := [(ro, .inr (5, [.int rt, .int rwd, .int rs, .ref rn]))]) [0] (by decide) rfl
      have hK9 := hK.sub (tys' := []) [] rfl
      refine W.widen (k := 0) (n := 0) (by omega) (by omega) ?_
      exact W.lret (v := x_5.toInt64) hx hb hr (fun t ht hW => ⟨⟨x_5.toInt64, (), rfl, trivial, by rw [ht]; exact hP9, va_K.moved hW.alike hK9, hD9⟩, hS.F ht⟩) hS.2.2 dX5_cut_45

theorem dX5_holds_0 : decode cX5_holds 0 = .ok (.iload_n 1, 1) := by decide +kernel
theorem dX5_holds_1 : decode cX5_holds 1 = .ok (.ifCond .lt 29, 3) := by decide +kernel
theorem dX5_holds_4 : decode cX5_holds 4 = .ok (.iload_n 2, 1) := by decide +kernel
theorem dX5_holds_5 : decode cX5_holds 5 = .ok (.ifCond .lt 25, 3) := by decide +kernel
theorem dX5_holds_8 : decode cX5_holds 8 = .ok (.iload_n 2, 1) := by decide +kernel
theorem dX5_holds_9 : decode cX5_holds 9 = .ok (.aload_n 0, 1) := by decide +kernel
theorem dX5_holds_10 : decode cX5_holds 10 = .ok (.getfield 19, 3) := by decide +kernel
theorem dX5_holds_13 : decode cX5_holds 13 = .ok (.if_icmp .gt 17, 3) := by decide +kernel
theorem dX5_holds_16 : decode cX5_holds 16 = .ok (.iload_n 1, 1) := by decide +kernel
theorem dX5_holds_17 : decode cX5_holds 17 = .ok (.aload_n 0, 1) := by decide +kernel
theorem dX5_holds_18 : decode cX5_holds 18 = .ok (.getfield 19, 3) := by decide +kernel
theorem dX5_holds_21 : decode cX5_holds 21 = .ok (.iload_n 2, 1) := by decide +kernel
theorem dX5_holds_22 : decode cX5_holds 22 = .ok (.isub, 1) := by decide +kernel
theorem dX5_holds_23 : decode cX5_holds 23 = .ok (.if_icmp .gt 7, 3) := by decide +kernel
theorem dX5_holds_26 : decode cX5_holds 26 = .ok (.iconst 1, 1) := by decide +kernel
theorem dX5_holds_27 : decode cX5_holds 27 = .ok (.goto 4, 3) := by decide +kernel
theorem dX5_holds_30 : decode cX5_holds 30 = .ok (.iconst 0, 1) := by decide +kernel
theorem dX5_holds_31 : decode cX5_holds 31 = .ok (.ireturn, 1) := by decide +kernel
def wz_X5_holds : List Cond := .code yX5_holds cX5_holds 3 (some .boolean) :: ([Cond.fieldLink RX5 19 "HedgeMaze$Row" "size" "I"] ++ wsX50)
theorem wd_X5_holds_0 : Cond.fieldLink RX5 19 "HedgeMaze$Row" "size" "I" ∈ wz_X5_holds := List.mem_of_getElem? (i := 1) rfl
theorem in_X5_holds_X5 : ∀ w ∈ wsX50, w ∈ wz_X5_holds := fun _ h => List.mem_cons_of_mem _ (List.mem_append_right _ h)
set_option maxHeartbeats 4000000 in
set_option maxRecDepth 100000 in
theorem c_X5_holds (l : Launch) (dC : Nat → ClassId) (dI : Nat → Nat → Nat) (sz : Nat) (ro : Nat) (rt : Int32) (rwd : Int32) (rs : Int32) (rn : Nat) (p0 : Int32) (p1 : Int32) (h_rs : 0 ≤ rs.toInt ∧ rs.toInt ≤ 60) : Met l yX5_holds wz_X5_holds ({ frames := 0, cells := 0, slots := 0, locals := 0 }) (va_Pc [.ref ro, .int p0, .int p1] (fun U => U.heap.size = sz ∧ va_P (dC, dI) vwCl [(ro, .inr (5, [.int rt, .int rwd, .int rs, .ref rn]))] U.heap ∧ va_K (dC, dI) vwCl [] U ∧ va_D (fun _ => True) [(ro, .inr (5, [.int rt, .int rwd, .int rs, .ref rn]))])) (va_Qi (fun (r : Int32) (u : Unit) => r = if 0 ≤ p0.toInt ∧ 0 ≤ p1.toInt ∧ p0.toInt + p1.toInt ≤ rs.toInt then 1 else 0) (fun (u : Unit) (t : State) => va_P (dC, dI) vwCl [(ro, .inr (5, [.int rt, .int rwd, .int rs, .ref rn]))] t.heap ∧ va_K (dC, dI) vwCl [] t ∧ va_D (va_A [(ro, .inr (5, [.int rt, .int rwd, .int rs, .ref rn]))] sz) [(ro, .inr (5, [.int rt, .int rwd, .int rs, .ref rn]))]) (va_A [(ro, .inr (5, [.int rt, .int rwd, .int rs, .ref rn]))] sz)) 0 0 (va_A [(ro, .inr (5, [.int rt, .int rwd, .int rs, .ref rn]))] sz) := by
  refine Met.ofW (cc := cX5_holds) (maxL := 3) (ret := (some .boolean)) (by decide) rfl ?_
  intro p e s m args below meth c s₁ B hml hv
  obtain ⟨rfl, hsz, hP, hK, hD0⟩ := hv
  have hx := B.exec
  have hb := B.bytes
  have hr := B.returns
  have hts := atoms_spec (ws := wz_X5_holds) B.pre
  have hown : s.vm.findClass RX5 = some m.cls := findClass_of_methodNamed B.named
  have hlocks := B.notSynchronized
  subst hsz
  have hD := hD0.self (sz := s.heap.size)
  generalize hAe : va_A [(ro, .inr (5, [.int rt, .int rwd, .int rs, .ref rn]))] s.heap.size = A at hD ⊢
  have hA : ∀ q : Nat, s.heap.size ≤ q → A q := fun q h => by rw [← hAe]; exact Or.inr h
  have hS : va_S A s.heap s.heap [] := va_S.rf
  have hP : va_P (dC, dI) vwCl [(ro, .inr (5, [.int rt, .int rwd, .int rs, .ref rn]))] s.heap := hP
  have hl := lv_entry ([.ref ro, .int p0, .int p1]) (n := 3) (Nat.le_of_ble_eq_true rfl)
  rw [lg_entry_eq]
  generalize (lg_sl ([.ref ro, .int p0, .int p1]) ++ List.replicate (3 - (lg_sl ([.ref ro, .int p0, .int p1])).length) Slot.unset).toArray = ls at hl ⊢
  have hl : lv_has ls 3 [(0, .ref ro), (1, .int p0), (2, .int p1)] := hl
  refine lv_iload_n hx hb dX5_holds_0 rfl (lv_at hl 1 rfl) ?_
  refine lv_if_lt (tgt := 30) hx hb dX5_holds_1 (by decide) (fun c_1 => ?_) (fun c_1 => ?_)
  · have c_1 : p0.toInt < 0 := i_lt (a := p0) (b := 0) rfl (by decide) c_1
    refine lv_iconst (v := 0) hx hb dX5_holds_30 (by decide) ?_
    have hP9 := hP.sub (ws' := [(ro, .inr (5, [.int rt, .int rwd, .int rs, .ref rn]))]) [0] rfl
    have hD9 := hD.sub (ws' := [(ro, .inr (5, [.int rt, .int rwd, .int rs, .ref rn]))]) [0] (by decide) rfl
    have hK9 := hK.sub (tys' := []) [] rfl
    refine W.widen (k := 0) (n := 0) (by omega) (by omega) ?_
    exact W.zret (v := 0) hx hb hr (by decide) (fun t ht hW => ⟨⟨0, (), rfl, (by first | rfl | ((repeat' split) <;> (first | rfl | (exfalso; omega)))), by rw [ht]; exact hP9, va_K.moved hW.alike hK9, hD9⟩, hS.F ht⟩) hS.2.2 dX5_holds_31
  · have c_1 : 0 ≤ p0.toInt := i_nlt (a := p0) (b := 0) rfl (by decide) c_1
    refine lv_iload_n hx hb dX5_holds_4 rfl (lv_at hl 2 rfl) ?_
    refine lv_if_lt (tgt := 30) hx hb dX5_holds_5 (by decide) (fun c_2 => ?_) (fun c_2 => ?_)
    · have c_2 : p1.toInt < 0 := i_lt (a := p1) (b := 0) rfl (by decide) c_2
      refine lv_iconst (v := 0) hx hb dX5_holds_30 (by decide) ?_
      have hP9 := hP.sub (ws' := [(ro, .inr (5, [.int rt, .int rwd, .int rs, .ref rn]))]) [0] rfl
      have hD9 := hD.sub (ws' := [(ro, .inr (5, [.int rt, .int rwd, .int rs, .ref rn]))]) [0] (by decide) rfl
      have hK9 := hK.sub (tys' := []) [] rfl
      refine W.widen (k := 0) (n := 0) (by omega) (by omega) ?_
      exact W.zret (v := 0) hx hb hr (by decide) (fun t ht hW => ⟨⟨0, (), rfl, (by first | rfl | ((repeat' split) <;> (first | rfl | (exfalso; omega)))), by rw [ht]; exact hP9, va_K.moved hW.alike hK9, hD9⟩, hS.F ht⟩) hS.2.2 dX5_holds_31
    · have c_2 : 0 ≤ p1.toInt := i_nlt (a := p1) (b := 0) rfl (by decide) c_2
      refine lv_iload_n hx hb dX5_holds_8 rfl (lv_at hl 2 rfl) ?_
      refine lv_aload_n hx hb dX5_holds_9 rfl (lv_at hl 0 rfl) ?_
      refine va_get (D := (dC, dI)) (ci := 5) (v := .int rs) (C := RX5) (T := TX5) (N := 4) hx hb hts in_X5_holds_X5 hown hK hP 0 rfl rfl 2 (by decide) (hts _ wd_X5_holds_0) (fun _ h9 => h9) rfl dX5_holds_10 ?_
      refine lv_icmp_gt (tgt := 30) hx hb dX5_holds_13 (by decide) (fun c_3 => ?_) (fun c_3 => ?_)
      · have c_3 : rs.toInt < p1.toInt := i_lt (a := rs) (b := p1) rfl rfl c_3
        refine lv_iconst (v := 0) hx hb dX5_holds_30 (by decide) ?_
        have hP9 := hP.sub (ws' := [(ro, .inr (5, [.int rt, .int rwd, .int rs, .ref rn]))]) [0] rfl
        have hD9 := hD.sub (ws' := [(ro, .inr (5, [.int rt, .int rwd, .int rs, .ref rn]))]) [0] (by decide) rfl
        have hK9 := hK.sub (tys' := []) [] rfl
        refine W.widen (k := 0) (n := 0) (by omega) (by omega) ?_
        exact W.zret (v := 0) hx hb hr (by decide) (fun t ht hW => ⟨⟨0, (), rfl, (by first | rfl | ((repeat' split) <;> (first | rfl | (exfalso; omega)))), by rw [ht]; exact hP9, va_K.moved hW.alike hK9, hD9⟩, hS.F ht⟩) hS.2.2 dX5_holds_31
      · have c_3 : p1.toInt ≤ rs.toInt := i_nlt (a := rs) (b := p1) rfl rfl c_3
        refine lv_iload_n hx hb dX5_holds_16 rfl (lv_at hl 1 rfl) ?_
        refine lv_aload_n hx hb dX5_holds_17 rfl (lv_at hl 0 rfl) ?_
        refine va_get (D := (dC, dI)) (ci := 5) (v := .int rs) (C := RX5) (T := TX5) (N := 4) hx hb hts in_X5_holds_X5 hown hK hP 0 rfl rfl 2 (by decide) (hts _ wd_X5_holds_0) (fun _ h9 => h9) rfl dX5_holds_18 ?_
        refine lv_iload_n hx hb dX5_holds_21 rfl (lv_at hl 2 rfl) ?_
        refine lv_isub hx hb dX5_holds_22 ?_
        refine lv_topi (fun x_4 ex_4 => ?_)
        have zx_4 : x_4.toInt = rs.toInt - p1.toInt := by rw [ex_4]; exact i_sub rfl rfl (by omega) (by omega)
        refine lv_icmp_gt (tgt := 30) hx hb dX5_holds_23 (by decide) (fun c_5 => ?_) (fun c_5 => ?_)
        · have c_5 : x_4.toInt < p0.toInt := i_lt (a := x_4) (b := p0) rfl rfl c_5
          refine lv_iconst (v := 0) hx hb dX5_holds_30 (by decide) ?_
          have hP9 := hP.sub (ws' := [(ro, .inr (5, [.int rt, .int rwd, .int rs, .ref rn]))]) [0] rfl
          have hD9 := hD.sub (ws' := [(ro, .inr (5, [.int rt, .int rwd, .int rs, .ref rn]))]) [0] (by decide) rfl
          have hK9 := hK.sub (tys' := []) [] rfl
          refine W.widen (k := 0) (n := 0) (by omega) (by omega) ?_
          exact W.zret (v := 0) hx hb hr (by decide) (fun t ht hW => ⟨⟨0, (), rfl, (by first | rfl | ((repeat' split) <;> (first | rfl | (exfalso; omega)))), by rw [ht]; exact hP9, va_K.moved hW.alike hK9, hD9⟩, hS.F ht⟩) hS.2.2 dX5_holds_31
        · have c_5 : p0.toInt ≤ x_4.toInt := i_nlt (a := x_4) (b := p0) rfl rfl c_5
          refine lv_iconst (v := 1) hx hb dX5_holds_26 (by decide) ?_
          refine lv_goto (tgt := 31) hx hb dX5_holds_27 (by decide) ?_
          have hP9 := hP.sub (ws' := [(ro, .inr (5, [.int rt, .int rwd, .int rs, .ref rn]))]) [0] rfl
          have hD9 := hD.sub (ws' := [(ro, .inr (5, [.int rt, .int rwd, .int rs, .ref rn]))]) [0] (by decide) rfl
          have hK9 := hK.sub (tys' := []) [] rfl
          refine W.widen (k := 0) (n := 0) (by omega) (by omega) ?_
          exact W.zret (v := 1) hx hb hr (by decide) (fun t ht hW => ⟨⟨1, (), rfl, (by first | rfl | ((repeat' split) <;> (first | rfl | (exfalso; omega)))), by rw [ht]; exact hP9, va_K.moved hW.alike hK9, hD9⟩, hS.F ht⟩) hS.2.2 dX5_holds_31

