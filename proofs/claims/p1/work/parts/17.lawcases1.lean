set_option maxHeartbeats 4000000 in
set_option maxRecDepth 100000 in
/-- the law, its call 0: feed -/
theorem law_0 {p : Program} {e : Env} {s : State} {m : MethodId} {below : List Frame} {meth : Method} {c : Code} (l : Launch) {b : Nat} {xs : Nat → Int32} (C0 : lw_At p s m meth c b 6 xs) {A : Nat → Prop} (hA : ∀ q, s.heap.size ≤ q → A q) (hA2 : ∀ q, A q → s.heap.size ≤ q) {x0 : Nat} {tp : Nat} {rd : Nat} {gd : Nat} {im : Nat} {rw : Nat} {gn : Nat} {ho : Nat} {sq : Nat} {cb : ClassId} {m0 : Nat} {m_width : Nat} {m_many : Nat} {m_cells : Nat} {m_moved : Nat} {m_tape : Nat} {m_lines : Nat} {m_has : Nat} {m_state : Nat} {m_gate : Nat} {m_guest : Nat} {m_gone : Nat} {m_isKept : Nat} {m_first : Nat} {m_second : Nat} {m_far : Nat} {m_wished : Nat} {m_wasState : Nat} {m_isHere : Nat} {m_round : Nat} {m_bestRound : Nat} {m_taken : Nat} {k_tape : ClassId} (hE0 : Kx s) {dC : Nat → ClassId} {dI : Nat → Nat → Nat} (hK : va_K (dC, dI) vwCl [(cb, .byte), (k_tape, .byte)] s) {H : Heap} {locs : List Loc} (hP : va_P (dC, dI) vwCl [(x0, .inr (6, [.ref tp, .int 0, .int 0, .int (-1), .ref rd, .ref gd, .ref im, .ref rw, .ref gn, .ref ho, .ref sq])), (tp, .inl (cb, 1600, .inl (fun _ => 0))), (m0, .inr (7, [.int 0, .ref m_width, .ref m_many, .ref m_cells, .ref m_moved, .ref m_tape, .int 0, .int 0, .int 0, .int 0, .int 0, .long 0, .int 0, .int 0, .int 0, .int (-1), .ref m_lines, .ref m_has, .ref m_state, .ref m_gate, .ref m_guest, .ref m_gone, .int 0, .ref m_isKept, .ref m_first, .ref m_second, .int 0, .ref m_far, .ref m_wished, .ref m_wasState, .ref m_isHere, .ref m_round, .ref m_bestRound, .int 0, .int 0, .long 0, .long 0, .ref m_taken, .int 0])), (m_tape, .inl (k_tape, 1600, .inl (fun _ => 0)))] H) (hD : va_D A [(x0, .inr (6, [.ref tp, .int 0, .int 0, .int (-1), .ref rd, .ref gd, .ref im, .ref rw, .ref gn, .ref ho, .ref sq])), (tp, .inl (cb, 1600, .inl (fun _ => 0))), (m0, .inr (7, [.int 0, .ref m_width, .ref m_many, .ref m_cells, .ref m_moved, .ref m_tape, .int 0, .int 0, .int 0, .int 0, .int 0, .long 0, .int 0, .int 0, .int 0, .int (-1), .ref m_lines, .ref m_has, .ref m_state, .ref m_gate, .ref m_guest, .ref m_gone, .int 0, .ref m_isKept, .ref m_first, .ref m_second, .int 0, .ref m_far, .ref m_wished, .ref m_wasState, .ref m_isHere, .ref m_round, .ref m_bestRound, .int 0, .int 0, .long 0, .long 0, .ref m_taken, .int 0])), (m_tape, .inl (k_tape, 1600, .inl (fun _ => 0)))]) (hS : va_S A s.heap H locs) {ls : Array Slot} (hl : lv_has ls 4 [(3, .int 0), (2, .ref m0), (1, .ref x0), (0, .ref b)]) : W p l e room_1 s m #[Value.ref b] below meth c H locs 70 7203 (lw_Z below #[Value.ref b] s) (F0 m 220 ls []) := by
  obtain ⟨hx, hb, hr, hml, hown, hts, hX, hbl, hlocks, hgv⟩ := id C0
  have hown : s.vm.findClass RL = some m.cls := hown
  have hts := fun w (h : w ∈ wz_law) => hts w (wz_law_in w h)
  have hbA : ¬ A b := fun h => absurd (hA2 b h) (Nat.not_le.mpr hbl)
  obtain ⟨a0, ea0⟩ : ∃ y : Int32, y = xs (0 : Int32).toNatClampNeg := ⟨_, rfl⟩
  obtain ⟨a1, ea1⟩ : ∃ y : Int32, y = xs (1 : Int32).toNatClampNeg := ⟨_, rfl⟩
  obtain ⟨a2, ea2⟩ : ∃ y : Int32, y = xs (2 : Int32).toNatClampNeg := ⟨_, rfl⟩
  obtain ⟨a3, ea3⟩ : ∃ y : Int32, y = xs (3 : Int32).toNatClampNeg := ⟨_, rfl⟩
  obtain ⟨a4, ea4⟩ : ∃ y : Int32, y = xs (4 : Int32).toNatClampNeg := ⟨_, rfl⟩
  obtain ⟨a5, ea5⟩ : ∃ y : Int32, y = xs (5 : Int32).toNatClampNeg := ⟨_, rfl⟩
  refine lv_aload_n hx hb dL_law_220 rfl (lv_at hl 2 rfl) ?_
  refine lv_aload_n hx hb dL_law_221 rfl (lv_at hl 3 rfl) ?_
  refine lv_iload_n hx hb dL_law_222 rfl (lv_at hl 0 rfl) ?_
  refine lv_iconst (v := 1) hx hb dL_law_223 (by decide) ?_
  refine lv_iadd hx hb dL_law_224 ?_
  refine lv_topi (fun z_1 ez_1 => ?_)
  obtain rfl : z_1 = 1 := ez_1.trans (by decide)
  refine va_sld hx hb hX hbl hbA hS (vp_in_iff.mpr ⟨by decide, by decide⟩) dL_law_225 ?_
  refine lv_topi (fun z_2 ez_2 => ?_)
  obtain rfl : a1 = z_2 := ea1.trans ez_2.symm
  refine lv_aload_n hx hb dL_law_226 rfl (lv_at hl 3 rfl) ?_
  refine lv_iload_n hx hb dL_law_227 rfl (lv_at hl 0 rfl) ?_
  refine lv_iconst (v := 2) hx hb dL_law_228 (by decide) ?_
  refine lv_iadd hx hb dL_law_229 ?_
  refine lv_topi (fun z_3 ez_3 => ?_)
  obtain rfl : z_3 = 2 := ez_3.trans (by decide)
  refine va_sld hx hb hX hbl hbA hS (vp_in_iff.mpr ⟨by decide, by decide⟩) dL_law_230 ?_
  refine lv_topi (fun z_4 ez_4 => ?_)
  obtain rfl : a2 = z_4 := ea2.trans ez_4.symm
  refine lv_aload_n hx hb dL_law_231 rfl (lv_at hl 3 rfl) ?_
  refine lv_iload_n hx hb dL_law_232 rfl (lv_at hl 0 rfl) ?_
  refine lv_iconst (v := 3) hx hb dL_law_233 (by decide) ?_
  refine lv_iadd hx hb dL_law_234 ?_
  refine lv_topi (fun z_5 ez_5 => ?_)
  obtain rfl : z_5 = 3 := ez_5.trans (by decide)
  refine va_sld hx hb hX hbl hbA hS (vp_in_iff.mpr ⟨by decide, by decide⟩) dL_law_235 ?_
  refine lv_topi (fun z_6 ez_6 => ?_)
  obtain rfl : a3 = z_6 := ea3.trans ez_6.symm
  refine lv_aload_n hx hb dL_law_236 rfl (lv_at hl 3 rfl) ?_
  refine lv_iload_n hx hb dL_law_237 rfl (lv_at hl 0 rfl) ?_
  refine lv_iconst (v := 4) hx hb dL_law_238 (by decide) ?_
  refine lv_iadd hx hb dL_law_239 ?_
  refine lv_topi (fun z_7 ez_7 => ?_)
  obtain rfl : z_7 = 4 := ez_7.trans (by decide)
  refine va_sld hx hb hX hbl hbA hS (vp_in_iff.mpr ⟨by decide, by decide⟩) dL_law_240 ?_
  refine lv_topi (fun z_8 ez_8 => ?_)
  obtain rfl : a4 = z_8 := ea4.trans ez_8.symm
  refine lv_aload_n hx hb dL_law_241 rfl (lv_at hl 3 rfl) ?_
  refine lv_iload_n hx hb dL_law_242 rfl (lv_at hl 0 rfl) ?_
  refine lv_iconst (v := 5) hx hb dL_law_243 (by decide) ?_
  refine lv_iadd hx hb dL_law_244 ?_
  refine lv_topi (fun z_9 ez_9 => ?_)
  obtain rfl : z_9 = 5 := ez_9.trans (by decide)
  refine va_sld hx hb hX hbl hbA hS (vp_in_iff.mpr ⟨by decide, by decide⟩) dL_law_245 ?_
  refine lv_topi (fun z_10 ez_10 => ?_)
  obtain rfl : a5 = z_10 := ea5.trans ez_10.symm
  have hPc := hP.sub (ws' := [(x0, .inr (6, [.ref tp, .int 0, .int 0, .int (-1), .ref rd, .ref gd, .ref im, .ref rw, .ref gn, .ref ho, .ref sq])), (tp, .inl (cb, 1600, .inl (fun _ => 0)))]) [0, 1] rfl
  have hDc := hD.sub (ws' := [(x0, .inr (6, [.ref tp, .int 0, .int 0, .int (-1), .ref rd, .ref gd, .ref im, .ref rw, .ref gn, .ref ho, .ref sq])), (tp, .inl (cb, 1600, .inl (fun _ => 0)))]) [0, 1] (by decide) rfl
  have hKc := hK.sub (tys' := [(cb, .byte)]) [0] rfl
  have hFc := va_free (wc := [(x0, .inr (6, [.ref tp, .int 0, .int 0, .int (-1), .ref rd, .ref gd, .ref im, .ref rw, .ref gn, .ref ho, .ref sq])), (tp, .inl (cb, 1600, .inl (fun _ => 0)))]) hD hS hA [0, 1] rfl
  refine va_calli (va_runV (As := [.int a1, .int a2, .int a3, .int a4, .int a5]) (rest := []) ⟨hx, hb, hml, hown, hts⟩ (c_X6_feed l dC dI H.size x0 tp rd gd im rw gn ho sq cb ((fun _ => 0 : Nat → Int32)) a1 a2 a3 a4 a5 ) (cwV 5 hts g_law_X6_feed rfl rfl rfl (by decide +kernel) ⟨Nat.le_of_ble_eq_true rfl, Nat.le_of_ble_eq_true rfl⟩) ⟨fun a U g mk q => by obtain ⟨q0, q1, qP, qK, qD⟩ := q; exact ⟨q0, q1, qP, va_K.moved (u := U) (U := U.calling g mk a) (Vm.Alike.refl U.vm) qK, qD⟩, va_recv hKc hPc (ci := 6) (q0 := 0) rfl rfl, fun U hU hW => ⟨rfl, by rw [hU], by rw [hU]; exact hPc, va_K.moved hW.alike hKc, hDc.weaken (fun _ _ _ _ => trivial)⟩⟩ rfl rfl hl.1 rfl (lv_room (Nat.le_of_ble_eq_true rfl)) dL_law_246 ⟨Nat.le_of_ble_eq_true rfl, Nat.le_of_ble_eq_true rfl⟩) hS (fun q _ h => hFc q h) hFc (fun r_11 u t H1 locs ht hvm hw_12 hB hz1 hk1 hS => ?_)
  have hP1 : va_P (dC, dI) vwCl [] H1 := i_nilP
  have hD1 : va_D (va_A [(x0, .inr (6, [.ref tp, .int 0, .int 0, .int (-1), .ref rd, .ref gd, .ref im, .ref rw, .ref gn, .ref ho, .ref sq])), (tp, .inl (cb, 1600, .inl (fun _ => 0)))] H.size) [] := i_nilD
  try dsimp only at hw_12
  obtain ⟨hP, hD⟩ := va_join (wr := [(m0, .inr (7, [.int 0, .ref m_width, .ref m_many, .ref m_cells, .ref m_moved, .ref m_tape, .int 0, .int 0, .int 0, .int 0, .int 0, .long 0, .int 0, .int 0, .int 0, .int (-1), .ref m_lines, .ref m_has, .ref m_state, .ref m_gate, .ref m_guest, .ref m_gone, .int 0, .ref m_isKept, .ref m_first, .ref m_second, .int 0, .ref m_far, .ref m_wished, .ref m_wasState, .ref m_isHere, .ref m_round, .ref m_bestRound, .int 0, .int 0, .long 0, .long 0, .ref m_taken, .int 0])), (m_tape, .inl (k_tape, 1600, .inl (fun _ => 0)))]) (w1 := []) hP hD [0, 1] [2, 3] rfl rfl (by decide) (by decide) hk1 hFc hP1 hD1
  generalize H1 = H at hP hS ⊢
  have hP : va_P (dC, dI) vwCl [(m0, .inr (7, [.int 0, .ref m_width, .ref m_many, .ref m_cells, .ref m_moved, .ref m_tape, .int 0, .int 0, .int 0, .int 0, .int 0, .long 0, .int 0, .int 0, .int 0, .int (-1), .ref m_lines, .ref m_has, .ref m_state, .ref m_gate, .ref m_guest, .ref m_gone, .int 0, .ref m_isKept, .ref m_first, .ref m_second, .int 0, .ref m_far, .ref m_wished, .ref m_wasState, .ref m_isHere, .ref m_round, .ref m_bestRound, .int 0, .int 0, .long 0, .long 0, .ref m_taken, .int 0])), (m_tape, .inl (k_tape, 1600, .inl (fun _ => 0)))] H := hP
  have hD : va_D A [(m0, .inr (7, [.int 0, .ref m_width, .ref m_many, .ref m_cells, .ref m_moved, .ref m_tape, .int 0, .int 0, .int 0, .int 0, .int 0, .long 0, .int 0, .int 0, .int 0, .int (-1), .ref m_lines, .ref m_has, .ref m_state, .ref m_gate, .ref m_guest, .ref m_gone, .int 0, .ref m_isKept, .ref m_first, .ref m_second, .int 0, .ref m_far, .ref m_wished, .ref m_wasState, .ref m_isHere, .ref m_round, .ref m_bestRound, .int 0, .int 0, .long 0, .long 0, .ref m_taken, .int 0])), (m_tape, .inl (k_tape, 1600, .inl (fun _ => 0)))] := hD
  obtain rfl : r_11 = 20 := hw_12
  refine lv_aload_n hx hb dL_law_249 rfl (lv_at hl 1 rfl) ?_
  refine lv_aload_n hx hb dL_law_250 rfl (lv_at hl 3 rfl) ?_
  refine lv_iload_n hx hb dL_law_251 rfl (lv_at hl 0 rfl) ?_
  refine lv_iconst (v := 1) hx hb dL_law_252 (by decide) ?_
  refine lv_iadd hx hb dL_law_253 ?_
  refine lv_topi (fun z_13 ez_13 => ?_)
  obtain rfl : z_13 = 1 := ez_13.trans (by decide)
  refine va_sld hx hb hX hbl hbA hS (vp_in_iff.mpr ⟨by decide, by decide⟩) dL_law_254 ?_
  refine lv_topi (fun z_14 ez_14 => ?_)
  obtain rfl : a1 = z_14 := ea1.trans ez_14.symm
  refine lv_aload_n hx hb dL_law_255 rfl (lv_at hl 3 rfl) ?_
  refine lv_iload_n hx hb dL_law_256 rfl (lv_at hl 0 rfl) ?_
  refine lv_iconst (v := 2) hx hb dL_law_257 (by decide) ?_
  refine lv_iadd hx hb dL_law_258 ?_
  refine lv_topi (fun z_15 ez_15 => ?_)
  obtain rfl : z_15 = 2 := ez_15.trans (by decide)
  refine va_sld hx hb hX hbl hbA hS (vp_in_iff.mpr ⟨by decide, by decide⟩) dL_law_259 ?_
  refine lv_topi (fun z_16 ez_16 => ?_)
  obtain rfl : a2 = z_16 := ea2.trans ez_16.symm
  refine lv_aload_n hx hb dL_law_260 rfl (lv_at hl 3 rfl) ?_
  refine lv_iload_n hx hb dL_law_261 rfl (lv_at hl 0 rfl) ?_
  refine lv_iconst (v := 3) hx hb dL_law_262 (by decide) ?_
  refine lv_iadd hx hb dL_law_263 ?_
  refine lv_topi (fun z_17 ez_17 => ?_)
  obtain rfl : z_17 = 3 := ez_17.trans (by decide)
  refine va_sld hx hb hX hbl hbA hS (vp_in_iff.mpr ⟨by decide, by decide⟩) dL_law_264 ?_
  refine lv_topi (fun z_18 ez_18 => ?_)
  obtain rfl : a3 = z_18 := ea3.trans ez_18.symm
  refine lv_aload_n hx hb dL_law_265 rfl (lv_at hl 3 rfl) ?_
  refine lv_iload_n hx hb dL_law_266 rfl (lv_at hl 0 rfl) ?_
  refine lv_iconst (v := 4) hx hb dL_law_267 (by decide) ?_
  refine lv_iadd hx hb dL_law_268 ?_
  refine lv_topi (fun z_19 ez_19 => ?_)
  obtain rfl : z_19 = 4 := ez_19.trans (by decide)
  refine va_sld hx hb hX hbl hbA hS (vp_in_iff.mpr ⟨by decide, by decide⟩) dL_law_269 ?_
  refine lv_topi (fun z_20 ez_20 => ?_)
  obtain rfl : a4 = z_20 := ea4.trans ez_20.symm
  refine lv_aload_n hx hb dL_law_270 rfl (lv_at hl 3 rfl) ?_
  refine lv_iload_n hx hb dL_law_271 rfl (lv_at hl 0 rfl) ?_
  refine lv_iconst (v := 5) hx hb dL_law_272 (by decide) ?_
  refine lv_iadd hx hb dL_law_273 ?_
  refine lv_topi (fun z_21 ez_21 => ?_)
  obtain rfl : z_21 = 5 := ez_21.trans (by decide)
  refine va_sld hx hb hX hbl hbA hS (vp_in_iff.mpr ⟨by decide, by decide⟩) dL_law_274 ?_
  refine lv_topi (fun z_22 ez_22 => ?_)
  obtain rfl : a5 = z_22 := ea5.trans ez_22.symm
  have hPc := hP.sub (ws' := [(m0, .inr (7, [.int 0, .ref m_width, .ref m_many, .ref m_cells, .ref m_moved, .ref m_tape, .int 0, .int 0, .int 0, .int 0, .int 0, .long 0, .int 0, .int 0, .int 0, .int (-1), .ref m_lines, .ref m_has, .ref m_state, .ref m_gate, .ref m_guest, .ref m_gone, .int 0, .ref m_isKept, .ref m_first, .ref m_second, .int 0, .ref m_far, .ref m_wished, .ref m_wasState, .ref m_isHere, .ref m_round, .ref m_bestRound, .int 0, .int 0, .long 0, .long 0, .ref m_taken, .int 0])), (m_tape, .inl (k_tape, 1600, .inl (fun _ => 0)))]) [0, 1] rfl
  have hDc := hD.sub (ws' := [(m0, .inr (7, [.int 0, .ref m_width, .ref m_many, .ref m_cells, .ref m_moved, .ref m_tape, .int 0, .int 0, .int 0, .int 0, .int 0, .long 0, .int 0, .int 0, .int 0, .int (-1), .ref m_lines, .ref m_has, .ref m_state, .ref m_gate, .ref m_guest, .ref m_gone, .int 0, .ref m_isKept, .ref m_first, .ref m_second, .int 0, .ref m_far, .ref m_wished, .ref m_wasState, .ref m_isHere, .ref m_round, .ref m_bestRound, .int 0, .int 0, .long 0, .long 0, .ref m_taken, .int 0])), (m_tape, .inl (k_tape, 1600, .inl (fun _ => 0)))]) [0, 1] (by decide) rfl
  have hKc := hK.sub (tys' := [(k_tape, .byte)]) [1] rfl
  have hFc := va_free (wc := [(m0, .inr (7, [.int 0, .ref m_width, .ref m_many, .ref m_cells, .ref m_moved, .ref m_tape, .int 0, .int 0, .int 0, .int 0, .int 0, .long 0, .int 0, .int 0, .int 0, .int (-1), .ref m_lines, .ref m_has, .ref m_state, .ref m_gate, .ref m_guest, .ref m_gone, .int 0, .ref m_isKept, .ref m_first, .ref m_second, .int 0, .ref m_far, .ref m_wished, .ref m_wasState, .ref m_isHere, .ref m_round, .ref m_bestRound, .int 0, .int 0, .long 0, .long 0, .ref m_taken, .int 0])), (m_tape, .inl (k_tape, 1600, .inl (fun _ => 0)))]) hD hS hA [0, 1] rfl
  refine va_calli (va_runV (As := [.int a1, .int a2, .int a3, .int a4, .int a5]) (rest := [.int 20]) ⟨hx, hb, hml, hown, hts⟩ (c_X7_feed l dC dI H.size m0 m_width m_many m_cells m_moved m_tape m_lines m_has m_state m_gate m_guest m_gone m_isKept m_first m_second m_far m_wished m_wasState m_isHere m_round m_bestRound m_taken k_tape ((fun _ => 0 : Nat → Int32)) a1 a2 a3 a4 a5 ) (cwV 5 hts g_law_X7_feed rfl rfl rfl (by decide +kernel) ⟨Nat.le_of_ble_eq_true rfl, Nat.le_of_ble_eq_true rfl⟩) ⟨fun a U g mk q => by obtain ⟨q0, q1, qP, qK, qD⟩ := q; exact ⟨q0, q1, qP, va_K.moved (u := U) (U := U.calling g mk a) (Vm.Alike.refl U.vm) qK, qD⟩, va_recv hKc hPc (ci := 7) (q0 := 0) rfl rfl, fun U hU hW => ⟨rfl, by rw [hU], by rw [hU]; exact hPc, va_K.moved hW.alike hKc, hDc.weaken (fun _ _ _ _ => trivial)⟩⟩ rfl rfl hl.1 rfl (lv_room (Nat.le_of_ble_eq_true rfl)) dL_law_275 ⟨Nat.le_of_ble_eq_true rfl, Nat.le_of_ble_eq_true rfl⟩) hS (fun q _ h => hFc q h) hFc (fun r_23 u t H1 locs ht hvm hw_24 hB hz1 hk1 hS => ?_)
  have hP1 : va_P (dC, dI) vwCl [] H1 := i_nilP
  have hD1 : va_D (va_A [(m0, .inr (7, [.int 0, .ref m_width, .ref m_many, .ref m_cells, .ref m_moved, .ref m_tape, .int 0, .int 0, .int 0, .int 0, .int 0, .long 0, .int 0, .int 0, .int 0, .int (-1), .ref m_lines, .ref m_has, .ref m_state, .ref m_gate, .ref m_guest, .ref m_gone, .int 0, .ref m_isKept, .ref m_first, .ref m_second, .int 0, .ref m_far, .ref m_wished, .ref m_wasState, .ref m_isHere, .ref m_round, .ref m_bestRound, .int 0, .int 0, .long 0, .long 0, .ref m_taken, .int 0])), (m_tape, .inl (k_tape, 1600, .inl (fun _ => 0)))] H.size) [] := i_nilD
  try dsimp only at hw_24
  obtain ⟨hP, hD⟩ := va_join (wr := []) (w1 := []) hP hD [0, 1] [] rfl rfl (by decide) (by decide) hk1 hFc hP1 hD1
  generalize H1 = H at hP hS ⊢
  have hP : va_P (dC, dI) vwCl [] H := hP
  have hD : va_D A [] := hD
  obtain rfl : r_23 = 20 := hw_24
  refine lv_icmp_eq (tgt := 1569) hx hb dL_law_278 (by decide) (fun _ => ?_) (fun h => absurd (by decide) h)
  refine lv_iinc (v := 6) (lv' := [(3, .int 6), (2, .ref m0), (1, .ref x0), (0, .ref b)]) hx hb dL_law_1569 hl (k := 0) rfl (by decide) (by decide) rfl (fun ls hl => ?_)
  refine lv_goto (tgt := 18) hx hb dL_law_1572 (by decide) ?_
  exact law_exit C0 hA2 hS (lv_sub hl [0, 3] rfl) (by decide) (by omega) (by omega)

set_option maxHeartbeats 4000000 in
set_option maxRecDepth 100000 in
/-- the law, its call 1: end -/
theorem law_1 {p : Program} {e : Env} {s : State} {m : MethodId} {below : List Frame} {meth : Method} {c : Code} (l : Launch) {b : Nat} {xs : Nat → Int32} (C0 : lw_At p s m meth c b 6 xs) {A : Nat → Prop} (hA : ∀ q, s.heap.size ≤ q → A q) (hA2 : ∀ q, A q → s.heap.size ≤ q) {x0 : Nat} {tp : Nat} {rd : Nat} {gd : Nat} {im : Nat} {rw : Nat} {gn : Nat} {ho : Nat} {sq : Nat} {m0 : Nat} {m_width : Nat} {m_many : Nat} {m_cells : Nat} {m_moved : Nat} {m_tape : Nat} {m_lines : Nat} {m_has : Nat} {m_state : Nat} {m_gate : Nat} {m_guest : Nat} {m_gone : Nat} {m_isKept : Nat} {m_first : Nat} {m_second : Nat} {m_far : Nat} {m_wished : Nat} {m_wasState : Nat} {m_isHere : Nat} {m_round : Nat} {m_bestRound : Nat} {m_taken : Nat} (hE0 : Kx s) {dC : Nat → ClassId} {dI : Nat → Nat → Nat} (hK : va_K (dC, dI) vwCl [] s) {H : Heap} {locs : List Loc} (hP : va_P (dC, dI) vwCl [(x0, .inr (6, [.ref tp, .int 0, .int 0, .int (-1), .ref rd, .ref gd, .ref im, .ref rw, .ref gn, .ref ho, .ref sq])), (m0, .inr (7, [.int 0, .ref m_width, .ref m_many, .ref m_cells, .ref m_moved, .ref m_tape, .int 0, .int 0, .int 0, .int 0, .int 0, .long 0, .int 0, .int 0, .int 0, .int (-1), .ref m_lines, .ref m_has, .ref m_state, .ref m_gate, .ref m_guest, .ref m_gone, .int 0, .ref m_isKept, .ref m_first, .ref m_second, .int 0, .ref m_far, .ref m_wished, .ref m_wasState, .ref m_isHere, .ref m_round, .ref m_bestRound, .int 0, .int 0, .long 0, .long 0, .ref m_taken, .int 0]))] H) (hD : va_D A [(x0, .inr (6, [.ref tp, .int 0, .int 0, .int (-1), .ref rd, .ref gd, .ref im, .ref rw, .ref gn, .ref ho, .ref sq])), (m0, .inr (7, [.int 0, .ref m_width, .ref m_many, .ref m_cells, .ref m_moved, .ref m_tape, .int 0, .int 0, .int 0, .int 0, .int 0, .long 0, .int 0, .int 0, .int 0, .int (-1), .ref m_lines, .ref m_has, .ref m_state, .ref m_gate, .ref m_guest, .ref m_gone, .int 0, .ref m_isKept, .ref m_first, .ref m_second, .int 0, .ref m_far, .ref m_wished, .ref m_wasState, .ref m_isHere, .ref m_round, .ref m_bestRound, .int 0, .int 0, .long 0, .long 0, .ref m_taken, .int 0]))]) (hS : va_S A s.heap H locs) {ls : Array Slot} (hl : lv_has ls 4 [(3, .int 0), (2, .ref m0), (1, .ref x0), (0, .ref b)]) : W p l e room_1 s m #[Value.ref b] below meth c H locs 70 7203 (lw_Z below #[Value.ref b] s) (F0 m 283 ls []) := by
  obtain ⟨hx, hb, hr, hml, hown, hts, hX, hbl, hlocks, hgv⟩ := id C0
  have hown : s.vm.findClass RL = some m.cls := hown
  have hts := fun w (h : w ∈ wz_law) => hts w (wz_law_in w h)
  have hbA : ¬ A b := fun h => absurd (hA2 b h) (Nat.not_le.mpr hbl)
  obtain ⟨a0, ea0⟩ : ∃ y : Int32, y = xs (0 : Int32).toNatClampNeg := ⟨_, rfl⟩
  obtain ⟨a1, ea1⟩ : ∃ y : Int32, y = xs (1 : Int32).toNatClampNeg := ⟨_, rfl⟩
  obtain ⟨a2, ea2⟩ : ∃ y : Int32, y = xs (2 : Int32).toNatClampNeg := ⟨_, rfl⟩
  obtain ⟨a3, ea3⟩ : ∃ y : Int32, y = xs (3 : Int32).toNatClampNeg := ⟨_, rfl⟩
  obtain ⟨a4, ea4⟩ : ∃ y : Int32, y = xs (4 : Int32).toNatClampNeg := ⟨_, rfl⟩
  obtain ⟨a5, ea5⟩ : ∃ y : Int32, y = xs (5 : Int32).toNatClampNeg := ⟨_, rfl⟩
  refine lv_aload_n hx hb dL_law_283 rfl (lv_at hl 2 rfl) ?_
  refine lv_aload_n hx hb dL_law_284 rfl (lv_at hl 3 rfl) ?_
  refine lv_iload_n hx hb dL_law_285 rfl (lv_at hl 0 rfl) ?_
  refine lv_iconst (v := 1) hx hb dL_law_286 (by decide) ?_
  refine lv_iadd hx hb dL_law_287 ?_
  refine lv_topi (fun z_1 ez_1 => ?_)
  obtain rfl : z_1 = 1 := ez_1.trans (by decide)
  refine va_sld hx hb hX hbl hbA hS (vp_in_iff.mpr ⟨by decide, by decide⟩) dL_law_288 ?_
  refine lv_topi (fun z_2 ez_2 => ?_)
  obtain rfl : a1 = z_2 := ea1.trans ez_2.symm
  have hPc := hP.sub (ws' := [(x0, .inr (6, [.ref tp, .int 0, .int 0, .int (-1), .ref rd, .ref gd, .ref im, .ref rw, .ref gn, .ref ho, .ref sq]))]) [0] rfl
  have hDc := hD.sub (ws' := [(x0, .inr (6, [.ref tp, .int 0, .int 0, .int (-1), .ref rd, .ref gd, .ref im, .ref rw, .ref gn, .ref ho, .ref sq]))]) [0] (by decide) rfl
  have hKc := hK.sub (tys' := []) [] rfl
  have hFc := va_free (wc := [(x0, .inr (6, [.ref tp, .int 0, .int 0, .int (-1), .ref rd, .ref gd, .ref im, .ref rw, .ref gn, .ref ho, .ref sq]))]) hD hS hA [0] rfl
  refine va_calli (va_runV (As := [.int a1]) (rest := []) ⟨hx, hb, hml, hown, hts⟩ (c_X6_end l dC dI H.size x0 tp rd gd im rw gn ho sq a1 ) (cwV 1 hts g_law_X6_end rfl rfl rfl (by decide +kernel) ⟨Nat.le_of_ble_eq_true rfl, Nat.le_of_ble_eq_true rfl⟩) ⟨fun a U g mk q => by obtain ⟨q0, q1, qP, qK, qD⟩ := q; exact ⟨q0, q1, qP, va_K.moved (u := U) (U := U.calling g mk a) (Vm.Alike.refl U.vm) qK, qD⟩, va_recv hKc hPc (ci := 6) (q0 := 0) rfl rfl, fun U hU hW => ⟨rfl, by rw [hU], by rw [hU]; exact hPc, va_K.moved hW.alike hKc, hDc.weaken (fun _ _ _ _ => trivial)⟩⟩ rfl rfl hl.1 rfl (lv_room (Nat.le_of_ble_eq_true rfl)) dL_law_289 ⟨Nat.le_of_ble_eq_true rfl, Nat.le_of_ble_eq_true rfl⟩) hS (fun q _ h => hFc q h) hFc (fun r_3 u t H1 locs ht hvm hw_4 hB hz1 hk1 hS => ?_)
  have hP1 : va_P (dC, dI) vwCl [] H1 := i_nilP
  have hD1 : va_D (va_A [(x0, .inr (6, [.ref tp, .int 0, .int 0, .int (-1), .ref rd, .ref gd, .ref im, .ref rw, .ref gn, .ref ho, .ref sq]))] H.size) [] := i_nilD
  try dsimp only at hw_4
  obtain ⟨hP, hD⟩ := va_join (wr := [(m0, .inr (7, [.int 0, .ref m_width, .ref m_many, .ref m_cells, .ref m_moved, .ref m_tape, .int 0, .int 0, .int 0, .int 0, .int 0, .long 0, .int 0, .int 0, .int 0, .int (-1), .ref m_lines, .ref m_has, .ref m_state, .ref m_gate, .ref m_guest, .ref m_gone, .int 0, .ref m_isKept, .ref m_first, .ref m_second, .int 0, .ref m_far, .ref m_wished, .ref m_wasState, .ref m_isHere, .ref m_round, .ref m_bestRound, .int 0, .int 0, .long 0, .long 0, .ref m_taken, .int 0]))]) (w1 := []) hP hD [0] [1] rfl rfl (by decide) (by decide) hk1 hFc hP1 hD1
  generalize H1 = H at hP hS ⊢
  have hP : va_P (dC, dI) vwCl [(m0, .inr (7, [.int 0, .ref m_width, .ref m_many, .ref m_cells, .ref m_moved, .ref m_tape, .int 0, .int 0, .int 0, .int 0, .int 0, .long 0, .int 0, .int 0, .int 0, .int (-1), .ref m_lines, .ref m_has, .ref m_state, .ref m_gate, .ref m_guest, .ref m_gone, .int 0, .ref m_isKept, .ref m_first, .ref m_second, .int 0, .ref m_far, .ref m_wished, .ref m_wasState, .ref m_isHere, .ref m_round, .ref m_bestRound, .int 0, .int 0, .long 0, .long 0, .ref m_taken, .int 0]))] H := hP
  have hD : va_D A [(m0, .inr (7, [.int 0, .ref m_width, .ref m_many, .ref m_cells, .ref m_moved, .ref m_tape, .int 0, .int 0, .int 0, .int 0, .int 0, .long 0, .int 0, .int 0, .int 0, .int (-1), .ref m_lines, .ref m_has, .ref m_state, .ref m_gate, .ref m_guest, .ref m_gone, .int 0, .ref m_isKept, .ref m_first, .ref m_second, .int 0, .ref m_far, .ref m_wished, .ref m_wasState, .ref m_isHere, .ref m_round, .ref m_bestRound, .int 0, .int 0, .long 0, .long 0, .ref m_taken, .int 0]))] := hD
  refine lv_aload_n hx hb dL_law_292 rfl (lv_at hl 1 rfl) ?_
  refine lv_aload_n hx hb dL_law_293 rfl (lv_at hl 3 rfl) ?_
  refine lv_iload_n hx hb dL_law_294 rfl (lv_at hl 0 rfl) ?_
  refine lv_iconst (v := 1) hx hb dL_law_295 (by decide) ?_
  refine lv_iadd hx hb dL_law_296 ?_
  refine lv_topi (fun z_5 ez_5 => ?_)
  obtain rfl : z_5 = 1 := ez_5.trans (by decide)
  refine va_sld hx hb hX hbl hbA hS (vp_in_iff.mpr ⟨by decide, by decide⟩) dL_law_297 ?_
  refine lv_topi (fun z_6 ez_6 => ?_)
  obtain rfl : a1 = z_6 := ea1.trans ez_6.symm
  have hPc := hP.sub (ws' := [(m0, .inr (7, [.int 0, .ref m_width, .ref m_many, .ref m_cells, .ref m_moved, .ref m_tape, .int 0, .int 0, .int 0, .int 0, .int 0, .long 0, .int 0, .int 0, .int 0, .int (-1), .ref m_lines, .ref m_has, .ref m_state, .ref m_gate, .ref m_guest, .ref m_gone, .int 0, .ref m_isKept, .ref m_first, .ref m_second, .int 0, .ref m_far, .ref m_wished, .ref m_wasState, .ref m_isHere, .ref m_round, .ref m_bestRound, .int 0, .int 0, .long 0, .long 0, .ref m_taken, .int 0]))]) [0] rfl
  have hDc := hD.sub (ws' := [(m0, .inr (7, [.int 0, .ref m_width, .ref m_many, .ref m_cells, .ref m_moved, .ref m_tape, .int 0, .int 0, .int 0, .int 0, .int 0, .long 0, .int 0, .int 0, .int 0, .int (-1), .ref m_lines, .ref m_has, .ref m_state, .ref m_gate, .ref m_guest, .ref m_gone, .int 0, .ref m_isKept, .ref m_first, .ref m_second, .int 0, .ref m_far, .ref m_wished, .ref m_wasState, .ref m_isHere, .ref m_round, .ref m_bestRound, .int 0, .int 0, .long 0, .long 0, .ref m_taken, .int 0]))]) [0] (by decide) rfl
  have hKc := hK.sub (tys' := []) [] rfl
  have hFc := va_free (wc := [(m0, .inr (7, [.int 0, .ref m_width, .ref m_many, .ref m_cells, .ref m_moved, .ref m_tape, .int 0, .int 0, .int 0, .int 0, .int 0, .long 0, .int 0, .int 0, .int 0, .int (-1), .ref m_lines, .ref m_has, .ref m_state, .ref m_gate, .ref m_guest, .ref m_gone, .int 0, .ref m_isKept, .ref m_first, .ref m_second, .int 0, .ref m_far, .ref m_wished, .ref m_wasState, .ref m_isHere, .ref m_round, .ref m_bestRound, .int 0, .int 0, .long 0, .long 0, .ref m_taken, .int 0]))]) hD hS hA [0] rfl
  refine va_calli (va_runV (As := [.int a1]) (rest := [.int r_3]) ⟨hx, hb, hml, hown, hts⟩ (c_X7_end l dC dI H.size m0 m_width m_many m_cells m_moved m_tape m_lines m_has m_state m_gate m_guest m_gone m_isKept m_first m_second m_far m_wished m_wasState m_isHere m_round m_bestRound m_taken a1 ) (cwV 1 hts g_law_X7_end rfl rfl rfl (by decide +kernel) ⟨Nat.le_of_ble_eq_true rfl, Nat.le_of_ble_eq_true rfl⟩) ⟨fun a U g mk q => by obtain ⟨q0, q1, qP, qK, qD⟩ := q; exact ⟨q0, q1, qP, va_K.moved (u := U) (U := U.calling g mk a) (Vm.Alike.refl U.vm) qK, qD⟩, va_recv hKc hPc (ci := 7) (q0 := 0) rfl rfl, fun U hU hW => ⟨rfl, by rw [hU], by rw [hU]; exact hPc, va_K.moved hW.alike hKc, hDc.weaken (fun _ _ _ _ => trivial)⟩⟩ rfl rfl hl.1 rfl (lv_room (Nat.le_of_ble_eq_true rfl)) dL_law_298 ⟨Nat.le_of_ble_eq_true rfl, Nat.le_of_ble_eq_true rfl⟩) hS (fun q _ h => hFc q h) hFc (fun r_7 u t H1 locs ht hvm hw_8 hB hz1 hk1 hS => ?_)
  have hP1 : va_P (dC, dI) vwCl [] H1 := i_nilP
  have hD1 : va_D (va_A [(m0, .inr (7, [.int 0, .ref m_width, .ref m_many, .ref m_cells, .ref m_moved, .ref m_tape, .int 0, .int 0, .int 0, .int 0, .int 0, .long 0, .int 0, .int 0, .int 0, .int (-1), .ref m_lines, .ref m_has, .ref m_state, .ref m_gate, .ref m_guest, .ref m_gone, .int 0, .ref m_isKept, .ref m_first, .ref m_second, .int 0, .ref m_far, .ref m_wished, .ref m_wasState, .ref m_isHere, .ref m_round, .ref m_bestRound, .int 0, .int 0, .long 0, .long 0, .ref m_taken, .int 0]))] H.size) [] := i_nilD
  try dsimp only at hw_8
  obtain ⟨hP, hD⟩ := va_join (wr := []) (w1 := []) hP hD [0] [] rfl rfl (by decide) (by decide) hk1 hFc hP1 hD1
  generalize H1 = H at hP hS ⊢
  have hP : va_P (dC, dI) vwCl [] H := hP
  have hD : va_D A [] := hD
  refine lv_icmp_eq (tgt := 1569) hx hb dL_law_301 (by decide) (fun c_9 => ?_) (fun c_9 => absurd (hw_4.trans hw_8.symm) c_9)
  have c_9 : r_3.toInt = r_7.toInt := i_eq (a := r_3) (b := r_7) rfl rfl c_9
  refine lv_iinc (v := 6) (lv' := [(3, .int 6), (2, .ref m0), (1, .ref x0), (0, .ref b)]) hx hb dL_law_1569 hl (k := 0) rfl (by decide) (by decide) rfl (fun ls hl => ?_)
  refine lv_goto (tgt := 18) hx hb dL_law_1572 (by decide) ?_
  exact law_exit C0 hA2 hS (lv_sub hl [0, 3] rfl) (by decide) (by omega) (by omega)

set_option maxHeartbeats 4000000 in
set_option maxRecDepth 100000 in
/-- the law, its call 2: maze -/
theorem law_2 {p : Program} {e : Env} {s : State} {m : MethodId} {below : List Frame} {meth : Method} {c : Code} (l : Launch) {b : Nat} {xs : Nat → Int32} (C0 : lw_At p s m meth c b 6 xs) {A : Nat → Prop} (hA : ∀ q, s.heap.size ≤ q → A q) (hA2 : ∀ q, A q → s.heap.size ≤ q) {x0 : Nat} {tp : Nat} {rd : Nat} {gd : Nat} {im : Nat} {rw : Nat} {gn : Nat} {ho : Nat} {sq : Nat} {dg : Nat} {dp : Nat} {dgt : Nat} {dgu : Nat} {dgn : Nat} {dpf : Nat} {dpo : Nat} {dpb : Nat} {dpa : Nat} {pl : Nat} {gdt : Nat} {gdu : Nat} {gdn : Nat} {plf : Nat} {plo : Nat} {plb : Nat} {pla : Nat} {di : ClassId} {dt : ClassId} {du : ClassId} {dn : ClassId} {cb : ClassId} {ci : ClassId} {ct : ClassId} {cu : ClassId} {cn : ClassId} {m0 : Nat} {m_width : Nat} {m_many : Nat} {m_cells : Nat} {m_moved : Nat} {m_tape : Nat} {m_lines : Nat} {m_has : Nat} {m_state : Nat} {m_gate : Nat} {m_guest : Nat} {m_gone : Nat} {m_isKept : Nat} {m_first : Nat} {m_second : Nat} {m_far : Nat} {m_wished : Nat} {m_wasState : Nat} {m_isHere : Nat} {m_round : Nat} {m_bestRound : Nat} {m_taken : Nat} {k_lines : ClassId} {k_has : ClassId} {k_state : ClassId} {k_gate : ClassId} {k_guest : ClassId} {k_gone : ClassId} (hE0 : Kx s) {dC : Nat → ClassId} {dI : Nat → Nat → Nat} (hK : va_K (dC, dI) vwCl [(di, .int), (dt, .int), (du, .int), (dn, .int), (cb, .byte), (ci, .int), (ct, .int), (cu, .int), (cn, .int), (k_lines, .int), (k_has, .int), (k_state, .int), (k_gate, .int), (k_guest, .int), (k_gone, .int)] s) {H : Heap} {locs : List Loc} (hP : va_P (dC, dI) vwCl [(x0, .inr (6, [.ref tp, .int 0, .int 0, .int (-1), .ref rd, .ref gd, .ref im, .ref rw, .ref gn, .ref ho, .ref sq])), (tp, .inl (cb, 1600, .inl (fun _ => 0))), (rd, .inr (4, [.ref dg, .int 0, .int (-1), .null, .int 0, .int 0, .int 0, .int 0, .int 0, .int 0])), (dg, .inr (0, [.ref dp, .int 0, .long 0, .long 0, .int 0, .int (-1), .int 0, .ref dgt, .int 0, .ref dgu, .int 0, .ref dgn])), (dp, .inr (3, [.int 0, .int 0, .int 0, .int 0, .long 0, .ref dpf, .ref dpo, .ref dpb, .ref dpa])), (dpa, .inl (di, 100, .inl (fun _ => 0))), (dgt, .inl (dt, 4, .inl (fun _ => 0))), (dgu, .inl (du, 5, .inl (fun _ => 0))), (dgn, .inl (dn, 99, .inl (fun _ => 0))), (gd, .inr (0, [.ref pl, .int 0, .long 0, .long 0, .int 0, .int (-1), .int 0, .ref gdt, .int 0, .ref gdu, .int 0, .ref gdn])), (pl, .inr (3, [.int 0, .int 0, .int 0, .int 0, .long 0, .ref plf, .ref plo, .ref plb, .ref pla])), (pla, .inl (ci, 100, .inl (fun _ => 0))), (gdt, .inl (ct, 4, .inl (fun _ => 0))), (gdu, .inl (cu, 5, .inl (fun _ => 0))), (gdn, .inl (cn, 99, .inl (fun _ => 0))), (m0, .inr (7, [.int 0, .ref m_width, .ref m_many, .ref m_cells, .ref m_moved, .ref m_tape, .int 0, .int 0, .int 0, .int 0, .int 0, .long 0, .int 0, .int 0, .int 0, .int (-1), .ref m_lines, .ref m_has, .ref m_state, .ref m_gate, .ref m_guest, .ref m_gone, .int 0, .ref m_isKept, .ref m_first, .ref m_second, .int 0, .ref m_far, .ref m_wished, .ref m_wasState, .ref m_isHere, .ref m_round, .ref m_bestRound, .int 0, .int 0, .long 0, .long 0, .ref m_taken, .int 0])), (m_lines, .inl (k_lines, 5, .inl (fun _ => 0))), (m_has, .inl (k_has, 45, .inl (fun _ => 0))), (m_state, .inl (k_state, 200, .inl (fun _ => 0))), (m_gate, .inl (k_gate, 20, .inl (fun _ => 0))), (m_guest, .inl (k_guest, 25, .inl (fun _ => 0))), (m_gone, .inl (k_gone, 495, .inl (fun _ => 0)))] H) (hD : va_D A [(x0, .inr (6, [.ref tp, .int 0, .int 0, .int (-1), .ref rd, .ref gd, .ref im, .ref rw, .ref gn, .ref ho, .ref sq])), (tp, .inl (cb, 1600, .inl (fun _ => 0))), (rd, .inr (4, [.ref dg, .int 0, .int (-1), .null, .int 0, .int 0, .int 0, .int 0, .int 0, .int 0])), (dg, .inr (0, [.ref dp, .int 0, .long 0, .long 0, .int 0, .int (-1), .int 0, .ref dgt, .int 0, .ref dgu, .int 0, .ref dgn])), (dp, .inr (3, [.int 0, .int 0, .int 0, .int 0, .long 0, .ref dpf, .ref dpo, .ref dpb, .ref dpa])), (dpa, .inl (di, 100, .inl (fun _ => 0))), (dgt, .inl (dt, 4, .inl (fun _ => 0))), (dgu, .inl (du, 5, .inl (fun _ => 0))), (dgn, .inl (dn, 99, .inl (fun _ => 0))), (gd, .inr (0, [.ref pl, .int 0, .long 0, .long 0, .int 0, .int (-1), .int 0, .ref gdt, .int 0, .ref gdu, .int 0, .ref gdn])), (pl, .inr (3, [.int 0, .int 0, .int 0, .int 0, .long 0, .ref plf, .ref plo, .ref plb, .ref pla])), (pla, .inl (ci, 100, .inl (fun _ => 0))), (gdt, .inl (ct, 4, .inl (fun _ => 0))), (gdu, .inl (cu, 5, .inl (fun _ => 0))), (gdn, .inl (cn, 99, .inl (fun _ => 0))), (m0, .inr (7, [.int 0, .ref m_width, .ref m_many, .ref m_cells, .ref m_moved, .ref m_tape, .int 0, .int 0, .int 0, .int 0, .int 0, .long 0, .int 0, .int 0, .int 0, .int (-1), .ref m_lines, .ref m_has, .ref m_state, .ref m_gate, .ref m_guest, .ref m_gone, .int 0, .ref m_isKept, .ref m_first, .ref m_second, .int 0, .ref m_far, .ref m_wished, .ref m_wasState, .ref m_isHere, .ref m_round, .ref m_bestRound, .int 0, .int 0, .long 0, .long 0, .ref m_taken, .int 0])), (m_lines, .inl (k_lines, 5, .inl (fun _ => 0))), (m_has, .inl (k_has, 45, .inl (fun _ => 0))), (m_state, .inl (k_state, 200, .inl (fun _ => 0))), (m_gate, .inl (k_gate, 20, .inl (fun _ => 0))), (m_guest, .inl (k_guest, 25, .inl (fun _ => 0))), (m_gone, .inl (k_gone, 495, .inl (fun _ => 0)))]) (hS : va_S A s.heap H locs) {ls : Array Slot} (hl : lv_has ls 4 [(3, .int 0), (2, .ref m0), (1, .ref x0), (0, .ref b)]) : W p l e room_1 s m #[Value.ref b] below meth c H locs 70 7203 (lw_Z below #[Value.ref b] s) (F0 m 306 ls []) := by
  obtain ⟨hx, hb, hr, hml, hown, hts, hX, hbl, hlocks, hgv⟩ := id C0
  have hown : s.vm.findClass RL = some m.cls := hown
  have hts := fun w (h : w ∈ wz_law) => hts w (wz_law_in w h)
  have hbA : ¬ A b := fun h => absurd (hA2 b h) (Nat.not_le.mpr hbl)
  obtain ⟨a0, ea0⟩ : ∃ y : Int32, y = xs (0 : Int32).toNatClampNeg := ⟨_, rfl⟩
  obtain ⟨a1, ea1⟩ : ∃ y : Int32, y = xs (1 : Int32).toNatClampNeg := ⟨_, rfl⟩
  obtain ⟨a2, ea2⟩ : ∃ y : Int32, y = xs (2 : Int32).toNatClampNeg := ⟨_, rfl⟩
  obtain ⟨a3, ea3⟩ : ∃ y : Int32, y = xs (3 : Int32).toNatClampNeg := ⟨_, rfl⟩
  obtain ⟨a4, ea4⟩ : ∃ y : Int32, y = xs (4 : Int32).toNatClampNeg := ⟨_, rfl⟩
  obtain ⟨a5, ea5⟩ : ∃ y : Int32, y = xs (5 : Int32).toNatClampNeg := ⟨_, rfl⟩
  refine lv_aload_n hx hb dL_law_306 rfl (lv_at hl 2 rfl) ?_
  have hPc := hP.sub (ws' := [(x0, .inr (6, [.ref tp, .int 0, .int 0, .int (-1), .ref rd, .ref gd, .ref im, .ref rw, .ref gn, .ref ho, .ref sq])), (tp, .inl (cb, 1600, .inl (fun _ => 0))), (rd, .inr (4, [.ref dg, .int 0, .int (-1), .null, .int 0, .int 0, .int 0, .int 0, .int 0, .int 0])), (dg, .inr (0, [.ref dp, .int 0, .long 0, .long 0, .int 0, .int (-1), .int 0, .ref dgt, .int 0, .ref dgu, .int 0, .ref dgn])), (dp, .inr (3, [.int 0, .int 0, .int 0, .int 0, .long 0, .ref dpf, .ref dpo, .ref dpb, .ref dpa])), (dpa, .inl (di, 100, .inl (fun _ => 0))), (dgt, .inl (dt, 4, .inl (fun _ => 0))), (dgu, .inl (du, 5, .inl (fun _ => 0))), (dgn, .inl (dn, 99, .inl (fun _ => 0))), (gd, .inr (0, [.ref pl, .int 0, .long 0, .long 0, .int 0, .int (-1), .int 0, .ref gdt, .int 0, .ref gdu, .int 0, .ref gdn])), (pl, .inr (3, [.int 0, .int 0, .int 0, .int 0, .long 0, .ref plf, .ref plo, .ref plb, .ref pla])), (pla, .inl (ci, 100, .inl (fun _ => 0))), (gdt, .inl (ct, 4, .inl (fun _ => 0))), (gdu, .inl (cu, 5, .inl (fun _ => 0))), (gdn, .inl (cn, 99, .inl (fun _ => 0)))]) [0, 1, 2, 3, 4, 5, 6, 7, 8, 9, 10, 11, 12, 13, 14] rfl
  have hDc := hD.sub (ws' := [(x0, .inr (6, [.ref tp, .int 0, .int 0, .int (-1), .ref rd, .ref gd, .ref im, .ref rw, .ref gn, .ref ho, .ref sq])), (tp, .inl (cb, 1600, .inl (fun _ => 0))), (rd, .inr (4, [.ref dg, .int 0, .int (-1), .null, .int 0, .int 0, .int 0, .int 0, .int 0, .int 0])), (dg, .inr (0, [.ref dp, .int 0, .long 0, .long 0, .int 0, .int (-1), .int 0, .ref dgt, .int 0, .ref dgu, .int 0, .ref dgn])), (dp, .inr (3, [.int 0, .int 0, .int 0, .int 0, .long 0, .ref dpf, .ref dpo, .ref dpb, .ref dpa])), (dpa, .inl (di, 100, .inl (fun _ => 0))), (dgt, .inl (dt, 4, .inl (fun _ => 0))), (dgu, .inl (du, 5, .inl (fun _ => 0))), (dgn, .inl (dn, 99, .inl (fun _ => 0))), (gd, .inr (0, [.ref pl, .int 0, .long 0, .long 0, .int 0, .int (-1), .int 0, .ref gdt, .int 0, .ref gdu, .int 0, .ref gdn])), (pl, .inr (3, [.int 0, .int 0, .int 0, .int 0, .long 0, .ref plf, .ref plo, .ref plb, .ref pla])), (pla, .inl (ci, 100, .inl (fun _ => 0))), (gdt, .inl (ct, 4, .inl (fun _ => 0))), (gdu, .inl (cu, 5, .inl (fun _ => 0))), (gdn, .inl (cn, 99, .inl (fun _ => 0)))]) [0, 1, 2, 3, 4, 5, 6, 7, 8, 9, 10, 11, 12, 13, 14] (by decide) rfl
  have hKc := hK.sub (tys' := [(cb, .byte), (di, .int), (dt, .int), (du, .int), (dn, .int), (ci, .int), (ct, .int), (cu, .int), (cn, .int)]) [4, 0, 1, 2, 3, 5, 6, 7, 8] rfl
  have hFc := va_free (wc := [(x0, .inr (6, [.ref tp, .int 0, .int 0, .int (-1), .ref rd, .ref gd, .ref im, .ref rw, .ref gn, .ref ho, .ref sq])), (tp, .inl (cb, 1600, .inl (fun _ => 0))), (rd, .inr (4, [.ref dg, .int 0, .int (-1), .null, .int 0, .int 0, .int 0, .int 0, .int 0, .int 0])), (dg, .inr (0, [.ref dp, .int 0, .long 0, .long 0, .int 0, .int (-1), .int 0, .ref dgt, .int 0, .ref dgu, .int 0, .ref dgn])), (dp, .inr (3, [.int 0, .int 0, .int 0, .int 0, .long 0, .ref dpf, .ref dpo, .ref dpb, .ref dpa])), (dpa, .inl (di, 100, .inl (fun _ => 0))), (dgt, .inl (dt, 4, .inl (fun _ => 0))), (dgu, .inl (du, 5, .inl (fun _ => 0))), (dgn, .inl (dn, 99, .inl (fun _ => 0))), (gd, .inr (0, [.ref pl, .int 0, .long 0, .long 0, .int 0, .int (-1), .int 0, .ref gdt, .int 0, .ref gdu, .int 0, .ref gdn])), (pl, .inr (3, [.int 0, .int 0, .int 0, .int 0, .long 0, .ref plf, .ref plo, .ref plb, .ref pla])), (pla, .inl (ci, 100, .inl (fun _ => 0))), (gdt, .inl (ct, 4, .inl (fun _ => 0))), (gdu, .inl (cu, 5, .inl (fun _ => 0))), (gdn, .inl (cn, 99, .inl (fun _ => 0)))]) hD hS hA [0, 1, 2, 3, 4, 5, 6, 7, 8, 9, 10, 11, 12, 13, 14] rfl
  refine va_calli (va_runV (As := []) (rest := []) ⟨hx, hb, hml, hown, hts⟩ (c_X6_maze l dC dI H.size x0 tp rd gd im rw gn ho sq pl gdt gdu gdn plf plo plb pla dg dp dgt dgu dgn dpf dpo dpb dpa cb di dt du dn ci ct cu cn ((fun _ => 0 : Nat → Int32)) ((fun _ => 0 : Nat → Int32)) ((fun _ => 0 : Nat → Int32)) ) (cwV 0 hts g_law_X6_maze rfl rfl rfl (by decide +kernel) ⟨Nat.le_of_ble_eq_true rfl, Nat.le_of_ble_eq_true rfl⟩) ⟨fun a U g mk q => by obtain ⟨q0, q1, qP, qK, qD⟩ := q; exact ⟨q0, q1, qP, va_K.moved (u := U) (U := U.calling g mk a) (Vm.Alike.refl U.vm) qK, qD⟩, va_recv hKc hPc (ci := 6) (q0 := 0) rfl rfl, fun U hU hW => ⟨rfl, by rw [hU], by rw [hU]; exact hPc, va_K.moved hW.alike hKc, hDc.weaken (fun _ _ _ _ => trivial)⟩⟩ rfl rfl hl.1 rfl (lv_room (Nat.le_of_ble_eq_true rfl)) dL_law_307 ⟨Nat.le_of_ble_eq_true rfl, Nat.le_of_ble_eq_true rfl⟩) hS (fun q _ h => hFc q h) hFc (fun r_1 u t H1 locs ht hvm hw_2 hB hz1 hk1 hS => ?_)
  have hP1 : va_P (dC, dI) vwCl [] H1 := i_nilP
  have hD1 : va_D (va_A [(x0, .inr (6, [.ref tp, .int 0, .int 0, .int (-1), .ref rd, .ref gd, .ref im, .ref rw, .ref gn, .ref ho, .ref sq])), (tp, .inl (cb, 1600, .inl (fun _ => 0))), (rd, .inr (4, [.ref dg, .int 0, .int (-1), .null, .int 0, .int 0, .int 0, .int 0, .int 0, .int 0])), (dg, .inr (0, [.ref dp, .int 0, .long 0, .long 0, .int 0, .int (-1), .int 0, .ref dgt, .int 0, .ref dgu, .int 0, .ref dgn])), (dp, .inr (3, [.int 0, .int 0, .int 0, .int 0, .long 0, .ref dpf, .ref dpo, .ref dpb, .ref dpa])), (dpa, .inl (di, 100, .inl (fun _ => 0))), (dgt, .inl (dt, 4, .inl (fun _ => 0))), (dgu, .inl (du, 5, .inl (fun _ => 0))), (dgn, .inl (dn, 99, .inl (fun _ => 0))), (gd, .inr (0, [.ref pl, .int 0, .long 0, .long 0, .int 0, .int (-1), .int 0, .ref gdt, .int 0, .ref gdu, .int 0, .ref gdn])), (pl, .inr (3, [.int 0, .int 0, .int 0, .int 0, .long 0, .ref plf, .ref plo, .ref plb, .ref pla])), (pla, .inl (ci, 100, .inl (fun _ => 0))), (gdt, .inl (ct, 4, .inl (fun _ => 0))), (gdu, .inl (cu, 5, .inl (fun _ => 0))), (gdn, .inl (cn, 99, .inl (fun _ => 0)))] H.size) [] := i_nilD
  try dsimp only at hw_2
  obtain ⟨hP, hD⟩ := va_join (wr := [(m0, .inr (7, [.int 0, .ref m_width, .ref m_many, .ref m_cells, .ref m_moved, .ref m_tape, .int 0, .int 0, .int 0, .int 0, .int 0, .long 0, .int 0, .int 0, .int 0, .int (-1), .ref m_lines, .ref m_has, .ref m_state, .ref m_gate, .ref m_guest, .ref m_gone, .int 0, .ref m_isKept, .ref m_first, .ref m_second, .int 0, .ref m_far, .ref m_wished, .ref m_wasState, .ref m_isHere, .ref m_round, .ref m_bestRound, .int 0, .int 0, .long 0, .long 0, .ref m_taken, .int 0])), (m_lines, .inl (k_lines, 5, .inl (fun _ => 0))), (m_has, .inl (k_has, 45, .inl (fun _ => 0))), (m_state, .inl (k_state, 200, .inl (fun _ => 0))), (m_gate, .inl (k_gate, 20, .inl (fun _ => 0))), (m_guest, .inl (k_guest, 25, .inl (fun _ => 0))), (m_gone, .inl (k_gone, 495, .inl (fun _ => 0)))]) (w1 := []) hP hD [0, 1, 2, 3, 4, 5, 6, 7, 8, 9, 10, 11, 12, 13, 14] [15, 16, 17, 18, 19, 20, 21] rfl rfl (by decide) (by decide) hk1 hFc hP1 hD1
  generalize H1 = H at hP hS ⊢
  have hP : va_P (dC, dI) vwCl [(m0, .inr (7, [.int 0, .ref m_width, .ref m_many, .ref m_cells, .ref m_moved, .ref m_tape, .int 0, .int 0, .int 0, .int 0, .int 0, .long 0, .int 0, .int 0, .int 0, .int (-1), .ref m_lines, .ref m_has, .ref m_state, .ref m_gate, .ref m_guest, .ref m_gone, .int 0, .ref m_isKept, .ref m_first, .ref m_second, .int 0, .ref m_far, .ref m_wished, .ref m_wasState, .ref m_isHere, .ref m_round, .ref m_bestRound, .int 0, .int 0, .long 0, .long 0, .ref m_taken, .int 0])), (m_lines, .inl (k_lines, 5, .inl (fun _ => 0))), (m_has, .inl (k_has, 45, .inl (fun _ => 0))), (m_state, .inl (k_state, 200, .inl (fun _ => 0))), (m_gate, .inl (k_gate, 20, .inl (fun _ => 0))), (m_guest, .inl (k_guest, 25, .inl (fun _ => 0))), (m_gone, .inl (k_gone, 495, .inl (fun _ => 0)))] H := hP
  have hD : va_D A [(m0, .inr (7, [.int 0, .ref m_width, .ref m_many, .ref m_cells, .ref m_moved, .ref m_tape, .int 0, .int 0, .int 0, .int 0, .int 0, .long 0, .int 0, .int 0, .int 0, .int (-1), .ref m_lines, .ref m_has, .ref m_state, .ref m_gate, .ref m_guest, .ref m_gone, .int 0, .ref m_isKept, .ref m_first, .ref m_second, .int 0, .ref m_far, .ref m_wished, .ref m_wasState, .ref m_isHere, .ref m_round, .ref m_bestRound, .int 0, .int 0, .long 0, .long 0, .ref m_taken, .int 0])), (m_lines, .inl (k_lines, 5, .inl (fun _ => 0))), (m_has, .inl (k_has, 45, .inl (fun _ => 0))), (m_state, .inl (k_state, 200, .inl (fun _ => 0))), (m_gate, .inl (k_gate, 20, .inl (fun _ => 0))), (m_guest, .inl (k_guest, 25, .inl (fun _ => 0))), (m_gone, .inl (k_gone, 495, .inl (fun _ => 0)))] := hD
  obtain rfl : r_1 = 0 := hw_2
  refine lv_aload_n hx hb dL_law_310 rfl (lv_at hl 1 rfl) ?_
  have hPc := hP.sub (ws' := [(m0, .inr (7, [.int 0, .ref m_width, .ref m_many, .ref m_cells, .ref m_moved, .ref m_tape, .int 0, .int 0, .int 0, .int 0, .int 0, .long 0, .int 0, .int 0, .int 0, .int (-1), .ref m_lines, .ref m_has, .ref m_state, .ref m_gate, .ref m_guest, .ref m_gone, .int 0, .ref m_isKept, .ref m_first, .ref m_second, .int 0, .ref m_far, .ref m_wished, .ref m_wasState, .ref m_isHere, .ref m_round, .ref m_bestRound, .int 0, .int 0, .long 0, .long 0, .ref m_taken, .int 0])), (m_lines, .inl (k_lines, 5, .inl (fun _ => 0))), (m_has, .inl (k_has, 45, .inl (fun _ => 0))), (m_state, .inl (k_state, 200, .inl (fun _ => 0))), (m_gate, .inl (k_gate, 20, .inl (fun _ => 0))), (m_guest, .inl (k_guest, 25, .inl (fun _ => 0))), (m_gone, .inl (k_gone, 495, .inl (fun _ => 0)))]) [0, 1, 2, 3, 4, 5, 6] rfl
  have hDc := hD.sub (ws' := [(m0, .inr (7, [.int 0, .ref m_width, .ref m_many, .ref m_cells, .ref m_moved, .ref m_tape, .int 0, .int 0, .int 0, .int 0, .int 0, .long 0, .int 0, .int 0, .int 0, .int (-1), .ref m_lines, .ref m_has, .ref m_state, .ref m_gate, .ref m_guest, .ref m_gone, .int 0, .ref m_isKept, .ref m_first, .ref m_second, .int 0, .ref m_far, .ref m_wished, .ref m_wasState, .ref m_isHere, .ref m_round, .ref m_bestRound, .int 0, .int 0, .long 0, .long 0, .ref m_taken, .int 0])), (m_lines, .inl (k_lines, 5, .inl (fun _ => 0))), (m_has, .inl (k_has, 45, .inl (fun _ => 0))), (m_state, .inl (k_state, 200, .inl (fun _ => 0))), (m_gate, .inl (k_gate, 20, .inl (fun _ => 0))), (m_guest, .inl (k_guest, 25, .inl (fun _ => 0))), (m_gone, .inl (k_gone, 495, .inl (fun _ => 0)))]) [0, 1, 2, 3, 4, 5, 6] (by decide) rfl
  have hKc := hK.sub (tys' := [(k_lines, .int), (k_has, .int), (k_state, .int), (k_gate, .int), (k_guest, .int), (k_gone, .int)]) [9, 10, 11, 12, 13, 14] rfl
  have hFc := va_free (wc := [(m0, .inr (7, [.int 0, .ref m_width, .ref m_many, .ref m_cells, .ref m_moved, .ref m_tape, .int 0, .int 0, .int 0, .int 0, .int 0, .long 0, .int 0, .int 0, .int 0, .int (-1), .ref m_lines, .ref m_has, .ref m_state, .ref m_gate, .ref m_guest, .ref m_gone, .int 0, .ref m_isKept, .ref m_first, .ref m_second, .int 0, .ref m_far, .ref m_wished, .ref m_wasState, .ref m_isHere, .ref m_round, .ref m_bestRound, .int 0, .int 0, .long 0, .long 0, .ref m_taken, .int 0])), (m_lines, .inl (k_lines, 5, .inl (fun _ => 0))), (m_has, .inl (k_has, 45, .inl (fun _ => 0))), (m_state, .inl (k_state, 200, .inl (fun _ => 0))), (m_gate, .inl (k_gate, 20, .inl (fun _ => 0))), (m_guest, .inl (k_guest, 25, .inl (fun _ => 0))), (m_gone, .inl (k_gone, 495, .inl (fun _ => 0)))]) hD hS hA [0, 1, 2, 3, 4, 5, 6] rfl
  refine va_calli (va_runV (As := []) (rest := [.int 0]) ⟨hx, hb, hml, hown, hts⟩ (c_X7_maze l dC dI H.size m0 m_width m_many m_cells m_moved m_tape m_lines m_has m_state m_gate m_guest m_gone m_isKept m_first m_second m_far m_wished m_wasState m_isHere m_round m_bestRound m_taken k_lines k_has k_state k_gate k_guest k_gone ) (cwV 0 hts g_law_X7_maze rfl rfl rfl (by decide +kernel) ⟨Nat.le_of_ble_eq_true rfl, Nat.le_of_ble_eq_true rfl⟩) ⟨fun a U g mk q => by obtain ⟨q0, q1, qP, qK, qD⟩ := q; exact ⟨q0, q1, qP, va_K.moved (u := U) (U := U.calling g mk a) (Vm.Alike.refl U.vm) qK, qD⟩, va_recv hKc hPc (ci := 7) (q0 := 0) rfl rfl, fun U hU hW => ⟨rfl, by rw [hU], by rw [hU]; exact hPc, va_K.moved hW.alike hKc, hDc.weaken (fun _ _ _ _ => trivial)⟩⟩ rfl rfl hl.1 rfl (lv_room (Nat.le_of_ble_eq_true rfl)) dL_law_311 ⟨Nat.le_of_ble_eq_true rfl, Nat.le_of_ble_eq_true rfl⟩) hS (fun q _ h => hFc q h) hFc (fun r_3 u t H1 locs ht hvm hw_4 hB hz1 hk1 hS => ?_)
  have hP1 : va_P (dC, dI) vwCl [] H1 := i_nilP
  have hD1 : va_D (va_A [(m0, .inr (7, [.int 0, .ref m_width, .ref m_many, .ref m_cells, .ref m_moved, .ref m_tape, .int 0, .int 0, .int 0, .int 0, .int 0, .long 0, .int 0, .int 0, .int 0, .int (-1), .ref m_lines, .ref m_has, .ref m_state, .ref m_gate, .ref m_guest, .ref m_gone, .int 0, .ref m_isKept, .ref m_first, .ref m_second, .int 0, .ref m_far, .ref m_wished, .ref m_wasState, .ref m_isHere, .ref m_round, .ref m_bestRound, .int 0, .int 0, .long 0, .long 0, .ref m_taken, .int 0])), (m_lines, .inl (k_lines, 5, .inl (fun _ => 0))), (m_has, .inl (k_has, 45, .inl (fun _ => 0))), (m_state, .inl (k_state, 200, .inl (fun _ => 0))), (m_gate, .inl (k_gate, 20, .inl (fun _ => 0))), (m_guest, .inl (k_guest, 25, .inl (fun _ => 0))), (m_gone, .inl (k_gone, 495, .inl (fun _ => 0)))] H.size) [] := i_nilD
  try dsimp only at hw_4
  obtain ⟨hP, hD⟩ := va_join (wr := []) (w1 := []) hP hD [0, 1, 2, 3, 4, 5, 6] [] rfl rfl (by decide) (by decide) hk1 hFc hP1 hD1
  generalize H1 = H at hP hS ⊢
  have hP : va_P (dC, dI) vwCl [] H := hP
  have hD : va_D A [] := hD
  obtain rfl : r_3 = 0 := hw_4
  refine lv_icmp_eq (tgt := 1569) hx hb dL_law_314 (by decide) (fun _ => ?_) (fun h => absurd (by decide) h)
  refine lv_iinc (v := 6) (lv' := [(3, .int 6), (2, .ref m0), (1, .ref x0), (0, .ref b)]) hx hb dL_law_1569 hl (k := 0) rfl (by decide) (by decide) rfl (fun ls hl => ?_)
  refine lv_goto (tgt := 18) hx hb dL_law_1572 (by decide) ?_
  exact law_exit C0 hA2 hS (lv_sub hl [0, 3] rfl) (by decide) (by omega) (by omega)

set_option maxHeartbeats 4000000 in
set_option maxRecDepth 100000 in
/-- the law, its call 3: fault -/
theorem law_3 {p : Program} {e : Env} {s : State} {m : MethodId} {below : List Frame} {meth : Method} {c : Code} (l : Launch) {b : Nat} {xs : Nat → Int32} (C0 : lw_At p s m meth c b 6 xs) {A : Nat → Prop} (hA : ∀ q, s.heap.size ≤ q → A q) (hA2 : ∀ q, A q → s.heap.size ≤ q) {x0 : Nat} {tp : Nat} {rd : Nat} {gd : Nat} {im : Nat} {rw : Nat} {gn : Nat} {ho : Nat} {sq : Nat} {m0 : Nat} {m_width : Nat} {m_many : Nat} {m_cells : Nat} {m_moved : Nat} {m_tape : Nat} {m_lines : Nat} {m_has : Nat} {m_state : Nat} {m_gate : Nat} {m_guest : Nat} {m_gone : Nat} {m_isKept : Nat} {m_first : Nat} {m_second : Nat} {m_far : Nat} {m_wished : Nat} {m_wasState : Nat} {m_isHere : Nat} {m_round : Nat} {m_bestRound : Nat} {m_taken : Nat} (hE0 : Kx s) {dC : Nat → ClassId} {dI : Nat → Nat → Nat} (hK : va_K (dC, dI) vwCl [] s) {H : Heap} {locs : List Loc} (hP : va_P (dC, dI) vwCl [(x0, .inr (6, [.ref tp, .int 0, .int 0, .int (-1), .ref rd, .ref gd, .ref im, .ref rw, .ref gn, .ref ho, .ref sq])), (m0, .inr (7, [.int 0, .ref m_width, .ref m_many, .ref m_cells, .ref m_moved, .ref m_tape, .int 0, .int 0, .int 0, .int 0, .int 0, .long 0, .int 0, .int 0, .int 0, .int (-1), .ref m_lines, .ref m_has, .ref m_state, .ref m_gate, .ref m_guest, .ref m_gone, .int 0, .ref m_isKept, .ref m_first, .ref m_second, .int 0, .ref m_far, .ref m_wished, .ref m_wasState, .ref m_isHere, .ref m_round, .ref m_bestRound, .int 0, .int 0, .long 0, .long 0, .ref m_taken, .int 0]))] H) (hD : va_D A [(x0, .inr (6, [.ref tp, .int 0, .int 0, .int (-1), .ref rd, .ref gd, .ref im, .ref rw, .ref gn, .ref ho, .ref sq])), (m0, .inr (7, [.int 0, .ref m_width, .ref m_many, .ref m_cells, .ref m_moved, .ref m_tape, .int 0, .int 0, .int 0, .int 0, .int 0, .long 0, .int 0, .int 0, .int 0, .int (-1), .ref m_lines, .ref m_has, .ref m_state, .ref m_gate, .ref m_guest, .ref m_gone, .int 0, .ref m_isKept, .ref m_first, .ref m_second, .int 0, .ref m_far, .ref m_wished, .ref m_wasState, .ref m_isHere, .ref m_round, .ref m_bestRound, .int 0, .int 0, .long 0, .long 0, .ref m_taken, .int 0]))]) (hS : va_S A s.heap H locs) {ls : Array Slot} (hl : lv_has ls 4 [(3, .int 0), (2, .ref m0), (1, .ref x0), (0, .ref b)]) : W p l e room_1 s m #[Value.ref b] below meth c H locs 70 7203 (lw_Z below #[Value.ref b] s) (F0 m 319 ls []) := by
  obtain ⟨hx, hb, hr, hml, hown, hts, hX, hbl, hlocks, hgv⟩ := id C0
  have hown : s.vm.findClass RL = some m.cls := hown
  have hts := fun w (h : w ∈ wz_law) => hts w (wz_law_in w h)
  have hbA : ¬ A b := fun h => absurd (hA2 b h) (Nat.not_le.mpr hbl)
  obtain ⟨a0, ea0⟩ : ∃ y : Int32, y = xs (0 : Int32).toNatClampNeg := ⟨_, rfl⟩
  obtain ⟨a1, ea1⟩ : ∃ y : Int32, y = xs (1 : Int32).toNatClampNeg := ⟨_, rfl⟩
  obtain ⟨a2, ea2⟩ : ∃ y : Int32, y = xs (2 : Int32).toNatClampNeg := ⟨_, rfl⟩
  obtain ⟨a3, ea3⟩ : ∃ y : Int32, y = xs (3 : Int32).toNatClampNeg := ⟨_, rfl⟩
  obtain ⟨a4, ea4⟩ : ∃ y : Int32, y = xs (4 : Int32).toNatClampNeg := ⟨_, rfl⟩
  obtain ⟨a5, ea5⟩ : ∃ y : Int32, y = xs (5 : Int32).toNatClampNeg := ⟨_, rfl⟩
  refine lv_aload_n hx hb dL_law_319 rfl (lv_at hl 2 rfl) ?_
  refine lv_aload_n hx hb dL_law_320 rfl (lv_at hl 3 rfl) ?_
  refine lv_iload_n hx hb dL_law_321 rfl (lv_at hl 0 rfl) ?_
  refine lv_iconst (v := 1) hx hb dL_law_322 (by decide) ?_
  refine lv_iadd hx hb dL_law_323 ?_
  refine lv_topi (fun z_1 ez_1 => ?_)
  obtain rfl : z_1 = 1 := ez_1.trans (by decide)
  refine va_sld hx hb hX hbl hbA hS (vp_in_iff.mpr ⟨by decide, by decide⟩) dL_law_324 ?_
  refine lv_topi (fun z_2 ez_2 => ?_)
  obtain rfl : a1 = z_2 := ea1.trans ez_2.symm
  have hPc := hP.sub (ws' := [(x0, .inr (6, [.ref tp, .int 0, .int 0, .int (-1), .ref rd, .ref gd, .ref im, .ref rw, .ref gn, .ref ho, .ref sq]))]) [0] rfl
  have hDc := hD.sub (ws' := [(x0, .inr (6, [.ref tp, .int 0, .int 0, .int (-1), .ref rd, .ref gd, .ref im, .ref rw, .ref gn, .ref ho, .ref sq]))]) [0] (by decide) rfl
  have hKc := hK.sub (tys' := []) [] rfl
  have hFc := va_free (wc := [(x0, .inr (6, [.ref tp, .int 0, .int 0, .int (-1), .ref rd, .ref gd, .ref im, .ref rw, .ref gn, .ref ho, .ref sq]))]) hD hS hA [0] rfl
  refine va_calli (va_runV (As := [.int a1]) (rest := []) ⟨hx, hb, hml, hown, hts⟩ (c_X6_fault l dC dI H.size x0 tp rd gd im rw gn ho sq a1 ) (cwV 1 hts g_law_X6_fault rfl rfl rfl (by decide +kernel) ⟨Nat.le_of_ble_eq_true rfl, Nat.le_of_ble_eq_true rfl⟩) ⟨fun a U g mk q => by obtain ⟨q0, q1, qP, qK, qD⟩ := q; exact ⟨q0, q1, qP, va_K.moved (u := U) (U := U.calling g mk a) (Vm.Alike.refl U.vm) qK, qD⟩, va_recv hKc hPc (ci := 6) (q0 := 0) rfl rfl, fun U hU hW => ⟨rfl, by rw [hU], by rw [hU]; exact hPc, va_K.moved hW.alike hKc, hDc.weaken (fun _ _ _ _ => trivial)⟩⟩ rfl rfl hl.1 rfl (lv_room (Nat.le_of_ble_eq_true rfl)) dL_law_325 ⟨Nat.le_of_ble_eq_true rfl, Nat.le_of_ble_eq_true rfl⟩) hS (fun q _ h => hFc q h) hFc (fun r_3 u t H1 locs ht hvm hw_4 hB hz1 hk1 hS => ?_)
  have hP1 : va_P (dC, dI) vwCl [] H1 := i_nilP
  have hD1 : va_D (va_A [(x0, .inr (6, [.ref tp, .int 0, .int 0, .int (-1), .ref rd, .ref gd, .ref im, .ref rw, .ref gn, .ref ho, .ref sq]))] H.size) [] := i_nilD
  try dsimp only at hw_4
  obtain ⟨hP, hD⟩ := va_join (wr := [(m0, .inr (7, [.int 0, .ref m_width, .ref m_many, .ref m_cells, .ref m_moved, .ref m_tape, .int 0, .int 0, .int 0, .int 0, .int 0, .long 0, .int 0, .int 0, .int 0, .int (-1), .ref m_lines, .ref m_has, .ref m_state, .ref m_gate, .ref m_guest, .ref m_gone, .int 0, .ref m_isKept, .ref m_first, .ref m_second, .int 0, .ref m_far, .ref m_wished, .ref m_wasState, .ref m_isHere, .ref m_round, .ref m_bestRound, .int 0, .int 0, .long 0, .long 0, .ref m_taken, .int 0]))]) (w1 := []) hP hD [0] [1] rfl rfl (by decide) (by decide) hk1 hFc hP1 hD1
  generalize H1 = H at hP hS ⊢
  have hP : va_P (dC, dI) vwCl [(m0, .inr (7, [.int 0, .ref m_width, .ref m_many, .ref m_cells, .ref m_moved, .ref m_tape, .int 0, .int 0, .int 0, .int 0, .int 0, .long 0, .int 0, .int 0, .int 0, .int (-1), .ref m_lines, .ref m_has, .ref m_state, .ref m_gate, .ref m_guest, .ref m_gone, .int 0, .ref m_isKept, .ref m_first, .ref m_second, .int 0, .ref m_far, .ref m_wished, .ref m_wasState, .ref m_isHere, .ref m_round, .ref m_bestRound, .int 0, .int 0, .long 0, .long 0, .ref m_taken, .int 0]))] H := hP
  have hD : va_D A [(m0, .inr (7, [.int 0, .ref m_width, .ref m_many, .ref m_cells, .ref m_moved, .ref m_tape, .int 0, .int 0, .int 0, .int 0, .int 0, .long 0, .int 0, .int 0, .int 0, .int (-1), .ref m_lines, .ref m_has, .ref m_state, .ref m_gate, .ref m_guest, .ref m_gone, .int 0, .ref m_isKept, .ref m_first, .ref m_second, .int 0, .ref m_far, .ref m_wished, .ref m_wasState, .ref m_isHere, .ref m_round, .ref m_bestRound, .int 0, .int 0, .long 0, .long 0, .ref m_taken, .int 0]))] := hD
  refine lv_aload_n hx hb dL_law_328 rfl (lv_at hl 1 rfl) ?_
  refine lv_aload_n hx hb dL_law_329 rfl (lv_at hl 3 rfl) ?_
  refine lv_iload_n hx hb dL_law_330 rfl (lv_at hl 0 rfl) ?_
  refine lv_iconst (v := 1) hx hb dL_law_331 (by decide) ?_
  refine lv_iadd hx hb dL_law_332 ?_
  refine lv_topi (fun z_5 ez_5 => ?_)
  obtain rfl : z_5 = 1 := ez_5.trans (by decide)
  refine va_sld hx hb hX hbl hbA hS (vp_in_iff.mpr ⟨by decide, by decide⟩) dL_law_333 ?_
  refine lv_topi (fun z_6 ez_6 => ?_)
  obtain rfl : a1 = z_6 := ea1.trans ez_6.symm
  have hPc := hP.sub (ws' := [(m0, .inr (7, [.int 0, .ref m_width, .ref m_many, .ref m_cells, .ref m_moved, .ref m_tape, .int 0, .int 0, .int 0, .int 0, .int 0, .long 0, .int 0, .int 0, .int 0, .int (-1), .ref m_lines, .ref m_has, .ref m_state, .ref m_gate, .ref m_guest, .ref m_gone, .int 0, .ref m_isKept, .ref m_first, .ref m_second, .int 0, .ref m_far, .ref m_wished, .ref m_wasState, .ref m_isHere, .ref m_round, .ref m_bestRound, .int 0, .int 0, .long 0, .long 0, .ref m_taken, .int 0]))]) [0] rfl
  have hDc := hD.sub (ws' := [(m0, .inr (7, [.int 0, .ref m_width, .ref m_many, .ref m_cells, .ref m_moved, .ref m_tape, .int 0, .int 0, .int 0, .int 0, .int 0, .long 0, .int 0, .int 0, .int 0, .int (-1), .ref m_lines, .ref m_has, .ref m_state, .ref m_gate, .ref m_guest, .ref m_gone, .int 0, .ref m_isKept, .ref m_first, .ref m_second, .int 0, .ref m_far, .ref m_wished, .ref m_wasState, .ref m_isHere, .ref m_round, .ref m_bestRound, .int 0, .int 0, .long 0, .long 0, .ref m_taken, .int 0]))]) [0] (by decide) rfl
  have hKc := hK.sub (tys' := []) [] rfl
  have hFc := va_free (wc := [(m0, .inr (7, [.int 0, .ref m_width, .ref m_many, .ref m_cells, .ref m_moved, .ref m_tape, .int 0, .int 0, .int 0, .int 0, .int 0, .long 0, .int 0, .int 0, .int 0, .int (-1), .ref m_lines, .ref m_has, .ref m_state, .ref m_gate, .ref m_guest, .ref m_gone, .int 0, .ref m_isKept, .ref m_first, .ref m_second, .int 0, .ref m_far, .ref m_wished, .ref m_wasState, .ref m_isHere, .ref m_round, .ref m_bestRound, .int 0, .int 0, .long 0, .long 0, .ref m_taken, .int 0]))]) hD hS hA [0] rfl
  refine va_calli (va_runV (As := [.int a1]) (rest := [.int r_3]) ⟨hx, hb, hml, hown, hts⟩ (c_X7_fault l dC dI H.size m0 m_width m_many m_cells m_moved m_tape m_lines m_has m_state m_gate m_guest m_gone m_isKept m_first m_second m_far m_wished m_wasState m_isHere m_round m_bestRound m_taken a1 ) (cwV 1 hts g_law_X7_fault rfl rfl rfl (by decide +kernel) ⟨Nat.le_of_ble_eq_true rfl, Nat.le_of_ble_eq_true rfl⟩) ⟨fun a U g mk q => by obtain ⟨q0, q1, qP, qK, qD⟩ := q; exact ⟨q0, q1, qP, va_K.moved (u := U) (U := U.calling g mk a) (Vm.Alike.refl U.vm) qK, qD⟩, va_recv hKc hPc (ci := 7) (q0 := 0) rfl rfl, fun U hU hW => ⟨rfl, by rw [hU], by rw [hU]; exact hPc, va_K.moved hW.alike hKc, hDc.weaken (fun _ _ _ _ => trivial)⟩⟩ rfl rfl hl.1 rfl (lv_room (Nat.le_of_ble_eq_true rfl)) dL_law_334 ⟨Nat.le_of_ble_eq_true rfl, Nat.le_of_ble_eq_true rfl⟩) hS (fun q _ h => hFc q h) hFc (fun r_7 u t H1 locs ht hvm hw_8 hB hz1 hk1 hS => ?_)
  have hP1 : va_P (dC, dI) vwCl [] H1 := i_nilP
  have hD1 : va_D (va_A [(m0, .inr (7, [.int 0, .ref m_width, .ref m_many, .ref m_cells, .ref m_moved, .ref m_tape, .int 0, .int 0, .int 0, .int 0, .int 0, .long 0, .int 0, .int 0, .int 0, .int (-1), .ref m_lines, .ref m_has, .ref m_state, .ref m_gate, .ref m_guest, .ref m_gone, .int 0, .ref m_isKept, .ref m_first, .ref m_second, .int 0, .ref m_far, .ref m_wished, .ref m_wasState, .ref m_isHere, .ref m_round, .ref m_bestRound, .int 0, .int 0, .long 0, .long 0, .ref m_taken, .int 0]))] H.size) [] := i_nilD
  try dsimp only at hw_8
  obtain ⟨hP, hD⟩ := va_join (wr := []) (w1 := []) hP hD [0] [] rfl rfl (by decide) (by decide) hk1 hFc hP1 hD1
  generalize H1 = H at hP hS ⊢
  have hP : va_P (dC, dI) vwCl [] H := hP
  have hD : va_D A [] := hD
  refine lv_icmp_eq (tgt := 1569) hx hb dL_law_337 (by decide) (fun c_9 => ?_) (fun c_9 => absurd (hw_4.trans hw_8.symm) c_9)
  have c_9 : r_3.toInt = r_7.toInt := i_eq (a := r_3) (b := r_7) rfl rfl c_9
  refine lv_iinc (v := 6) (lv' := [(3, .int 6), (2, .ref m0), (1, .ref x0), (0, .ref b)]) hx hb dL_law_1569 hl (k := 0) rfl (by decide) (by decide) rfl (fun ls hl => ?_)
  refine lv_goto (tgt := 18) hx hb dL_law_1572 (by decide) ?_
  exact law_exit C0 hA2 hS (lv_sub hl [0, 3] rfl) (by decide) (by omega) (by omega)

set_option maxHeartbeats 4000000 in
set_option maxRecDepth 100000 in
/-- the law, its call 4: sides -/
theorem law_4 {p : Program} {e : Env} {s : State} {m : MethodId} {below : List Frame} {meth : Method} {c : Code} (l : Launch) {b : Nat} {xs : Nat → Int32} (C0 : lw_At p s m meth c b 6 xs) {A : Nat → Prop} (hA : ∀ q, s.heap.size ≤ q → A q) (hA2 : ∀ q, A q → s.heap.size ≤ q) {x0 : Nat} {tp : Nat} {rd : Nat} {gd : Nat} {im : Nat} {rw : Nat} {gn : Nat} {ho : Nat} {sq : Nat} {pl : Nat} {gdt : Nat} {gdu : Nat} {gdn : Nat} {plf : Nat} {plo : Nat} {plb : Nat} {pla : Nat} {m0 : Nat} {m_width : Nat} {m_many : Nat} {m_cells : Nat} {m_moved : Nat} {m_tape : Nat} {m_lines : Nat} {m_has : Nat} {m_state : Nat} {m_gate : Nat} {m_guest : Nat} {m_gone : Nat} {m_isKept : Nat} {m_first : Nat} {m_second : Nat} {m_far : Nat} {m_wished : Nat} {m_wasState : Nat} {m_isHere : Nat} {m_round : Nat} {m_bestRound : Nat} {m_taken : Nat} {k_lines : ClassId} {k_has : ClassId} (hE0 : Kx s) {dC : Nat → ClassId} {dI : Nat → Nat → Nat} (hK : va_K (dC, dI) vwCl [(k_lines, .int), (k_has, .int)] s) {H : Heap} {locs : List Loc} (hP : va_P (dC, dI) vwCl [(x0, .inr (6, [.ref tp, .int 0, .int 0, .int (-1), .ref rd, .ref gd, .ref im, .ref rw, .ref gn, .ref ho, .ref sq])), (gd, .inr (0, [.ref pl, .int 0, .long 0, .long 0, .int 0, .int (-1), .int 0, .ref gdt, .int 0, .ref gdu, .int 0, .ref gdn])), (pl, .inr (3, [.int 0, .int 0, .int 0, .int 0, .long 0, .ref plf, .ref plo, .ref plb, .ref pla])), (m0, .inr (7, [.int 0, .ref m_width, .ref m_many, .ref m_cells, .ref m_moved, .ref m_tape, .int 0, .int 0, .int 0, .int 0, .int 0, .long 0, .int 0, .int 0, .int 0, .int (-1), .ref m_lines, .ref m_has, .ref m_state, .ref m_gate, .ref m_guest, .ref m_gone, .int 0, .ref m_isKept, .ref m_first, .ref m_second, .int 0, .ref m_far, .ref m_wished, .ref m_wasState, .ref m_isHere, .ref m_round, .ref m_bestRound, .int 0, .int 0, .long 0, .long 0, .ref m_taken, .int 0])), (m_lines, .inl (k_lines, 5, .inl (fun _ => 0))), (m_has, .inl (k_has, 45, .inl (fun _ => 0)))] H) (hD : va_D A [(x0, .inr (6, [.ref tp, .int 0, .int 0, .int (-1), .ref rd, .ref gd, .ref im, .ref rw, .ref gn, .ref ho, .ref sq])), (gd, .inr (0, [.ref pl, .int 0, .long 0, .long 0, .int 0, .int (-1), .int 0, .ref gdt, .int 0, .ref gdu, .int 0, .ref gdn])), (pl, .inr (3, [.int 0, .int 0, .int 0, .int 0, .long 0, .ref plf, .ref plo, .ref plb, .ref pla])), (m0, .inr (7, [.int 0, .ref m_width, .ref m_many, .ref m_cells, .ref m_moved, .ref m_tape, .int 0, .int 0, .int 0, .int 0, .int 0, .long 0, .int 0, .int 0, .int 0, .int (-1), .ref m_lines, .ref m_has, .ref m_state, .ref m_gate, .ref m_guest, .ref m_gone, .int 0, .ref m_isKept, .ref m_first, .ref m_second, .int 0, .ref m_far, .ref m_wished, .ref m_wasState, .ref m_isHere, .ref m_round, .ref m_bestRound, .int 0, .int 0, .long 0, .long 0, .ref m_taken, .int 0])), (m_lines, .inl (k_lines, 5, .inl (fun _ => 0))), (m_has, .inl (k_has, 45, .inl (fun _ => 0)))]) (hS : va_S A s.heap H locs) {ls : Array Slot} (hl : lv_has ls 4 [(3, .int 0), (2, .ref m0), (1, .ref x0), (0, .ref b)]) : W p l e room_1 s m #[Value.ref b] below meth c H locs 70 7203 (lw_Z below #[Value.ref b] s) (F0 m 342 ls []) := by
  obtain ⟨hx, hb, hr, hml, hown, hts, hX, hbl, hlocks, hgv⟩ := id C0
  have hown : s.vm.findClass RL = some m.cls := hown
  have hts := fun w (h : w ∈ wz_law) => hts w (wz_law_in w h)
  have hbA : ¬ A b := fun h => absurd (hA2 b h) (Nat.not_le.mpr hbl)
  obtain ⟨a0, ea0⟩ : ∃ y : Int32, y = xs (0 : Int32).toNatClampNeg := ⟨_, rfl⟩
  obtain ⟨a1, ea1⟩ : ∃ y : Int32, y = xs (1 : Int32).toNatClampNeg := ⟨_, rfl⟩
  obtain ⟨a2, ea2⟩ : ∃ y : Int32, y = xs (2 : Int32).toNatClampNeg := ⟨_, rfl⟩
  obtain ⟨a3, ea3⟩ : ∃ y : Int32, y = xs (3 : Int32).toNatClampNeg := ⟨_, rfl⟩
  obtain ⟨a4, ea4⟩ : ∃ y : Int32, y = xs (4 : Int32).toNatClampNeg := ⟨_, rfl⟩
  obtain ⟨a5, ea5⟩ : ∃ y : Int32, y = xs (5 : Int32).toNatClampNeg := ⟨_, rfl⟩
  refine lv_aload_n hx hb dL_law_342 rfl (lv_at hl 2 rfl) ?_
  have hPc := hP.sub (ws' := [(x0, .inr (6, [.ref tp, .int 0, .int 0, .int (-1), .ref rd, .ref gd, .ref im, .ref rw, .ref gn, .ref ho, .ref sq])), (gd, .inr (0, [.ref pl, .int 0, .long 0, .long 0, .int 0, .int (-1), .int 0, .ref gdt, .int 0, .ref gdu, .int 0, .ref gdn])), (pl, .inr (3, [.int 0, .int 0, .int 0, .int 0, .long 0, .ref plf, .ref plo, .ref plb, .ref pla]))]) [0, 1, 2] rfl
  have hDc := hD.sub (ws' := [(x0, .inr (6, [.ref tp, .int 0, .int 0, .int (-1), .ref rd, .ref gd, .ref im, .ref rw, .ref gn, .ref ho, .ref sq])), (gd, .inr (0, [.ref pl, .int 0, .long 0, .long 0, .int 0, .int (-1), .int 0, .ref gdt, .int 0, .ref gdu, .int 0, .ref gdn])), (pl, .inr (3, [.int 0, .int 0, .int 0, .int 0, .long 0, .ref plf, .ref plo, .ref plb, .ref pla]))]) [0, 1, 2] (by decide) rfl
  have hKc := hK.sub (tys' := []) [] rfl
  have hFc := va_free (wc := [(x0, .inr (6, [.ref tp, .int 0, .int 0, .int (-1), .ref rd, .ref gd, .ref im, .ref rw, .ref gn, .ref ho, .ref sq])), (gd, .inr (0, [.ref pl, .int 0, .long 0, .long 0, .int 0, .int (-1), .int 0, .ref gdt, .int 0, .ref gdu, .int 0, .ref gdn])), (pl, .inr (3, [.int 0, .int 0, .int 0, .int 0, .long 0, .ref plf, .ref plo, .ref plb, .ref pla]))]) hD hS hA [0, 1, 2] rfl
  refine va_calli (va_runV (As := []) (rest := []) ⟨hx, hb, hml, hown, hts⟩ (c_X6_sides l dC dI H.size x0 tp rd gd im rw gn ho sq pl gdt gdu gdn plf plo plb pla ) (cwV 0 hts g_law_X6_sides rfl rfl rfl (by decide +kernel) ⟨Nat.le_of_ble_eq_true rfl, Nat.le_of_ble_eq_true rfl⟩) ⟨fun a U g mk q => by obtain ⟨q0, q1, qP, qK, qD⟩ := q; exact ⟨q0, q1, qP, va_K.moved (u := U) (U := U.calling g mk a) (Vm.Alike.refl U.vm) qK, qD⟩, va_recv hKc hPc (ci := 6) (q0 := 0) rfl rfl, fun U hU hW => ⟨rfl, by rw [hU], by rw [hU]; exact hPc, va_K.moved hW.alike hKc, hDc.weaken (fun _ _ _ _ => trivial)⟩⟩ rfl rfl hl.1 rfl (lv_room (Nat.le_of_ble_eq_true rfl)) dL_law_343 ⟨Nat.le_of_ble_eq_true rfl, Nat.le_of_ble_eq_true rfl⟩) hS (fun q _ h => hFc q h) hFc (fun r_1 u t H1 locs ht hvm hw_2 hB hz1 hk1 hS => ?_)
  have hP1 : va_P (dC, dI) vwCl [] H1 := i_nilP
  have hD1 : va_D (va_A [(x0, .inr (6, [.ref tp, .int 0, .int 0, .int (-1), .ref rd, .ref gd, .ref im, .ref rw, .ref gn, .ref ho, .ref sq])), (gd, .inr (0, [.ref pl, .int 0, .long 0, .long 0, .int 0, .int (-1), .int 0, .ref gdt, .int 0, .ref gdu, .int 0, .ref gdn])), (pl, .inr (3, [.int 0, .int 0, .int 0, .int 0, .long 0, .ref plf, .ref plo, .ref plb, .ref pla]))] H.size) [] := i_nilD
  try dsimp only at hw_2
  obtain ⟨hP, hD⟩ := va_join (wr := [(m0, .inr (7, [.int 0, .ref m_width, .ref m_many, .ref m_cells, .ref m_moved, .ref m_tape, .int 0, .int 0, .int 0, .int 0, .int 0, .long 0, .int 0, .int 0, .int 0, .int (-1), .ref m_lines, .ref m_has, .ref m_state, .ref m_gate, .ref m_guest, .ref m_gone, .int 0, .ref m_isKept, .ref m_first, .ref m_second, .int 0, .ref m_far, .ref m_wished, .ref m_wasState, .ref m_isHere, .ref m_round, .ref m_bestRound, .int 0, .int 0, .long 0, .long 0, .ref m_taken, .int 0])), (m_lines, .inl (k_lines, 5, .inl (fun _ => 0))), (m_has, .inl (k_has, 45, .inl (fun _ => 0)))]) (w1 := []) hP hD [0, 1, 2] [3, 4, 5] rfl rfl (by decide) (by decide) hk1 hFc hP1 hD1
  generalize H1 = H at hP hS ⊢
  have hP : va_P (dC, dI) vwCl [(m0, .inr (7, [.int 0, .ref m_width, .ref m_many, .ref m_cells, .ref m_moved, .ref m_tape, .int 0, .int 0, .int 0, .int 0, .int 0, .long 0, .int 0, .int 0, .int 0, .int (-1), .ref m_lines, .ref m_has, .ref m_state, .ref m_gate, .ref m_guest, .ref m_gone, .int 0, .ref m_isKept, .ref m_first, .ref m_second, .int 0, .ref m_far, .ref m_wished, .ref m_wasState, .ref m_isHere, .ref m_round, .ref m_bestRound, .int 0, .int 0, .long 0, .long 0, .ref m_taken, .int 0])), (m_lines, .inl (k_lines, 5, .inl (fun _ => 0))), (m_has, .inl (k_has, 45, .inl (fun _ => 0)))] H := hP
  have hD : va_D A [(m0, .inr (7, [.int 0, .ref m_width, .ref m_many, .ref m_cells, .ref m_moved, .ref m_tape, .int 0, .int 0, .int 0, .int 0, .int 0, .long 0, .int 0, .int 0, .int 0, .int (-1), .ref m_lines, .ref m_has, .ref m_state, .ref m_gate, .ref m_guest, .ref m_gone, .int 0, .ref m_isKept, .ref m_first, .ref m_second, .int 0, .ref m_far, .ref m_wished, .ref m_wasState, .ref m_isHere, .ref m_round, .ref m_bestRound, .int 0, .int 0, .long 0, .long 0, .ref m_taken, .int 0])), (m_lines, .inl (k_lines, 5, .inl (fun _ => 0))), (m_has, .inl (k_has, 45, .inl (fun _ => 0)))] := hD
  obtain rfl : r_1 = -2 := hw_2
  refine lv_aload_n hx hb dL_law_346 rfl (lv_at hl 1 rfl) ?_
  have hPc := hP.sub (ws' := [(m0, .inr (7, [.int 0, .ref m_width, .ref m_many, .ref m_cells, .ref m_moved, .ref m_tape, .int 0, .int 0, .int 0, .int 0, .int 0, .long 0, .int 0, .int 0, .int 0, .int (-1), .ref m_lines, .ref m_has, .ref m_state, .ref m_gate, .ref m_guest, .ref m_gone, .int 0, .ref m_isKept, .ref m_first, .ref m_second, .int 0, .ref m_far, .ref m_wished, .ref m_wasState, .ref m_isHere, .ref m_round, .ref m_bestRound, .int 0, .int 0, .long 0, .long 0, .ref m_taken, .int 0])), (m_lines, .inl (k_lines, 5, .inl (fun _ => 0))), (m_has, .inl (k_has, 45, .inl (fun _ => 0)))]) [0, 1, 2] rfl
  have hDc := hD.sub (ws' := [(m0, .inr (7, [.int 0, .ref m_width, .ref m_many, .ref m_cells, .ref m_moved, .ref m_tape, .int 0, .int 0, .int 0, .int 0, .int 0, .long 0, .int 0, .int 0, .int 0, .int (-1), .ref m_lines, .ref m_has, .ref m_state, .ref m_gate, .ref m_guest, .ref m_gone, .int 0, .ref m_isKept, .ref m_first, .ref m_second, .int 0, .ref m_far, .ref m_wished, .ref m_wasState, .ref m_isHere, .ref m_round, .ref m_bestRound, .int 0, .int 0, .long 0, .long 0, .ref m_taken, .int 0])), (m_lines, .inl (k_lines, 5, .inl (fun _ => 0))), (m_has, .inl (k_has, 45, .inl (fun _ => 0)))]) [0, 1, 2] (by decide) rfl
  have hKc := hK.sub (tys' := [(k_lines, .int), (k_has, .int)]) [0, 1] rfl
  have hFc := va_free (wc := [(m0, .inr (7, [.int 0, .ref m_width, .ref m_many, .ref m_cells, .ref m_moved, .ref m_tape, .int 0, .int 0, .int 0, .int 0, .int 0, .long 0, .int 0, .int 0, .int 0, .int (-1), .ref m_lines, .ref m_has, .ref m_state, .ref m_gate, .ref m_guest, .ref m_gone, .int 0, .ref m_isKept, .ref m_first, .ref m_second, .int 0, .ref m_far, .ref m_wished, .ref m_wasState, .ref m_isHere, .ref m_round, .ref m_bestRound, .int 0, .int 0, .long 0, .long 0, .ref m_taken, .int 0])), (m_lines, .inl (k_lines, 5, .inl (fun _ => 0))), (m_has, .inl (k_has, 45, .inl (fun _ => 0)))]) hD hS hA [0, 1, 2] rfl
  refine va_calli (va_runV (As := []) (rest := [.int (-2)]) ⟨hx, hb, hml, hown, hts⟩ (c_X7_sides l dC dI H.size m0 m_width m_many m_cells m_moved m_tape m_lines m_has m_state m_gate m_guest m_gone m_isKept m_first m_second m_far m_wished m_wasState m_isHere m_round m_bestRound m_taken k_lines k_has ) (cwV 0 hts g_law_X7_sides rfl rfl rfl (by decide +kernel) ⟨Nat.le_of_ble_eq_true rfl, Nat.le_of_ble_eq_true rfl⟩) ⟨fun a U g mk q => by obtain ⟨q0, q1, qP, qK, qD⟩ := q; exact ⟨q0, q1, qP, va_K.moved (u := U) (U := U.calling g mk a) (Vm.Alike.refl U.vm) qK, qD⟩, va_recv hKc hPc (ci := 7) (q0 := 0) rfl rfl, fun U hU hW => ⟨rfl, by rw [hU], by rw [hU]; exact hPc, va_K.moved hW.alike hKc, hDc.weaken (fun _ _ _ _ => trivial)⟩⟩ rfl rfl hl.1 rfl (lv_room (Nat.le_of_ble_eq_true rfl)) dL_law_347 ⟨Nat.le_of_ble_eq_true rfl, Nat.le_of_ble_eq_true rfl⟩) hS (fun q _ h => hFc q h) hFc (fun r_3 u t H1 locs ht hvm hw_4 hB hz1 hk1 hS => ?_)
  have hP1 : va_P (dC, dI) vwCl [] H1 := i_nilP
  have hD1 : va_D (va_A [(m0, .inr (7, [.int 0, .ref m_width, .ref m_many, .ref m_cells, .ref m_moved, .ref m_tape, .int 0, .int 0, .int 0, .int 0, .int 0, .long 0, .int 0, .int 0, .int 0, .int (-1), .ref m_lines, .ref m_has, .ref m_state, .ref m_gate, .ref m_guest, .ref m_gone, .int 0, .ref m_isKept, .ref m_first, .ref m_second, .int 0, .ref m_far, .ref m_wished, .ref m_wasState, .ref m_isHere, .ref m_round, .ref m_bestRound, .int 0, .int 0, .long 0, .long 0, .ref m_taken, .int 0])), (m_lines, .inl (k_lines, 5, .inl (fun _ => 0))), (m_has, .inl (k_has, 45, .inl (fun _ => 0)))] H.size) [] := i_nilD
  try dsimp only at hw_4
  obtain ⟨hP, hD⟩ := va_join (wr := []) (w1 := []) hP hD [0, 1, 2] [] rfl rfl (by decide) (by decide) hk1 hFc hP1 hD1
  generalize H1 = H at hP hS ⊢
  have hP : va_P (dC, dI) vwCl [] H := hP
  have hD : va_D A [] := hD
  obtain rfl : r_3 = -2 := hw_4
  refine lv_icmp_eq (tgt := 1569) hx hb dL_law_350 (by decide) (fun _ => ?_) (fun h => absurd (by decide) h)
  refine lv_iinc (v := 6) (lv' := [(3, .int 6), (2, .ref m0), (1, .ref x0), (0, .ref b)]) hx hb dL_law_1569 hl (k := 0) rfl (by decide) (by decide) rfl (fun ls hl => ?_)
  refine lv_goto (tgt := 18) hx hb dL_law_1572 (by decide) ?_
  exact law_exit C0 hA2 hS (lv_sub hl [0, 3] rfl) (by decide) (by omega) (by omega)

set_option maxHeartbeats 4000000 in
set_option maxRecDepth 100000 in
/-- the law, its call 5: side -/
theorem law_5 {p : Program} {e : Env} {s : State} {m : MethodId} {below : List Frame} {meth : Method} {c : Code} (l : Launch) {b : Nat} {xs : Nat → Int32} (C0 : lw_At p s m meth c b 6 xs) {A : Nat → Prop} (hA : ∀ q, s.heap.size ≤ q → A q) (hA2 : ∀ q, A q → s.heap.size ≤ q) {x0 : Nat} {tp : Nat} {rd : Nat} {gd : Nat} {im : Nat} {rw : Nat} {gn : Nat} {ho : Nat} {sq : Nat} {pl : Nat} {gdt : Nat} {gdu : Nat} {gdn : Nat} {plf : Nat} {plo : Nat} {plb : Nat} {pla : Nat} {m0 : Nat} {m_width : Nat} {m_many : Nat} {m_cells : Nat} {m_moved : Nat} {m_tape : Nat} {m_lines : Nat} {m_has : Nat} {m_state : Nat} {m_gate : Nat} {m_guest : Nat} {m_gone : Nat} {m_isKept : Nat} {m_first : Nat} {m_second : Nat} {m_far : Nat} {m_wished : Nat} {m_wasState : Nat} {m_isHere : Nat} {m_round : Nat} {m_bestRound : Nat} {m_taken : Nat} {k_lines : ClassId} {k_has : ClassId} (hE0 : Kx s) {dC : Nat → ClassId} {dI : Nat → Nat → Nat} (hK : va_K (dC, dI) vwCl [(k_lines, .int), (k_has, .int)] s) {H : Heap} {locs : List Loc} (hP : va_P (dC, dI) vwCl [(x0, .inr (6, [.ref tp, .int 0, .int 0, .int (-1), .ref rd, .ref gd, .ref im, .ref rw, .ref gn, .ref ho, .ref sq])), (gd, .inr (0, [.ref pl, .int 0, .long 0, .long 0, .int 0, .int (-1), .int 0, .ref gdt, .int 0, .ref gdu, .int 0, .ref gdn])), (pl, .inr (3, [.int 0, .int 0, .int 0, .int 0, .long 0, .ref plf, .ref plo, .ref plb, .ref pla])), (m0, .inr (7, [.int 0, .ref m_width, .ref m_many, .ref m_cells, .ref m_moved, .ref m_tape, .int 0, .int 0, .int 0, .int 0, .int 0, .long 0, .int 0, .int 0, .int 0, .int (-1), .ref m_lines, .ref m_has, .ref m_state, .ref m_gate, .ref m_guest, .ref m_gone, .int 0, .ref m_isKept, .ref m_first, .ref m_second, .int 0, .ref m_far, .ref m_wished, .ref m_wasState, .ref m_isHere, .ref m_round, .ref m_bestRound, .int 0, .int 0, .long 0, .long 0, .ref m_taken, .int 0])), (m_lines, .inl (k_lines, 5, .inl (fun _ => 0))), (m_has, .inl (k_has, 45, .inl (fun _ => 0)))] H) (hD : va_D A [(x0, .inr (6, [.ref tp, .int 0, .int 0, .int (-1), .ref rd, .ref gd, .ref im, .ref rw, .ref gn, .ref ho, .ref sq])), (gd, .inr (0, [.ref pl, .int 0, .long 0, .long 0, .int 0, .int (-1), .int 0, .ref gdt, .int 0, .ref gdu, .int 0, .ref gdn])), (pl, .inr (3, [.int 0, .int 0, .int 0, .int 0, .long 0, .ref plf, .ref plo, .ref plb, .ref pla])), (m0, .inr (7, [.int 0, .ref m_width, .ref m_many, .ref m_cells, .ref m_moved, .ref m_tape, .int 0, .int 0, .int 0, .int 0, .int 0, .long 0, .int 0, .int 0, .int 0, .int (-1), .ref m_lines, .ref m_has, .ref m_state, .ref m_gate, .ref m_guest, .ref m_gone, .int 0, .ref m_isKept, .ref m_first, .ref m_second, .int 0, .ref m_far, .ref m_wished, .ref m_wasState, .ref m_isHere, .ref m_round, .ref m_bestRound, .int 0, .int 0, .long 0, .long 0, .ref m_taken, .int 0])), (m_lines, .inl (k_lines, 5, .inl (fun _ => 0))), (m_has, .inl (k_has, 45, .inl (fun _ => 0)))]) (hS : va_S A s.heap H locs) {ls : Array Slot} (hl : lv_has ls 4 [(3, .int 0), (2, .ref m0), (1, .ref x0), (0, .ref b)]) : W p l e room_1 s m #[Value.ref b] below meth c H locs 70 7203 (lw_Z below #[Value.ref b] s) (F0 m 355 ls []) := by
  obtain ⟨hx, hb, hr, hml, hown, hts, hX, hbl, hlocks, hgv⟩ := id C0
  have hown : s.vm.findClass RL = some m.cls := hown
  have hts := fun w (h : w ∈ wz_law) => hts w (wz_law_in w h)
  have hbA : ¬ A b := fun h => absurd (hA2 b h) (Nat.not_le.mpr hbl)
  obtain ⟨a0, ea0⟩ : ∃ y : Int32, y = xs (0 : Int32).toNatClampNeg := ⟨_, rfl⟩
  obtain ⟨a1, ea1⟩ : ∃ y : Int32, y = xs (1 : Int32).toNatClampNeg := ⟨_, rfl⟩
  obtain ⟨a2, ea2⟩ : ∃ y : Int32, y = xs (2 : Int32).toNatClampNeg := ⟨_, rfl⟩
  obtain ⟨a3, ea3⟩ : ∃ y : Int32, y = xs (3 : Int32).toNatClampNeg := ⟨_, rfl⟩
  obtain ⟨a4, ea4⟩ : ∃ y : Int32, y = xs (4 : Int32).toNatClampNeg := ⟨_, rfl⟩
  obtain ⟨a5, ea5⟩ : ∃ y : Int32, y = xs (5 : Int32).toNatClampNeg := ⟨_, rfl⟩
  refine lv_aload_n hx hb dL_law_355 rfl (lv_at hl 2 rfl) ?_
  refine lv_aload_n hx hb dL_law_356 rfl (lv_at hl 3 rfl) ?_
  refine lv_iload_n hx hb dL_law_357 rfl (lv_at hl 0 rfl) ?_
  refine lv_iconst (v := 1) hx hb dL_law_358 (by decide) ?_
  refine lv_iadd hx hb dL_law_359 ?_
  refine lv_topi (fun z_1 ez_1 => ?_)
  obtain rfl : z_1 = 1 := ez_1.trans (by decide)
  refine va_sld hx hb hX hbl hbA hS (vp_in_iff.mpr ⟨by decide, by decide⟩) dL_law_360 ?_
  refine lv_topi (fun z_2 ez_2 => ?_)
  obtain rfl : a1 = z_2 := ea1.trans ez_2.symm
  refine lv_aload_n hx hb dL_law_361 rfl (lv_at hl 3 rfl) ?_
  refine lv_iload_n hx hb dL_law_362 rfl (lv_at hl 0 rfl) ?_
  refine lv_iconst (v := 2) hx hb dL_law_363 (by decide) ?_
  refine lv_iadd hx hb dL_law_364 ?_
  refine lv_topi (fun z_3 ez_3 => ?_)
  obtain rfl : z_3 = 2 := ez_3.trans (by decide)
  refine va_sld hx hb hX hbl hbA hS (vp_in_iff.mpr ⟨by decide, by decide⟩) dL_law_365 ?_
  refine lv_topi (fun z_4 ez_4 => ?_)
  obtain rfl : a2 = z_4 := ea2.trans ez_4.symm
  have hPc := hP.sub (ws' := [(x0, .inr (6, [.ref tp, .int 0, .int 0, .int (-1), .ref rd, .ref gd, .ref im, .ref rw, .ref gn, .ref ho, .ref sq])), (gd, .inr (0, [.ref pl, .int 0, .long 0, .long 0, .int 0, .int (-1), .int 0, .ref gdt, .int 0, .ref gdu, .int 0, .ref gdn])), (pl, .inr (3, [.int 0, .int 0, .int 0, .int 0, .long 0, .ref plf, .ref plo, .ref plb, .ref pla]))]) [0, 1, 2] rfl
  have hDc := hD.sub (ws' := [(x0, .inr (6, [.ref tp, .int 0, .int 0, .int (-1), .ref rd, .ref gd, .ref im, .ref rw, .ref gn, .ref ho, .ref sq])), (gd, .inr (0, [.ref pl, .int 0, .long 0, .long 0, .int 0, .int (-1), .int 0, .ref gdt, .int 0, .ref gdu, .int 0, .ref gdn])), (pl, .inr (3, [.int 0, .int 0, .int 0, .int 0, .long 0, .ref plf, .ref plo, .ref plb, .ref pla]))]) [0, 1, 2] (by decide) rfl
  have hKc := hK.sub (tys' := []) [] rfl
  have hFc := va_free (wc := [(x0, .inr (6, [.ref tp, .int 0, .int 0, .int (-1), .ref rd, .ref gd, .ref im, .ref rw, .ref gn, .ref ho, .ref sq])), (gd, .inr (0, [.ref pl, .int 0, .long 0, .long 0, .int 0, .int (-1), .int 0, .ref gdt, .int 0, .ref gdu, .int 0, .ref gdn])), (pl, .inr (3, [.int 0, .int 0, .int 0, .int 0, .long 0, .ref plf, .ref plo, .ref plb, .ref pla]))]) hD hS hA [0, 1, 2] rfl
  refine va_calli (va_runV (As := [.int a1, .int a2]) (rest := []) ⟨hx, hb, hml, hown, hts⟩ (c_X6_side l dC dI H.size x0 tp rd gd im rw gn ho sq pl gdt gdu gdn plf plo plb pla a1 a2 ) (cwV 2 hts g_law_X6_side rfl rfl rfl (by decide +kernel) ⟨Nat.le_of_ble_eq_true rfl, Nat.le_of_ble_eq_true rfl⟩) ⟨fun a U g mk q => by obtain ⟨q0, q1, qP, qK, qD⟩ := q; exact ⟨q0, q1, qP, va_K.moved (u := U) (U := U.calling g mk a) (Vm.Alike.refl U.vm) qK, qD⟩, va_recv hKc hPc (ci := 6) (q0 := 0) rfl rfl, fun U hU hW => ⟨rfl, by rw [hU], by rw [hU]; exact hPc, va_K.moved hW.alike hKc, hDc.weaken (fun _ _ _ _ => trivial)⟩⟩ rfl rfl hl.1 rfl (lv_room (Nat.le_of_ble_eq_true rfl)) dL_law_366 ⟨Nat.le_of_ble_eq_true rfl, Nat.le_of_ble_eq_true rfl⟩) hS (fun q _ h => hFc q h) hFc (fun r_5 u t H1 locs ht hvm hw_6 hB hz1 hk1 hS => ?_)
  have hP1 : va_P (dC, dI) vwCl [] H1 := i_nilP
  have hD1 : va_D (va_A [(x0, .inr (6, [.ref tp, .int 0, .int 0, .int (-1), .ref rd, .ref gd, .ref im, .ref rw, .ref gn, .ref ho, .ref sq])), (gd, .inr (0, [.ref pl, .int 0, .long 0, .long 0, .int 0, .int (-1), .int 0, .ref gdt, .int 0, .ref gdu, .int 0, .ref gdn])), (pl, .inr (3, [.int 0, .int 0, .int 0, .int 0, .long 0, .ref plf, .ref plo, .ref plb, .ref pla]))] H.size) [] := i_nilD
  try dsimp only at hw_6
  obtain ⟨hP, hD⟩ := va_join (wr := [(m0, .inr (7, [.int 0, .ref m_width, .ref m_many, .ref m_cells, .ref m_moved, .ref m_tape, .int 0, .int 0, .int 0, .int 0, .int 0, .long 0, .int 0, .int 0, .int 0, .int (-1), .ref m_lines, .ref m_has, .ref m_state, .ref m_gate, .ref m_guest, .ref m_gone, .int 0, .ref m_isKept, .ref m_first, .ref m_second, .int 0, .ref m_far, .ref m_wished, .ref m_wasState, .ref m_isHere, .ref m_round, .ref m_bestRound, .int 0, .int 0, .long 0, .long 0, .ref m_taken, .int 0])), (m_lines, .inl (k_lines, 5, .inl (fun _ => 0))), (m_has, .inl (k_has, 45, .inl (fun _ => 0)))]) (w1 := []) hP hD [0, 1, 2] [3, 4, 5] rfl rfl (by decide) (by decide) hk1 hFc hP1 hD1
  generalize H1 = H at hP hS ⊢
  have hP : va_P (dC, dI) vwCl [(m0, .inr (7, [.int 0, .ref m_width, .ref m_many, .ref m_cells, .ref m_moved, .ref m_tape, .int 0, .int 0, .int 0, .int 0, .int 0, .long 0, .int 0, .int 0, .int 0, .int (-1), .ref m_lines, .ref m_has, .ref m_state, .ref m_gate, .ref m_guest, .ref m_gone, .int 0, .ref m_isKept, .ref m_first, .ref m_second, .int 0, .ref m_far, .ref m_wished, .ref m_wasState, .ref m_isHere, .ref m_round, .ref m_bestRound, .int 0, .int 0, .long 0, .long 0, .ref m_taken, .int 0])), (m_lines, .inl (k_lines, 5, .inl (fun _ => 0))), (m_has, .inl (k_has, 45, .inl (fun _ => 0)))] H := hP
  have hD : va_D A [(m0, .inr (7, [.int 0, .ref m_width, .ref m_many, .ref m_cells, .ref m_moved, .ref m_tape, .int 0, .int 0, .int 0, .int 0, .int 0, .long 0, .int 0, .int 0, .int 0, .int (-1), .ref m_lines, .ref m_has, .ref m_state, .ref m_gate, .ref m_guest, .ref m_gone, .int 0, .ref m_isKept, .ref m_first, .ref m_second, .int 0, .ref m_far, .ref m_wished, .ref m_wasState, .ref m_isHere, .ref m_round, .ref m_bestRound, .int 0, .int 0, .long 0, .long 0, .ref m_taken, .int 0])), (m_lines, .inl (k_lines, 5, .inl (fun _ => 0))), (m_has, .inl (k_has, 45, .inl (fun _ => 0)))] := hD
  obtain rfl : r_5 = -2 := hw_6
  refine lv_aload_n hx hb dL_law_369 rfl (lv_at hl 1 rfl) ?_
  refine lv_aload_n hx hb dL_law_370 rfl (lv_at hl 3 rfl) ?_
  refine lv_iload_n hx hb dL_law_371 rfl (lv_at hl 0 rfl) ?_
  refine lv_iconst (v := 1) hx hb dL_law_372 (by decide) ?_
  refine lv_iadd hx hb dL_law_373 ?_
  refine lv_topi (fun z_7 ez_7 => ?_)
  obtain rfl : z_7 = 1 := ez_7.trans (by decide)
  refine va_sld hx hb hX hbl hbA hS (vp_in_iff.mpr ⟨by decide, by decide⟩) dL_law_374 ?_
  refine lv_topi (fun z_8 ez_8 => ?_)
  obtain rfl : a1 = z_8 := ea1.trans ez_8.symm
  refine lv_aload_n hx hb dL_law_375 rfl (lv_at hl 3 rfl) ?_
  refine lv_iload_n hx hb dL_law_376 rfl (lv_at hl 0 rfl) ?_
  refine lv_iconst (v := 2) hx hb dL_law_377 (by decide) ?_
  refine lv_iadd hx hb dL_law_378 ?_
  refine lv_topi (fun z_9 ez_9 => ?_)
  obtain rfl : z_9 = 2 := ez_9.trans (by decide)
  refine va_sld hx hb hX hbl hbA hS (vp_in_iff.mpr ⟨by decide, by decide⟩) dL_law_379 ?_
  refine lv_topi (fun z_10 ez_10 => ?_)
  obtain rfl : a2 = z_10 := ea2.trans ez_10.symm
  have hPc := hP.sub (ws' := [(m0, .inr (7, [.int 0, .ref m_width, .ref m_many, .ref m_cells, .ref m_moved, .ref m_tape, .int 0, .int 0, .int 0, .int 0, .int 0, .long 0, .int 0, .int 0, .int 0, .int (-1), .ref m_lines, .ref m_has, .ref m_state, .ref m_gate, .ref m_guest, .ref m_gone, .int 0, .ref m_isKept, .ref m_first, .ref m_second, .int 0, .ref m_far, .ref m_wished, .ref m_wasState, .ref m_isHere, .ref m_round, .ref m_bestRound, .int 0, .int 0, .long 0, .long 0, .ref m_taken, .int 0])), (m_lines, .inl (k_lines, 5, .inl (fun _ => 0))), (m_has, .inl (k_has, 45, .inl (fun _ => 0)))]) [0, 1, 2] rfl
  have hDc := hD.sub (ws' := [(m0, .inr (7, [.int 0, .ref m_width, .ref m_many, .ref m_cells, .ref m_moved, .ref m_tape, .int 0, .int 0, .int 0, .int 0, .int 0, .long 0, .int 0, .int 0, .int 0, .int (-1), .ref m_lines, .ref m_has, .ref m_state, .ref m_gate, .ref m_guest, .ref m_gone, .int 0, .ref m_isKept, .ref m_first, .ref m_second, .int 0, .ref m_far, .ref m_wished, .ref m_wasState, .ref m_isHere, .ref m_round, .ref m_bestRound, .int 0, .int 0, .long 0, .long 0, .ref m_taken, .int 0])), (m_lines, .inl (k_lines, 5, .inl (fun _ => 0))), (m_has, .inl (k_has, 45, .inl (fun _ => 0)))]) [0, 1, 2] (by decide) rfl
  have hKc := hK.sub (tys' := [(k_lines, .int), (k_has, .int)]) [0, 1] rfl
  have hFc := va_free (wc := [(m0, .inr (7, [.int 0, .ref m_width, .ref m_many, .ref m_cells, .ref m_moved, .ref m_tape, .int 0, .int 0, .int 0, .int 0, .int 0, .long 0, .int 0, .int 0, .int 0, .int (-1), .ref m_lines, .ref m_has, .ref m_state, .ref m_gate, .ref m_guest, .ref m_gone, .int 0, .ref m_isKept, .ref m_first, .ref m_second, .int 0, .ref m_far, .ref m_wished, .ref m_wasState, .ref m_isHere, .ref m_round, .ref m_bestRound, .int 0, .int 0, .long 0, .long 0, .ref m_taken, .int 0])), (m_lines, .inl (k_lines, 5, .inl (fun _ => 0))), (m_has, .inl (k_has, 45, .inl (fun _ => 0)))]) hD hS hA [0, 1, 2] rfl
  refine va_calli (va_runV (As := [.int a1, .int a2]) (rest := [.int (-2)]) ⟨hx, hb, hml, hown, hts⟩ (c_X7_side l dC dI H.size m0 m_width m_many m_cells m_moved m_tape m_lines m_has m_state m_gate m_guest m_gone m_isKept m_first m_second m_far m_wished m_wasState m_isHere m_round m_bestRound m_taken k_lines k_has a1 a2 ) (cwV 2 hts g_law_X7_side rfl rfl rfl (by decide +kernel) ⟨Nat.le_of_ble_eq_true rfl, Nat.le_of_ble_eq_true rfl⟩) ⟨fun a U g mk q => by obtain ⟨q0, q1, qP, qK, qD⟩ := q; exact ⟨q0, q1, qP, va_K.moved (u := U) (U := U.calling g mk a) (Vm.Alike.refl U.vm) qK, qD⟩, va_recv hKc hPc (ci := 7) (q0 := 0) rfl rfl, fun U hU hW => ⟨rfl, by rw [hU], by rw [hU]; exact hPc, va_K.moved hW.alike hKc, hDc.weaken (fun _ _ _ _ => trivial)⟩⟩ rfl rfl hl.1 rfl (lv_room (Nat.le_of_ble_eq_true rfl)) dL_law_380 ⟨Nat.le_of_ble_eq_true rfl, Nat.le_of_ble_eq_true rfl⟩) hS (fun q _ h => hFc q h) hFc (fun r_11 u t H1 locs ht hvm hw_12 hB hz1 hk1 hS => ?_)
  have hP1 : va_P (dC, dI) vwCl [] H1 := i_nilP
  have hD1 : va_D (va_A [(m0, .inr (7, [.int 0, .ref m_width, .ref m_many, .ref m_cells, .ref m_moved, .ref m_tape, .int 0, .int 0, .int 0, .int 0, .int 0, .long 0, .int 0, .int 0, .int 0, .int (-1), .ref m_lines, .ref m_has, .ref m_state, .ref m_gate, .ref m_guest, .ref m_gone, .int 0, .ref m_isKept, .ref m_first, .ref m_second, .int 0, .ref m_far, .ref m_wished, .ref m_wasState, .ref m_isHere, .ref m_round, .ref m_bestRound, .int 0, .int 0, .long 0, .long 0, .ref m_taken, .int 0])), (m_lines, .inl (k_lines, 5, .inl (fun _ => 0))), (m_has, .inl (k_has, 45, .inl (fun _ => 0)))] H.size) [] := i_nilD
  try dsimp only at hw_12
  obtain ⟨hP, hD⟩ := va_join (wr := []) (w1 := []) hP hD [0, 1, 2] [] rfl rfl (by decide) (by decide) hk1 hFc hP1 hD1
  generalize H1 = H at hP hS ⊢
  have hP : va_P (dC, dI) vwCl [] H := hP
  have hD : va_D A [] := hD
  obtain rfl : r_11 = -2 := hw_12
  refine lv_icmp_eq (tgt := 1569) hx hb dL_law_383 (by decide) (fun _ => ?_) (fun h => absurd (by decide) h)
  refine lv_iinc (v := 6) (lv' := [(3, .int 6), (2, .ref m0), (1, .ref x0), (0, .ref b)]) hx hb dL_law_1569 hl (k := 0) rfl (by decide) (by decide) rfl (fun ls hl => ?_)
  refine lv_goto (tgt := 18) hx hb dL_law_1572 (by decide) ?_
  exact law_exit C0 hA2 hS (lv_sub hl [0, 3] rfl) (by decide) (by omega) (by omega)

set_option maxHeartbeats 4000000 in
set_option maxRecDepth 100000 in
/-- the law, its call 6: what -/
theorem law_6 {p : Program} {e : Env} {s : State} {m : MethodId} {below : List Frame} {meth : Method} {c : Code} (l : Launch) {b : Nat} {xs : Nat → Int32} (C0 : lw_At p s m meth c b 6 xs) {A : Nat → Prop} (hA : ∀ q, s.heap.size ≤ q → A q) (hA2 : ∀ q, A q → s.heap.size ≤ q) {x0 : Nat} {tp : Nat} {rd : Nat} {gd : Nat} {im : Nat} {rw : Nat} {gn : Nat} {ho : Nat} {sq : Nat} {pl : Nat} {gdt : Nat} {gdu : Nat} {gdn : Nat} {plf : Nat} {plo : Nat} {plb : Nat} {pla : Nat} {m0 : Nat} {m_width : Nat} {m_many : Nat} {m_cells : Nat} {m_moved : Nat} {m_tape : Nat} {m_lines : Nat} {m_has : Nat} {m_state : Nat} {m_gate : Nat} {m_guest : Nat} {m_gone : Nat} {m_isKept : Nat} {m_first : Nat} {m_second : Nat} {m_far : Nat} {m_wished : Nat} {m_wasState : Nat} {m_isHere : Nat} {m_round : Nat} {m_bestRound : Nat} {m_taken : Nat} {k_lines : ClassId} {k_has : ClassId} (hE0 : Kx s) {dC : Nat → ClassId} {dI : Nat → Nat → Nat} (hK : va_K (dC, dI) vwCl [(k_lines, .int), (k_has, .int)] s) {H : Heap} {locs : List Loc} (hP : va_P (dC, dI) vwCl [(x0, .inr (6, [.ref tp, .int 0, .int 0, .int (-1), .ref rd, .ref gd, .ref im, .ref rw, .ref gn, .ref ho, .ref sq])), (gd, .inr (0, [.ref pl, .int 0, .long 0, .long 0, .int 0, .int (-1), .int 0, .ref gdt, .int 0, .ref gdu, .int 0, .ref gdn])), (pl, .inr (3, [.int 0, .int 0, .int 0, .int 0, .long 0, .ref plf, .ref plo, .ref plb, .ref pla])), (m0, .inr (7, [.int 0, .ref m_width, .ref m_many, .ref m_cells, .ref m_moved, .ref m_tape, .int 0, .int 0, .int 0, .int 0, .int 0, .long 0, .int 0, .int 0, .int 0, .int (-1), .ref m_lines, .ref m_has, .ref m_state, .ref m_gate, .ref m_guest, .ref m_gone, .int 0, .ref m_isKept, .ref m_first, .ref m_second, .int 0, .ref m_far, .ref m_wished, .ref m_wasState, .ref m_isHere, .ref m_round, .ref m_bestRound, .int 0, .int 0, .long 0, .long 0, .ref m_taken, .int 0])), (m_lines, .inl (k_lines, 5, .inl (fun _ => 0))), (m_has, .inl (k_has, 45, .inl (fun _ => 0)))] H) (hD : va_D A [(x0, .inr (6, [.ref tp, .int 0, .int 0, .int (-1), .ref rd, .ref gd, .ref im, .ref rw, .ref gn, .ref ho, .ref sq])), (gd, .inr (0, [.ref pl, .int 0, .long 0, .long 0, .int 0, .int (-1), .int 0, .ref gdt, .int 0, .ref gdu, .int 0, .ref gdn])), (pl, .inr (3, [.int 0, .int 0, .int 0, .int 0, .long 0, .ref plf, .ref plo, .ref plb, .ref pla])), (m0, .inr (7, [.int 0, .ref m_width, .ref m_many, .ref m_cells, .ref m_moved, .ref m_tape, .int 0, .int 0, .int 0, .int 0, .int 0, .long 0, .int 0, .int 0, .int 0, .int (-1), .ref m_lines, .ref m_has, .ref m_state, .ref m_gate, .ref m_guest, .ref m_gone, .int 0, .ref m_isKept, .ref m_first, .ref m_second, .int 0, .ref m_far, .ref m_wished, .ref m_wasState, .ref m_isHere, .ref m_round, .ref m_bestRound, .int 0, .int 0, .long 0, .long 0, .ref m_taken, .int 0])), (m_lines, .inl (k_lines, 5, .inl (fun _ => 0))), (m_has, .inl (k_has, 45, .inl (fun _ => 0)))]) (hS : va_S A s.heap H locs) {ls : Array Slot} (hl : lv_has ls 4 [(3, .int 0), (2, .ref m0), (1, .ref x0), (0, .ref b)]) : W p l e room_1 s m #[Value.ref b] below meth c H locs 70 7203 (lw_Z below #[Value.ref b] s) (F0 m 388 ls []) := by
  obtain ⟨hx, hb, hr, hml, hown, hts, hX, hbl, hlocks, hgv⟩ := id C0
  have hown : s.vm.findClass RL = some m.cls := hown
  have hts := fun w (h : w ∈ wz_law) => hts w (wz_law_in w h)
  have hbA : ¬ A b := fun h => absurd (hA2 b h) (Nat.not_le.mpr hbl)
  obtain ⟨a0, ea0⟩ : ∃ y : Int32, y = xs (0 : Int32).toNatClampNeg := ⟨_, rfl⟩
  obtain ⟨a1, ea1⟩ : ∃ y : Int32, y = xs (1 : Int32).toNatClampNeg := ⟨_, rfl⟩
  obtain ⟨a2, ea2⟩ : ∃ y : Int32, y = xs (2 : Int32).toNatClampNeg := ⟨_, rfl⟩
  obtain ⟨a3, ea3⟩ : ∃ y : Int32, y = xs (3 : Int32).toNatClampNeg := ⟨_, rfl⟩
  obtain ⟨a4, ea4⟩ : ∃ y : Int32, y = xs (4 : Int32).toNatClampNeg := ⟨_, rfl⟩
  obtain ⟨a5, ea5⟩ : ∃ y : Int32, y = xs (5 : Int32).toNatClampNeg := ⟨_, rfl⟩
  refine lv_aload_n hx hb dL_law_388 rfl (lv_at hl 2 rfl) ?_
  refine lv_aload_n hx hb dL_law_389 rfl (lv_at hl 3 rfl) ?_
  refine lv_iload_n hx hb dL_law_390 rfl (lv_at hl 0 rfl) ?_
  refine lv_iconst (v := 1) hx hb dL_law_391 (by decide) ?_
  refine lv_iadd hx hb dL_law_392 ?_
  refine lv_topi (fun z_1 ez_1 => ?_)
  obtain rfl : z_1 = 1 := ez_1.trans (by decide)
  refine va_sld hx hb hX hbl hbA hS (vp_in_iff.mpr ⟨by decide, by decide⟩) dL_law_393 ?_
  refine lv_topi (fun z_2 ez_2 => ?_)
  obtain rfl : a1 = z_2 := ea1.trans ez_2.symm
  refine lv_aload_n hx hb dL_law_394 rfl (lv_at hl 3 rfl) ?_
  refine lv_iload_n hx hb dL_law_395 rfl (lv_at hl 0 rfl) ?_
  refine lv_iconst (v := 2) hx hb dL_law_396 (by decide) ?_
  refine lv_iadd hx hb dL_law_397 ?_
  refine lv_topi (fun z_3 ez_3 => ?_)
  obtain rfl : z_3 = 2 := ez_3.trans (by decide)
  refine va_sld hx hb hX hbl hbA hS (vp_in_iff.mpr ⟨by decide, by decide⟩) dL_law_398 ?_
  refine lv_topi (fun z_4 ez_4 => ?_)
  obtain rfl : a2 = z_4 := ea2.trans ez_4.symm
  have hPc := hP.sub (ws' := [(x0, .inr (6, [.ref tp, .int 0, .int 0, .int (-1), .ref rd, .ref gd, .ref im, .ref rw, .ref gn, .ref ho, .ref sq])), (gd, .inr (0, [.ref pl, .int 0, .long 0, .long 0, .int 0, .int (-1), .int 0, .ref gdt, .int 0, .ref gdu, .int 0, .ref gdn])), (pl, .inr (3, [.int 0, .int 0, .int 0, .int 0, .long 0, .ref plf, .ref plo, .ref plb, .ref pla]))]) [0, 1, 2] rfl
  have hDc := hD.sub (ws' := [(x0, .inr (6, [.ref tp, .int 0, .int 0, .int (-1), .ref rd, .ref gd, .ref im, .ref rw, .ref gn, .ref ho, .ref sq])), (gd, .inr (0, [.ref pl, .int 0, .long 0, .long 0, .int 0, .int (-1), .int 0, .ref gdt, .int 0, .ref gdu, .int 0, .ref gdn])), (pl, .inr (3, [.int 0, .int 0, .int 0, .int 0, .long 0, .ref plf, .ref plo, .ref plb, .ref pla]))]) [0, 1, 2] (by decide) rfl
  have hKc := hK.sub (tys' := []) [] rfl
  have hFc := va_free (wc := [(x0, .inr (6, [.ref tp, .int 0, .int 0, .int (-1), .ref rd, .ref gd, .ref im, .ref rw, .ref gn, .ref ho, .ref sq])), (gd, .inr (0, [.ref pl, .int 0, .long 0, .long 0, .int 0, .int (-1), .int 0, .ref gdt, .int 0, .ref gdu, .int 0, .ref gdn])), (pl, .inr (3, [.int 0, .int 0, .int 0, .int 0, .long 0, .ref plf, .ref plo, .ref plb, .ref pla]))]) hD hS hA [0, 1, 2] rfl
  refine va_calli (va_runV (As := [.int a1, .int a2]) (rest := []) ⟨hx, hb, hml, hown, hts⟩ (c_X6_what l dC dI H.size x0 tp rd gd im rw gn ho sq pl gdt gdu gdn plf plo plb pla a1 a2 ) (cwV 2 hts g_law_X6_what rfl rfl rfl (by decide +kernel) ⟨Nat.le_of_ble_eq_true rfl, Nat.le_of_ble_eq_true rfl⟩) ⟨fun a U g mk q => by obtain ⟨q0, q1, qP, qK, qD⟩ := q; exact ⟨q0, q1, qP, va_K.moved (u := U) (U := U.calling g mk a) (Vm.Alike.refl U.vm) qK, qD⟩, va_recv hKc hPc (ci := 6) (q0 := 0) rfl rfl, fun U hU hW => ⟨rfl, by rw [hU], by rw [hU]; exact hPc, va_K.moved hW.alike hKc, hDc.weaken (fun _ _ _ _ => trivial)⟩⟩ rfl rfl hl.1 rfl (lv_room (Nat.le_of_ble_eq_true rfl)) dL_law_399 ⟨Nat.le_of_ble_eq_true rfl, Nat.le_of_ble_eq_true rfl⟩) hS (fun q _ h => hFc q h) hFc (fun r_5 u t H1 locs ht hvm hw_6 hB hz1 hk1 hS => ?_)
  have hP1 : va_P (dC, dI) vwCl [] H1 := i_nilP
  have hD1 : va_D (va_A [(x0, .inr (6, [.ref tp, .int 0, .int 0, .int (-1), .ref rd, .ref gd, .ref im, .ref rw, .ref gn, .ref ho, .ref sq])), (gd, .inr (0, [.ref pl, .int 0, .long 0, .long 0, .int 0, .int (-1), .int 0, .ref gdt, .int 0, .ref gdu, .int 0, .ref gdn])), (pl, .inr (3, [.int 0, .int 0, .int 0, .int 0, .long 0, .ref plf, .ref plo, .ref plb, .ref pla]))] H.size) [] := i_nilD
  try dsimp only at hw_6
  obtain ⟨hP, hD⟩ := va_join (wr := [(m0, .inr (7, [.int 0, .ref m_width, .ref m_many, .ref m_cells, .ref m_moved, .ref m_tape, .int 0, .int 0, .int 0, .int 0, .int 0, .long 0, .int 0, .int 0, .int 0, .int (-1), .ref m_lines, .ref m_has, .ref m_state, .ref m_gate, .ref m_guest, .ref m_gone, .int 0, .ref m_isKept, .ref m_first, .ref m_second, .int 0, .ref m_far, .ref m_wished, .ref m_wasState, .ref m_isHere, .ref m_round, .ref m_bestRound, .int 0, .int 0, .long 0, .long 0, .ref m_taken, .int 0])), (m_lines, .inl (k_lines, 5, .inl (fun _ => 0))), (m_has, .inl (k_has, 45, .inl (fun _ => 0)))]) (w1 := []) hP hD [0, 1, 2] [3, 4, 5] rfl rfl (by decide) (by decide) hk1 hFc hP1 hD1
  generalize H1 = H at hP hS ⊢
  have hP : va_P (dC, dI) vwCl [(m0, .inr (7, [.int 0, .ref m_width, .ref m_many, .ref m_cells, .ref m_moved, .ref m_tape, .int 0, .int 0, .int 0, .int 0, .int 0, .long 0, .int 0, .int 0, .int 0, .int (-1), .ref m_lines, .ref m_has, .ref m_state, .ref m_gate, .ref m_guest, .ref m_gone, .int 0, .ref m_isKept, .ref m_first, .ref m_second, .int 0, .ref m_far, .ref m_wished, .ref m_wasState, .ref m_isHere, .ref m_round, .ref m_bestRound, .int 0, .int 0, .long 0, .long 0, .ref m_taken, .int 0])), (m_lines, .inl (k_lines, 5, .inl (fun _ => 0))), (m_has, .inl (k_has, 45, .inl (fun _ => 0)))] H := hP
  have hD : va_D A [(m0, .inr (7, [.int 0, .ref m_width, .ref m_many, .ref m_cells, .ref m_moved, .ref m_tape, .int 0, .int 0, .int 0, .int 0, .int 0, .long 0, .int 0, .int 0, .int 0, .int (-1), .ref m_lines, .ref m_has, .ref m_state, .ref m_gate, .ref m_guest, .ref m_gone, .int 0, .ref m_isKept, .ref m_first, .ref m_second, .int 0, .ref m_far, .ref m_wished, .ref m_wasState, .ref m_isHere, .ref m_round, .ref m_bestRound, .int 0, .int 0, .long 0, .long 0, .ref m_taken, .int 0])), (m_lines, .inl (k_lines, 5, .inl (fun _ => 0))), (m_has, .inl (k_has, 45, .inl (fun _ => 0)))] := hD
  obtain rfl : r_5 = -2 := hw_6
  refine lv_aload_n hx hb dL_law_402 rfl (lv_at hl 1 rfl) ?_
  refine lv_aload_n hx hb dL_law_403 rfl (lv_at hl 3 rfl) ?_
  refine lv_iload_n hx hb dL_law_404 rfl (lv_at hl 0 rfl) ?_
  refine lv_iconst (v := 1) hx hb dL_law_405 (by decide) ?_
  refine lv_iadd hx hb dL_law_406 ?_
  refine lv_topi (fun z_7 ez_7 => ?_)
  obtain rfl : z_7 = 1 := ez_7.trans (by decide)
  refine va_sld hx hb hX hbl hbA hS (vp_in_iff.mpr ⟨by decide, by decide⟩) dL_law_407 ?_
  refine lv_topi (fun z_8 ez_8 => ?_)
  obtain rfl : a1 = z_8 := ea1.trans ez_8.symm
  refine lv_aload_n hx hb dL_law_408 rfl (lv_at hl 3 rfl) ?_
  refine lv_iload_n hx hb dL_law_409 rfl (lv_at hl 0 rfl) ?_
  refine lv_iconst (v := 2) hx hb dL_law_410 (by decide) ?_
  refine lv_iadd hx hb dL_law_411 ?_
  refine lv_topi (fun z_9 ez_9 => ?_)
  obtain rfl : z_9 = 2 := ez_9.trans (by decide)
  refine va_sld hx hb hX hbl hbA hS (vp_in_iff.mpr ⟨by decide, by decide⟩) dL_law_412 ?_
  refine lv_topi (fun z_10 ez_10 => ?_)
  obtain rfl : a2 = z_10 := ea2.trans ez_10.symm
  have hPc := hP.sub (ws' := [(m0, .inr (7, [.int 0, .ref m_width, .ref m_many, .ref m_cells, .ref m_moved, .ref m_tape, .int 0, .int 0, .int 0, .int 0, .int 0, .long 0, .int 0, .int 0, .int 0, .int (-1), .ref m_lines, .ref m_has, .ref m_state, .ref m_gate, .ref m_guest, .ref m_gone, .int 0, .ref m_isKept, .ref m_first, .ref m_second, .int 0, .ref m_far, .ref m_wished, .ref m_wasState, .ref m_isHere, .ref m_round, .ref m_bestRound, .int 0, .int 0, .long 0, .long 0, .ref m_taken, .int 0])), (m_lines, .inl (k_lines, 5, .inl (fun _ => 0))), (m_has, .inl (k_has, 45, .inl (fun _ => 0)))]) [0, 1, 2] rfl
  have hDc := hD.sub (ws' := [(m0, .inr (7, [.int 0, .ref m_width, .ref m_many, .ref m_cells, .ref m_moved, .ref m_tape, .int 0, .int 0, .int 0, .int 0, .int 0, .long 0, .int 0, .int 0, .int 0, .int (-1), .ref m_lines, .ref m_has, .ref m_state, .ref m_gate, .ref m_guest, .ref m_gone, .int 0, .ref m_isKept, .ref m_first, .ref m_second, .int 0, .ref m_far, .ref m_wished, .ref m_wasState, .ref m_isHere, .ref m_round, .ref m_bestRound, .int 0, .int 0, .long 0, .long 0, .ref m_taken, .int 0])), (m_lines, .inl (k_lines, 5, .inl (fun _ => 0))), (m_has, .inl (k_has, 45, .inl (fun _ => 0)))]) [0, 1, 2] (by decide) rfl
  have hKc := hK.sub (tys' := [(k_lines, .int), (k_has, .int)]) [0, 1] rfl
  have hFc := va_free (wc := [(m0, .inr (7, [.int 0, .ref m_width, .ref m_many, .ref m_cells, .ref m_moved, .ref m_tape, .int 0, .int 0, .int 0, .int 0, .int 0, .long 0, .int 0, .int 0, .int 0, .int (-1), .ref m_lines, .ref m_has, .ref m_state, .ref m_gate, .ref m_guest, .ref m_gone, .int 0, .ref m_isKept, .ref m_first, .ref m_second, .int 0, .ref m_far, .ref m_wished, .ref m_wasState, .ref m_isHere, .ref m_round, .ref m_bestRound, .int 0, .int 0, .long 0, .long 0, .ref m_taken, .int 0])), (m_lines, .inl (k_lines, 5, .inl (fun _ => 0))), (m_has, .inl (k_has, 45, .inl (fun _ => 0)))]) hD hS hA [0, 1, 2] rfl
  refine va_calli (va_runV (As := [.int a1, .int a2]) (rest := [.int (-2)]) ⟨hx, hb, hml, hown, hts⟩ (c_X7_what l dC dI H.size m0 m_width m_many m_cells m_moved m_tape m_lines m_has m_state m_gate m_guest m_gone m_isKept m_first m_second m_far m_wished m_wasState m_isHere m_round m_bestRound m_taken k_lines k_has a1 a2 ) (cwV 2 hts g_law_X7_what rfl rfl rfl (by decide +kernel) ⟨Nat.le_of_ble_eq_true rfl, Nat.le_of_ble_eq_true rfl⟩) ⟨fun a U g mk q => by obtain ⟨q0, q1, qP, qK, qD⟩ := q; exact ⟨q0, q1, qP, va_K.moved (u := U) (U := U.calling g mk a) (Vm.Alike.refl U.vm) qK, qD⟩, va_recv hKc hPc (ci := 7) (q0 := 0) rfl rfl, fun U hU hW => ⟨rfl, by rw [hU], by rw [hU]; exact hPc, va_K.moved hW.alike hKc, hDc.weaken (fun _ _ _ _ => trivial)⟩⟩ rfl rfl hl.1 rfl (lv_room (Nat.le_of_ble_eq_true rfl)) dL_law_413 ⟨Nat.le_of_ble_eq_true rfl, Nat.le_of_ble_eq_true rfl⟩) hS (fun q _ h => hFc q h) hFc (fun r_11 u t H1 locs ht hvm hw_12 hB hz1 hk1 hS => ?_)
  have hP1 : va_P (dC, dI) vwCl [] H1 := i_nilP
  have hD1 : va_D (va_A [(m0, .inr (7, [.int 0, .ref m_width, .ref m_many, .ref m_cells, .ref m_moved, .ref m_tape, .int 0, .int 0, .int 0, .int 0, .int 0, .long 0, .int 0, .int 0, .int 0, .int (-1), .ref m_lines, .ref m_has, .ref m_state, .ref m_gate, .ref m_guest, .ref m_gone, .int 0, .ref m_isKept, .ref m_first, .ref m_second, .int 0, .ref m_far, .ref m_wished, .ref m_wasState, .ref m_isHere, .ref m_round, .ref m_bestRound, .int 0, .int 0, .long 0, .long 0, .ref m_taken, .int 0])), (m_lines, .inl (k_lines, 5, .inl (fun _ => 0))), (m_has, .inl (k_has, 45, .inl (fun _ => 0)))] H.size) [] := i_nilD
  try dsimp only at hw_12
  obtain ⟨hP, hD⟩ := va_join (wr := []) (w1 := []) hP hD [0, 1, 2] [] rfl rfl (by decide) (by decide) hk1 hFc hP1 hD1
  generalize H1 = H at hP hS ⊢
  have hP : va_P (dC, dI) vwCl [] H := hP
  have hD : va_D A [] := hD
  obtain rfl : r_11 = -2 := hw_12
  refine lv_icmp_eq (tgt := 1569) hx hb dL_law_416 (by decide) (fun _ => ?_) (fun h => absurd (by decide) h)
  refine lv_iinc (v := 6) (lv' := [(3, .int 6), (2, .ref m0), (1, .ref x0), (0, .ref b)]) hx hb dL_law_1569 hl (k := 0) rfl (by decide) (by decide) rfl (fun ls hl => ?_)
  refine lv_goto (tgt := 18) hx hb dL_law_1572 (by decide) ?_
  exact law_exit C0 hA2 hS (lv_sub hl [0, 3] rfl) (by decide) (by omega) (by omega)

set_option maxHeartbeats 4000000 in
set_option maxRecDepth 100000 in
/-- the law, its call 7: far -/
theorem law_7 {p : Program} {e : Env} {s : State} {m : MethodId} {below : List Frame} {meth : Method} {c : Code} (l : Launch) {b : Nat} {xs : Nat → Int32} (C0 : lw_At p s m meth c b 6 xs) {A : Nat → Prop} (hA : ∀ q, s.heap.size ≤ q → A q) (hA2 : ∀ q, A q → s.heap.size ≤ q) {x0 : Nat} {tp : Nat} {rd : Nat} {gd : Nat} {im : Nat} {rw : Nat} {gn : Nat} {ho : Nat} {sq : Nat} {pl : Nat} {gdt : Nat} {gdu : Nat} {gdn : Nat} {plf : Nat} {plo : Nat} {plb : Nat} {pla : Nat} {m0 : Nat} {m_width : Nat} {m_many : Nat} {m_cells : Nat} {m_moved : Nat} {m_tape : Nat} {m_lines : Nat} {m_has : Nat} {m_state : Nat} {m_gate : Nat} {m_guest : Nat} {m_gone : Nat} {m_isKept : Nat} {m_first : Nat} {m_second : Nat} {m_far : Nat} {m_wished : Nat} {m_wasState : Nat} {m_isHere : Nat} {m_round : Nat} {m_bestRound : Nat} {m_taken : Nat} {k_lines : ClassId} {k_has : ClassId} (hE0 : Kx s) {dC : Nat → ClassId} {dI : Nat → Nat → Nat} (hK : va_K (dC, dI) vwCl [(k_lines, .int), (k_has, .int)] s) {H : Heap} {locs : List Loc} (hP : va_P (dC, dI) vwCl [(x0, .inr (6, [.ref tp, .int 0, .int 0, .int (-1), .ref rd, .ref gd, .ref im, .ref rw, .ref gn, .ref ho, .ref sq])), (gd, .inr (0, [.ref pl, .int 0, .long 0, .long 0, .int 0, .int (-1), .int 0, .ref gdt, .int 0, .ref gdu, .int 0, .ref gdn])), (pl, .inr (3, [.int 0, .int 0, .int 0, .int 0, .long 0, .ref plf, .ref plo, .ref plb, .ref pla])), (m0, .inr (7, [.int 0, .ref m_width, .ref m_many, .ref m_cells, .ref m_moved, .ref m_tape, .int 0, .int 0, .int 0, .int 0, .int 0, .long 0, .int 0, .int 0, .int 0, .int (-1), .ref m_lines, .ref m_has, .ref m_state, .ref m_gate, .ref m_guest, .ref m_gone, .int 0, .ref m_isKept, .ref m_first, .ref m_second, .int 0, .ref m_far, .ref m_wished, .ref m_wasState, .ref m_isHere, .ref m_round, .ref m_bestRound, .int 0, .int 0, .long 0, .long 0, .ref m_taken, .int 0])), (m_lines, .inl (k_lines, 5, .inl (fun _ => 0))), (m_has, .inl (k_has, 45, .inl (fun _ => 0)))] H) (hD : va_D A [(x0, .inr (6, [.ref tp, .int 0, .int 0, .int (-1), .ref rd, .ref gd, .ref im, .ref rw, .ref gn, .ref ho, .ref sq])), (gd, .inr (0, [.ref pl, .int 0, .long 0, .long 0, .int 0, .int (-1), .int 0, .ref gdt, .int 0, .ref gdu, .int 0, .ref gdn])), (pl, .inr (3, [.int 0, .int 0, .int 0, .int 0, .long 0, .ref plf, .ref plo, .ref plb, .ref pla])), (m0, .inr (7, [.int 0, .ref m_width, .ref m_many, .ref m_cells, .ref m_moved, .ref m_tape, .int 0, .int 0, .int 0, .int 0, .int 0, .long 0, .int 0, .int 0, .int 0, .int (-1), .ref m_lines, .ref m_has, .ref m_state, .ref m_gate, .ref m_guest, .ref m_gone, .int 0, .ref m_isKept, .ref m_first, .ref m_second, .int 0, .ref m_far, .ref m_wished, .ref m_wasState, .ref m_isHere, .ref m_round, .ref m_bestRound, .int 0, .int 0, .long 0, .long 0, .ref m_taken, .int 0])), (m_lines, .inl (k_lines, 5, .inl (fun _ => 0))), (m_has, .inl (k_has, 45, .inl (fun _ => 0)))]) (hS : va_S A s.heap H locs) {ls : Array Slot} (hl : lv_has ls 4 [(3, .int 0), (2, .ref m0), (1, .ref x0), (0, .ref b)]) : W p l e room_1 s m #[Value.ref b] below meth c H locs 70 7203 (lw_Z below #[Value.ref b] s) (F0 m 421 ls []) := by
  obtain ⟨hx, hb, hr, hml, hown, hts, hX, hbl, hlocks, hgv⟩ := id C0
  have hown : s.vm.findClass RL = some m.cls := hown
  have hts := fun w (h : w ∈ wz_law) => hts w (wz_law_in w h)
  have hbA : ¬ A b := fun h => absurd (hA2 b h) (Nat.not_le.mpr hbl)
  obtain ⟨a0, ea0⟩ : ∃ y : Int32, y = xs (0 : Int32).toNatClampNeg := ⟨_, rfl⟩
  obtain ⟨a1, ea1⟩ : ∃ y : Int32, y = xs (1 : Int32).toNatClampNeg := ⟨_, rfl⟩
  obtain ⟨a2, ea2⟩ : ∃ y : Int32, y = xs (2 : Int32).toNatClampNeg := ⟨_, rfl⟩
  obtain ⟨a3, ea3⟩ : ∃ y : Int32, y = xs (3 : Int32).toNatClampNeg := ⟨_, rfl⟩
  obtain ⟨a4, ea4⟩ : ∃ y : Int32, y = xs (4 : Int32).toNatClampNeg := ⟨_, rfl⟩
  obtain ⟨a5, ea5⟩ : ∃ y : Int32, y = xs (5 : Int32).toNatClampNeg := ⟨_, rfl⟩
  refine lv_aload_n hx hb dL_law_421 rfl (lv_at hl 2 rfl) ?_
  refine lv_aload_n hx hb dL_law_422 rfl (lv_at hl 3 rfl) ?_
  refine lv_iload_n hx hb dL_law_423 rfl (lv_at hl 0 rfl) ?_
  refine lv_iconst (v := 1) hx hb dL_law_424 (by decide) ?_
  refine lv_iadd hx hb dL_law_425 ?_
  refine lv_topi (fun z_1 ez_1 => ?_)
  obtain rfl : z_1 = 1 := ez_1.trans (by decide)
  refine va_sld hx hb hX hbl hbA hS (vp_in_iff.mpr ⟨by decide, by decide⟩) dL_law_426 ?_
  refine lv_topi (fun z_2 ez_2 => ?_)
  obtain rfl : a1 = z_2 := ea1.trans ez_2.symm
  refine lv_aload_n hx hb dL_law_427 rfl (lv_at hl 3 rfl) ?_
  refine lv_iload_n hx hb dL_law_428 rfl (lv_at hl 0 rfl) ?_
  refine lv_iconst (v := 2) hx hb dL_law_429 (by decide) ?_
  refine lv_iadd hx hb dL_law_430 ?_
  refine lv_topi (fun z_3 ez_3 => ?_)
  obtain rfl : z_3 = 2 := ez_3.trans (by decide)
  refine va_sld hx hb hX hbl hbA hS (vp_in_iff.mpr ⟨by decide, by decide⟩) dL_law_431 ?_
  refine lv_topi (fun z_4 ez_4 => ?_)
  obtain rfl : a2 = z_4 := ea2.trans ez_4.symm
  have hPc := hP.sub (ws' := [(x0, .inr (6, [.ref tp, .int 0, .int 0, .int (-1), .ref rd, .ref gd, .ref im, .ref rw, .ref gn, .ref ho, .ref sq])), (gd, .inr (0, [.ref pl, .int 0, .long 0, .long 0, .int 0, .int (-1), .int 0, .ref gdt, .int 0, .ref gdu, .int 0, .ref gdn])), (pl, .inr (3, [.int 0, .int 0, .int 0, .int 0, .long 0, .ref plf, .ref plo, .ref plb, .ref pla]))]) [0, 1, 2] rfl
  have hDc := hD.sub (ws' := [(x0, .inr (6, [.ref tp, .int 0, .int 0, .int (-1), .ref rd, .ref gd, .ref im, .ref rw, .ref gn, .ref ho, .ref sq])), (gd, .inr (0, [.ref pl, .int 0, .long 0, .long 0, .int 0, .int (-1), .int 0, .ref gdt, .int 0, .ref gdu, .int 0, .ref gdn])), (pl, .inr (3, [.int 0, .int 0, .int 0, .int 0, .long 0, .ref plf, .ref plo, .ref plb, .ref pla]))]) [0, 1, 2] (by decide) rfl
  have hKc := hK.sub (tys' := []) [] rfl
  have hFc := va_free (wc := [(x0, .inr (6, [.ref tp, .int 0, .int 0, .int (-1), .ref rd, .ref gd, .ref im, .ref rw, .ref gn, .ref ho, .ref sq])), (gd, .inr (0, [.ref pl, .int 0, .long 0, .long 0, .int 0, .int (-1), .int 0, .ref gdt, .int 0, .ref gdu, .int 0, .ref gdn])), (pl, .inr (3, [.int 0, .int 0, .int 0, .int 0, .long 0, .ref plf, .ref plo, .ref plb, .ref pla]))]) hD hS hA [0, 1, 2] rfl
  refine va_calli (va_runV (As := [.int a1, .int a2]) (rest := []) ⟨hx, hb, hml, hown, hts⟩ (c_X6_far l dC dI H.size x0 tp rd gd im rw gn ho sq pl gdt gdu gdn plf plo plb pla a1 a2 ) (cwV 2 hts g_law_X6_far rfl rfl rfl (by decide +kernel) ⟨Nat.le_of_ble_eq_true rfl, Nat.le_of_ble_eq_true rfl⟩) ⟨fun a U g mk q => by obtain ⟨q0, q1, qP, qK, qD⟩ := q; exact ⟨q0, q1, qP, va_K.moved (u := U) (U := U.calling g mk a) (Vm.Alike.refl U.vm) qK, qD⟩, va_recv hKc hPc (ci := 6) (q0 := 0) rfl rfl, fun U hU hW => ⟨rfl, by rw [hU], by rw [hU]; exact hPc, va_K.moved hW.alike hKc, hDc.weaken (fun _ _ _ _ => trivial)⟩⟩ rfl rfl hl.1 rfl (lv_room (Nat.le_of_ble_eq_true rfl)) dL_law_432 ⟨Nat.le_of_ble_eq_true rfl, Nat.le_of_ble_eq_true rfl⟩) hS (fun q _ h => hFc q h) hFc (fun r_5 u t H1 locs ht hvm hw_6 hB hz1 hk1 hS => ?_)
  have hP1 : va_P (dC, dI) vwCl [] H1 := i_nilP
  have hD1 : va_D (va_A [(x0, .inr (6, [.ref tp, .int 0, .int 0, .int (-1), .ref rd, .ref gd, .ref im, .ref rw, .ref gn, .ref ho, .ref sq])), (gd, .inr (0, [.ref pl, .int 0, .long 0, .long 0, .int 0, .int (-1), .int 0, .ref gdt, .int 0, .ref gdu, .int 0, .ref gdn])), (pl, .inr (3, [.int 0, .int 0, .int 0, .int 0, .long 0, .ref plf, .ref plo, .ref plb, .ref pla]))] H.size) [] := i_nilD
  try dsimp only at hw_6
  obtain ⟨hP, hD⟩ := va_join (wr := [(m0, .inr (7, [.int 0, .ref m_width, .ref m_many, .ref m_cells, .ref m_moved, .ref m_tape, .int 0, .int 0, .int 0, .int 0, .int 0, .long 0, .int 0, .int 0, .int 0, .int (-1), .ref m_lines, .ref m_has, .ref m_state, .ref m_gate, .ref m_guest, .ref m_gone, .int 0, .ref m_isKept, .ref m_first, .ref m_second, .int 0, .ref m_far, .ref m_wished, .ref m_wasState, .ref m_isHere, .ref m_round, .ref m_bestRound, .int 0, .int 0, .long 0, .long 0, .ref m_taken, .int 0])), (m_lines, .inl (k_lines, 5, .inl (fun _ => 0))), (m_has, .inl (k_has, 45, .inl (fun _ => 0)))]) (w1 := []) hP hD [0, 1, 2] [3, 4, 5] rfl rfl (by decide) (by decide) hk1 hFc hP1 hD1
  generalize H1 = H at hP hS ⊢
  have hP : va_P (dC, dI) vwCl [(m0, .inr (7, [.int 0, .ref m_width, .ref m_many, .ref m_cells, .ref m_moved, .ref m_tape, .int 0, .int 0, .int 0, .int 0, .int 0, .long 0, .int 0, .int 0, .int 0, .int (-1), .ref m_lines, .ref m_has, .ref m_state, .ref m_gate, .ref m_guest, .ref m_gone, .int 0, .ref m_isKept, .ref m_first, .ref m_second, .int 0, .ref m_far, .ref m_wished, .ref m_wasState, .ref m_isHere, .ref m_round, .ref m_bestRound, .int 0, .int 0, .long 0, .long 0, .ref m_taken, .int 0])), (m_lines, .inl (k_lines, 5, .inl (fun _ => 0))), (m_has, .inl (k_has, 45, .inl (fun _ => 0)))] H := hP
  have hD : va_D A [(m0, .inr (7, [.int 0, .ref m_width, .ref m_many, .ref m_cells, .ref m_moved, .ref m_tape, .int 0, .int 0, .int 0, .int 0, .int 0, .long 0, .int 0, .int 0, .int 0, .int (-1), .ref m_lines, .ref m_has, .ref m_state, .ref m_gate, .ref m_guest, .ref m_gone, .int 0, .ref m_isKept, .ref m_first, .ref m_second, .int 0, .ref m_far, .ref m_wished, .ref m_wasState, .ref m_isHere, .ref m_round, .ref m_bestRound, .int 0, .int 0, .long 0, .long 0, .ref m_taken, .int 0])), (m_lines, .inl (k_lines, 5, .inl (fun _ => 0))), (m_has, .inl (k_has, 45, .inl (fun _ => 0)))] := hD
  obtain rfl : r_5 = -2 := hw_6
  refine lv_aload_n hx hb dL_law_435 rfl (lv_at hl 1 rfl) ?_
  refine lv_aload_n hx hb dL_law_436 rfl (lv_at hl 3 rfl) ?_
  refine lv_iload_n hx hb dL_law_437 rfl (lv_at hl 0 rfl) ?_
  refine lv_iconst (v := 1) hx hb dL_law_438 (by decide) ?_
  refine lv_iadd hx hb dL_law_439 ?_
  refine lv_topi (fun z_7 ez_7 => ?_)
  obtain rfl : z_7 = 1 := ez_7.trans (by decide)
  refine va_sld hx hb hX hbl hbA hS (vp_in_iff.mpr ⟨by decide, by decide⟩) dL_law_440 ?_
  refine lv_topi (fun z_8 ez_8 => ?_)
  obtain rfl : a1 = z_8 := ea1.trans ez_8.symm
  refine lv_aload_n hx hb dL_law_441 rfl (lv_at hl 3 rfl) ?_
  refine lv_iload_n hx hb dL_law_442 rfl (lv_at hl 0 rfl) ?_
  refine lv_iconst (v := 2) hx hb dL_law_443 (by decide) ?_
  refine lv_iadd hx hb dL_law_444 ?_
  refine lv_topi (fun z_9 ez_9 => ?_)
  obtain rfl : z_9 = 2 := ez_9.trans (by decide)
  refine va_sld hx hb hX hbl hbA hS (vp_in_iff.mpr ⟨by decide, by decide⟩) dL_law_445 ?_
  refine lv_topi (fun z_10 ez_10 => ?_)
  obtain rfl : a2 = z_10 := ea2.trans ez_10.symm
  have hPc := hP.sub (ws' := [(m0, .inr (7, [.int 0, .ref m_width, .ref m_many, .ref m_cells, .ref m_moved, .ref m_tape, .int 0, .int 0, .int 0, .int 0, .int 0, .long 0, .int 0, .int 0, .int 0, .int (-1), .ref m_lines, .ref m_has, .ref m_state, .ref m_gate, .ref m_guest, .ref m_gone, .int 0, .ref m_isKept, .ref m_first, .ref m_second, .int 0, .ref m_far, .ref m_wished, .ref m_wasState, .ref m_isHere, .ref m_round, .ref m_bestRound, .int 0, .int 0, .long 0, .long 0, .ref m_taken, .int 0])), (m_lines, .inl (k_lines, 5, .inl (fun _ => 0))), (m_has, .inl (k_has, 45, .inl (fun _ => 0)))]) [0, 1, 2] rfl
  have hDc := hD.sub (ws' := [(m0, .inr (7, [.int 0, .ref m_width, .ref m_many, .ref m_cells, .ref m_moved, .ref m_tape, .int 0, .int 0, .int 0, .int 0, .int 0, .long 0, .int 0, .int 0, .int 0, .int (-1), .ref m_lines, .ref m_has, .ref m_state, .ref m_gate, .ref m_guest, .ref m_gone, .int 0, .ref m_isKept, .ref m_first, .ref m_second, .int 0, .ref m_far, .ref m_wished, .ref m_wasState, .ref m_isHere, .ref m_round, .ref m_bestRound, .int 0, .int 0, .long 0, .long 0, .ref m_taken, .int 0])), (m_lines, .inl (k_lines, 5, .inl (fun _ => 0))), (m_has, .inl (k_has, 45, .inl (fun _ => 0)))]) [0, 1, 2] (by decide) rfl
  have hKc := hK.sub (tys' := [(k_lines, .int), (k_has, .int)]) [0, 1] rfl
  have hFc := va_free (wc := [(m0, .inr (7, [.int 0, .ref m_width, .ref m_many, .ref m_cells, .ref m_moved, .ref m_tape, .int 0, .int 0, .int 0, .int 0, .int 0, .long 0, .int 0, .int 0, .int 0, .int (-1), .ref m_lines, .ref m_has, .ref m_state, .ref m_gate, .ref m_guest, .ref m_gone, .int 0, .ref m_isKept, .ref m_first, .ref m_second, .int 0, .ref m_far, .ref m_wished, .ref m_wasState, .ref m_isHere, .ref m_round, .ref m_bestRound, .int 0, .int 0, .long 0, .long 0, .ref m_taken, .int 0])), (m_lines, .inl (k_lines, 5, .inl (fun _ => 0))), (m_has, .inl (k_has, 45, .inl (fun _ => 0)))]) hD hS hA [0, 1, 2] rfl
  refine va_calli (va_runV (As := [.int a1, .int a2]) (rest := [.int (-2)]) ⟨hx, hb, hml, hown, hts⟩ (c_X7_far l dC dI H.size m0 m_width m_many m_cells m_moved m_tape m_lines m_has m_state m_gate m_guest m_gone m_isKept m_first m_second m_far m_wished m_wasState m_isHere m_round m_bestRound m_taken k_lines k_has a1 a2 ) (cwV 2 hts g_law_X7_far rfl rfl rfl (by decide +kernel) ⟨Nat.le_of_ble_eq_true rfl, Nat.le_of_ble_eq_true rfl⟩) ⟨fun a U g mk q => by obtain ⟨q0, q1, qP, qK, qD⟩ := q; exact ⟨q0, q1, qP, va_K.moved (u := U) (U := U.calling g mk a) (Vm.Alike.refl U.vm) qK, qD⟩, va_recv hKc hPc (ci := 7) (q0 := 0) rfl rfl, fun U hU hW => ⟨rfl, by rw [hU], by rw [hU]; exact hPc, va_K.moved hW.alike hKc, hDc.weaken (fun _ _ _ _ => trivial)⟩⟩ rfl rfl hl.1 rfl (lv_room (Nat.le_of_ble_eq_true rfl)) dL_law_446 ⟨Nat.le_of_ble_eq_true rfl, Nat.le_of_ble_eq_true rfl⟩) hS (fun q _ h => hFc q h) hFc (fun r_11 u t H1 locs ht hvm hw_12 hB hz1 hk1 hS => ?_)
  have hP1 : va_P (dC, dI) vwCl [] H1 := i_nilP
  have hD1 : va_D (va_A [(m0, .inr (7, [.int 0, .ref m_width, .ref m_many, .ref m_cells, .ref m_moved, .ref m_tape, .int 0, .int 0, .int 0, .int 0, .int 0, .long 0, .int 0, .int 0, .int 0, .int (-1), .ref m_lines, .ref m_has, .ref m_state, .ref m_gate, .ref m_guest, .ref m_gone, .int 0, .ref m_isKept, .ref m_first, .ref m_second, .int 0, .ref m_far, .ref m_wished, .ref m_wasState, .ref m_isHere, .ref m_round, .ref m_bestRound, .int 0, .int 0, .long 0, .long 0, .ref m_taken, .int 0])), (m_lines, .inl (k_lines, 5, .inl (fun _ => 0))), (m_has, .inl (k_has, 45, .inl (fun _ => 0)))] H.size) [] := i_nilD
  try dsimp only at hw_12
  obtain ⟨hP, hD⟩ := va_join (wr := []) (w1 := []) hP hD [0, 1, 2] [] rfl rfl (by decide) (by decide) hk1 hFc hP1 hD1
  generalize H1 = H at hP hS ⊢
  have hP : va_P (dC, dI) vwCl [] H := hP
  have hD : va_D A [] := hD
  obtain rfl : r_11 = -2 := hw_12
  refine lv_icmp_eq (tgt := 1569) hx hb dL_law_449 (by decide) (fun _ => ?_) (fun h => absurd (by decide) h)
  refine lv_iinc (v := 6) (lv' := [(3, .int 6), (2, .ref m0), (1, .ref x0), (0, .ref b)]) hx hb dL_law_1569 hl (k := 0) rfl (by decide) (by decide) rfl (fun ls hl => ?_)
  refine lv_goto (tgt := 18) hx hb dL_law_1572 (by decide) ?_
  exact law_exit C0 hA2 hS (lv_sub hl [0, 3] rfl) (by decide) (by omega) (by omega)

set_option maxHeartbeats 4000000 in
set_option maxRecDepth 100000 in
/-- the law, its call 8: way -/
theorem law_8 {p : Program} {e : Env} {s : State} {m : MethodId} {below : List Frame} {meth : Method} {c : Code} (l : Launch) {b : Nat} {xs : Nat → Int32} (C0 : lw_At p s m meth c b 6 xs) {A : Nat → Prop} (hA : ∀ q, s.heap.size ≤ q → A q) (hA2 : ∀ q, A q → s.heap.size ≤ q) {x0 : Nat} {tp : Nat} {rd : Nat} {gd : Nat} {im : Nat} {rw : Nat} {gn : Nat} {ho : Nat} {sq : Nat} {pl : Nat} {gdt : Nat} {gdu : Nat} {gdn : Nat} {plf : Nat} {plo : Nat} {plb : Nat} {pla : Nat} {m0 : Nat} {m_width : Nat} {m_many : Nat} {m_cells : Nat} {m_moved : Nat} {m_tape : Nat} {m_lines : Nat} {m_has : Nat} {m_state : Nat} {m_gate : Nat} {m_guest : Nat} {m_gone : Nat} {m_isKept : Nat} {m_first : Nat} {m_second : Nat} {m_far : Nat} {m_wished : Nat} {m_wasState : Nat} {m_isHere : Nat} {m_round : Nat} {m_bestRound : Nat} {m_taken : Nat} {k_lines : ClassId} {k_has : ClassId} (hE0 : Kx s) {dC : Nat → ClassId} {dI : Nat → Nat → Nat} (hK : va_K (dC, dI) vwCl [(k_lines, .int), (k_has, .int)] s) {H : Heap} {locs : List Loc} (hP : va_P (dC, dI) vwCl [(x0, .inr (6, [.ref tp, .int 0, .int 0, .int (-1), .ref rd, .ref gd, .ref im, .ref rw, .ref gn, .ref ho, .ref sq])), (gd, .inr (0, [.ref pl, .int 0, .long 0, .long 0, .int 0, .int (-1), .int 0, .ref gdt, .int 0, .ref gdu, .int 0, .ref gdn])), (pl, .inr (3, [.int 0, .int 0, .int 0, .int 0, .long 0, .ref plf, .ref plo, .ref plb, .ref pla])), (m0, .inr (7, [.int 0, .ref m_width, .ref m_many, .ref m_cells, .ref m_moved, .ref m_tape, .int 0, .int 0, .int 0, .int 0, .int 0, .long 0, .int 0, .int 0, .int 0, .int (-1), .ref m_lines, .ref m_has, .ref m_state, .ref m_gate, .ref m_guest, .ref m_gone, .int 0, .ref m_isKept, .ref m_first, .ref m_second, .int 0, .ref m_far, .ref m_wished, .ref m_wasState, .ref m_isHere, .ref m_round, .ref m_bestRound, .int 0, .int 0, .long 0, .long 0, .ref m_taken, .int 0])), (m_lines, .inl (k_lines, 5, .inl (fun _ => 0))), (m_has, .inl (k_has, 45, .inl (fun _ => 0)))] H) (hD : va_D A [(x0, .inr (6, [.ref tp, .int 0, .int 0, .int (-1), .ref rd, .ref gd, .ref im, .ref rw, .ref gn, .ref ho, .ref sq])), (gd, .inr (0, [.ref pl, .int 0, .long 0, .long 0, .int 0, .int (-1), .int 0, .ref gdt, .int 0, .ref gdu, .int 0, .ref gdn])), (pl, .inr (3, [.int 0, .int 0, .int 0, .int 0, .long 0, .ref plf, .ref plo, .ref plb, .ref pla])), (m0, .inr (7, [.int 0, .ref m_width, .ref m_many, .ref m_cells, .ref m_moved, .ref m_tape, .int 0, .int 0, .int 0, .int 0, .int 0, .long 0, .int 0, .int 0, .int 0, .int (-1), .ref m_lines, .ref m_has, .ref m_state, .ref m_gate, .ref m_guest, .ref m_gone, .int 0, .ref m_isKept, .ref m_first, .ref m_second, .int 0, .ref m_far, .ref m_wished, .ref m_wasState, .ref m_isHere, .ref m_round, .ref m_bestRound, .int 0, .int 0, .long 0, .long 0, .ref m_taken, .int 0])), (m_lines, .inl (k_lines, 5, .inl (fun _ => 0))), (m_has, .inl (k_has, 45, .inl (fun _ => 0)))]) (hS : va_S A s.heap H locs) {ls : Array Slot} (hl : lv_has ls 4 [(3, .int 0), (2, .ref m0), (1, .ref x0), (0, .ref b)]) : W p l e room_1 s m #[Value.ref b] below meth c H locs 70 7203 (lw_Z below #[Value.ref b] s) (F0 m 454 ls []) := by
  obtain ⟨hx, hb, hr, hml, hown, hts, hX, hbl, hlocks, hgv⟩ := id C0
  have hown : s.vm.findClass RL = some m.cls := hown
  have hts := fun w (h : w ∈ wz_law) => hts w (wz_law_in w h)
  have hbA : ¬ A b := fun h => absurd (hA2 b h) (Nat.not_le.mpr hbl)
  obtain ⟨a0, ea0⟩ : ∃ y : Int32, y = xs (0 : Int32).toNatClampNeg := ⟨_, rfl⟩
  obtain ⟨a1, ea1⟩ : ∃ y : Int32, y = xs (1 : Int32).toNatClampNeg := ⟨_, rfl⟩
  obtain ⟨a2, ea2⟩ : ∃ y : Int32, y = xs (2 : Int32).toNatClampNeg := ⟨_, rfl⟩
  obtain ⟨a3, ea3⟩ : ∃ y : Int32, y = xs (3 : Int32).toNatClampNeg := ⟨_, rfl⟩
  obtain ⟨a4, ea4⟩ : ∃ y : Int32, y = xs (4 : Int32).toNatClampNeg := ⟨_, rfl⟩
  obtain ⟨a5, ea5⟩ : ∃ y : Int32, y = xs (5 : Int32).toNatClampNeg := ⟨_, rfl⟩
  refine lv_aload_n hx hb dL_law_454 rfl (lv_at hl 2 rfl) ?_
  refine lv_aload_n hx hb dL_law_455 rfl (lv_at hl 3 rfl) ?_
  refine lv_iload_n hx hb dL_law_456 rfl (lv_at hl 0 rfl) ?_
  refine lv_iconst (v := 1) hx hb dL_law_457 (by decide) ?_
  refine lv_iadd hx hb dL_law_458 ?_
  refine lv_topi (fun z_1 ez_1 => ?_)
  obtain rfl : z_1 = 1 := ez_1.trans (by decide)
  refine va_sld hx hb hX hbl hbA hS (vp_in_iff.mpr ⟨by decide, by decide⟩) dL_law_459 ?_
  refine lv_topi (fun z_2 ez_2 => ?_)
  obtain rfl : a1 = z_2 := ea1.trans ez_2.symm
  refine lv_aload_n hx hb dL_law_460 rfl (lv_at hl 3 rfl) ?_
  refine lv_iload_n hx hb dL_law_461 rfl (lv_at hl 0 rfl) ?_
  refine lv_iconst (v := 2) hx hb dL_law_462 (by decide) ?_
  refine lv_iadd hx hb dL_law_463 ?_
  refine lv_topi (fun z_3 ez_3 => ?_)
  obtain rfl : z_3 = 2 := ez_3.trans (by decide)
  refine va_sld hx hb hX hbl hbA hS (vp_in_iff.mpr ⟨by decide, by decide⟩) dL_law_464 ?_
  refine lv_topi (fun z_4 ez_4 => ?_)
  obtain rfl : a2 = z_4 := ea2.trans ez_4.symm
  refine lv_aload_n hx hb dL_law_465 rfl (lv_at hl 3 rfl) ?_
  refine lv_iload_n hx hb dL_law_466 rfl (lv_at hl 0 rfl) ?_
  refine lv_iconst (v := 3) hx hb dL_law_467 (by decide) ?_
  refine lv_iadd hx hb dL_law_468 ?_
  refine lv_topi (fun z_5 ez_5 => ?_)
  obtain rfl : z_5 = 3 := ez_5.trans (by decide)
  refine va_sld hx hb hX hbl hbA hS (vp_in_iff.mpr ⟨by decide, by decide⟩) dL_law_469 ?_
  refine lv_topi (fun z_6 ez_6 => ?_)
  obtain rfl : a3 = z_6 := ea3.trans ez_6.symm
  have hPc := hP.sub (ws' := [(x0, .inr (6, [.ref tp, .int 0, .int 0, .int (-1), .ref rd, .ref gd, .ref im, .ref rw, .ref gn, .ref ho, .ref sq])), (gd, .inr (0, [.ref pl, .int 0, .long 0, .long 0, .int 0, .int (-1), .int 0, .ref gdt, .int 0, .ref gdu, .int 0, .ref gdn])), (pl, .inr (3, [.int 0, .int 0, .int 0, .int 0, .long 0, .ref plf, .ref plo, .ref plb, .ref pla]))]) [0, 1, 2] rfl
  have hDc := hD.sub (ws' := [(x0, .inr (6, [.ref tp, .int 0, .int 0, .int (-1), .ref rd, .ref gd, .ref im, .ref rw, .ref gn, .ref ho, .ref sq])), (gd, .inr (0, [.ref pl, .int 0, .long 0, .long 0, .int 0, .int (-1), .int 0, .ref gdt, .int 0, .ref gdu, .int 0, .ref gdn])), (pl, .inr (3, [.int 0, .int 0, .int 0, .int 0, .long 0, .ref plf, .ref plo, .ref plb, .ref pla]))]) [0, 1, 2] (by decide) rfl
  have hKc := hK.sub (tys' := []) [] rfl
  have hFc := va_free (wc := [(x0, .inr (6, [.ref tp, .int 0, .int 0, .int (-1), .ref rd, .ref gd, .ref im, .ref rw, .ref gn, .ref ho, .ref sq])), (gd, .inr (0, [.ref pl, .int 0, .long 0, .long 0, .int 0, .int (-1), .int 0, .ref gdt, .int 0, .ref gdu, .int 0, .ref gdn])), (pl, .inr (3, [.int 0, .int 0, .int 0, .int 0, .long 0, .ref plf, .ref plo, .ref plb, .ref pla]))]) hD hS hA [0, 1, 2] rfl
  refine va_calli (va_runV (As := [.int a1, .int a2, .int a3]) (rest := []) ⟨hx, hb, hml, hown, hts⟩ (c_X6_way l dC dI H.size x0 tp rd gd im rw gn ho sq pl gdt gdu gdn plf plo plb pla a1 a2 a3 ) (cwV 3 hts g_law_X6_way rfl rfl rfl (by decide +kernel) ⟨Nat.le_of_ble_eq_true rfl, Nat.le_of_ble_eq_true rfl⟩) ⟨fun a U g mk q => by obtain ⟨q0, q1, qP, qK, qD⟩ := q; exact ⟨q0, q1, qP, va_K.moved (u := U) (U := U.calling g mk a) (Vm.Alike.refl U.vm) qK, qD⟩, va_recv hKc hPc (ci := 6) (q0 := 0) rfl rfl, fun U hU hW => ⟨rfl, by rw [hU], by rw [hU]; exact hPc, va_K.moved hW.alike hKc, hDc.weaken (fun _ _ _ _ => trivial)⟩⟩ rfl rfl hl.1 rfl (lv_room (Nat.le_of_ble_eq_true rfl)) dL_law_470 ⟨Nat.le_of_ble_eq_true rfl, Nat.le_of_ble_eq_true rfl⟩) hS (fun q _ h => hFc q h) hFc (fun r_7 u t H1 locs ht hvm hw_8 hB hz1 hk1 hS => ?_)
  have hP1 : va_P (dC, dI) vwCl [] H1 := i_nilP
  have hD1 : va_D (va_A [(x0, .inr (6, [.ref tp, .int 0, .int 0, .int (-1), .ref rd, .ref gd, .ref im, .ref rw, .ref gn, .ref ho, .ref sq])), (gd, .inr (0, [.ref pl, .int 0, .long 0, .long 0, .int 0, .int (-1), .int 0, .ref gdt, .int 0, .ref gdu, .int 0, .ref gdn])), (pl, .inr (3, [.int 0, .int 0, .int 0, .int 0, .long 0, .ref plf, .ref plo, .ref plb, .ref pla]))] H.size) [] := i_nilD
  try dsimp only at hw_8
  obtain ⟨hP, hD⟩ := va_join (wr := [(m0, .inr (7, [.int 0, .ref m_width, .ref m_many, .ref m_cells, .ref m_moved, .ref m_tape, .int 0, .int 0, .int 0, .int 0, .int 0, .long 0, .int 0, .int 0, .int 0, .int (-1), .ref m_lines, .ref m_has, .ref m_state, .ref m_gate, .ref m_guest, .ref m_gone, .int 0, .ref m_isKept, .ref m_first, .ref m_second, .int 0, .ref m_far, .ref m_wished, .ref m_wasState, .ref m_isHere, .ref m_round, .ref m_bestRound, .int 0, .int 0, .long 0, .long 0, .ref m_taken, .int 0])), (m_lines, .inl (k_lines, 5, .inl (fun _ => 0))), (m_has, .inl (k_has, 45, .inl (fun _ => 0)))]) (w1 := []) hP hD [0, 1, 2] [3, 4, 5] rfl rfl (by decide) (by decide) hk1 hFc hP1 hD1
  generalize H1 = H at hP hS ⊢
  have hP : va_P (dC, dI) vwCl [(m0, .inr (7, [.int 0, .ref m_width, .ref m_many, .ref m_cells, .ref m_moved, .ref m_tape, .int 0, .int 0, .int 0, .int 0, .int 0, .long 0, .int 0, .int 0, .int 0, .int (-1), .ref m_lines, .ref m_has, .ref m_state, .ref m_gate, .ref m_guest, .ref m_gone, .int 0, .ref m_isKept, .ref m_first, .ref m_second, .int 0, .ref m_far, .ref m_wished, .ref m_wasState, .ref m_isHere, .ref m_round, .ref m_bestRound, .int 0, .int 0, .long 0, .long 0, .ref m_taken, .int 0])), (m_lines, .inl (k_lines, 5, .inl (fun _ => 0))), (m_has, .inl (k_has, 45, .inl (fun _ => 0)))] H := hP
  have hD : va_D A [(m0, .inr (7, [.int 0, .ref m_width, .ref m_many, .ref m_cells, .ref m_moved, .ref m_tape, .int 0, .int 0, .int 0, .int 0, .int 0, .long 0, .int 0, .int 0, .int 0, .int (-1), .ref m_lines, .ref m_has, .ref m_state, .ref m_gate, .ref m_guest, .ref m_gone, .int 0, .ref m_isKept, .ref m_first, .ref m_second, .int 0, .ref m_far, .ref m_wished, .ref m_wasState, .ref m_isHere, .ref m_round, .ref m_bestRound, .int 0, .int 0, .long 0, .long 0, .ref m_taken, .int 0])), (m_lines, .inl (k_lines, 5, .inl (fun _ => 0))), (m_has, .inl (k_has, 45, .inl (fun _ => 0)))] := hD
  obtain rfl : r_7 = -2 := hw_8
  refine lv_aload_n hx hb dL_law_473 rfl (lv_at hl 1 rfl) ?_
  refine lv_aload_n hx hb dL_law_474 rfl (lv_at hl 3 rfl) ?_
  refine lv_iload_n hx hb dL_law_475 rfl (lv_at hl 0 rfl) ?_
  refine lv_iconst (v := 1) hx hb dL_law_476 (by decide) ?_
  refine lv_iadd hx hb dL_law_477 ?_
  refine lv_topi (fun z_9 ez_9 => ?_)
  obtain rfl : z_9 = 1 := ez_9.trans (by decide)
  refine va_sld hx hb hX hbl hbA hS (vp_in_iff.mpr ⟨by decide, by decide⟩) dL_law_478 ?_
  refine lv_topi (fun z_10 ez_10 => ?_)
  obtain rfl : a1 = z_10 := ea1.trans ez_10.symm
  refine lv_aload_n hx hb dL_law_479 rfl (lv_at hl 3 rfl) ?_
  refine lv_iload_n hx hb dL_law_480 rfl (lv_at hl 0 rfl) ?_
  refine lv_iconst (v := 2) hx hb dL_law_481 (by decide) ?_
  refine lv_iadd hx hb dL_law_482 ?_
  refine lv_topi (fun z_11 ez_11 => ?_)
  obtain rfl : z_11 = 2 := ez_11.trans (by decide)
  refine va_sld hx hb hX hbl hbA hS (vp_in_iff.mpr ⟨by decide, by decide⟩) dL_law_483 ?_
  refine lv_topi (fun z_12 ez_12 => ?_)
  obtain rfl : a2 = z_12 := ea2.trans ez_12.symm
  refine lv_aload_n hx hb dL_law_484 rfl (lv_at hl 3 rfl) ?_
  refine lv_iload_n hx hb dL_law_485 rfl (lv_at hl 0 rfl) ?_
  refine lv_iconst (v := 3) hx hb dL_law_486 (by decide) ?_
  refine lv_iadd hx hb dL_law_487 ?_
  refine lv_topi (fun z_13 ez_13 => ?_)
  obtain rfl : z_13 = 3 := ez_13.trans (by decide)
  refine va_sld hx hb hX hbl hbA hS (vp_in_iff.mpr ⟨by decide, by decide⟩) dL_law_488 ?_
  refine lv_topi (fun z_14 ez_14 => ?_)
  obtain rfl : a3 = z_14 := ea3.trans ez_14.symm
  have hPc := hP.sub (ws' := [(m0, .inr (7, [.int 0, .ref m_width, .ref m_many, .ref m_cells, .ref m_moved, .ref m_tape, .int 0, .int 0, .int 0, .int 0, .int 0, .long 0, .int 0, .int 0, .int 0, .int (-1), .ref m_lines, .ref m_has, .ref m_state, .ref m_gate, .ref m_guest, .ref m_gone, .int 0, .ref m_isKept, .ref m_first, .ref m_second, .int 0, .ref m_far, .ref m_wished, .ref m_wasState, .ref m_isHere, .ref m_round, .ref m_bestRound, .int 0, .int 0, .long 0, .long 0, .ref m_taken, .int 0])), (m_lines, .inl (k_lines, 5, .inl (fun _ => 0))), (m_has, .inl (k_has, 45, .inl (fun _ => 0)))]) [0, 1, 2] rfl
  have hDc := hD.sub (ws' := [(m0, .inr (7, [.int 0, .ref m_width, .ref m_many, .ref m_cells, .ref m_moved, .ref m_tape, .int 0, .int 0, .int 0, .int 0, .int 0, .long 0, .int 0, .int 0, .int 0, .int (-1), .ref m_lines, .ref m_has, .ref m_state, .ref m_gate, .ref m_guest, .ref m_gone, .int 0, .ref m_isKept, .ref m_first, .ref m_second, .int 0, .ref m_far, .ref m_wished, .ref m_wasState, .ref m_isHere, .ref m_round, .ref m_bestRound, .int 0, .int 0, .long 0, .long 0, .ref m_taken, .int 0])), (m_lines, .inl (k_lines, 5, .inl (fun _ => 0))), (m_has, .inl (k_has, 45, .inl (fun _ => 0)))]) [0, 1, 2] (by decide) rfl
  have hKc := hK.sub (tys' := [(k_lines, .int), (k_has, .int)]) [0, 1] rfl
  have hFc := va_free (wc := [(m0, .inr (7, [.int 0, .ref m_width, .ref m_many, .ref m_cells, .ref m_moved, .ref m_tape, .int 0, .int 0, .int 0, .int 0, .int 0, .long 0, .int 0, .int 0, .int 0, .int (-1), .ref m_lines, .ref m_has, .ref m_state, .ref m_gate, .ref m_guest, .ref m_gone, .int 0, .ref m_isKept, .ref m_first, .ref m_second, .int 0, .ref m_far, .ref m_wished, .ref m_wasState, .ref m_isHere, .ref m_round, .ref m_bestRound, .int 0, .int 0, .long 0, .long 0, .ref m_taken, .int 0])), (m_lines, .inl (k_lines, 5, .inl (fun _ => 0))), (m_has, .inl (k_has, 45, .inl (fun _ => 0)))]) hD hS hA [0, 1, 2] rfl
  refine va_calli (va_runV (As := [.int a1, .int a2, .int a3]) (rest := [.int (-2)]) ⟨hx, hb, hml, hown, hts⟩ (c_X7_way l dC dI H.size m0 m_width m_many m_cells m_moved m_tape m_lines m_has m_state m_gate m_guest m_gone m_isKept m_first m_second m_far m_wished m_wasState m_isHere m_round m_bestRound m_taken k_lines k_has a1 a2 a3 ) (cwV 3 hts g_law_X7_way rfl rfl rfl (by decide +kernel) ⟨Nat.le_of_ble_eq_true rfl, Nat.le_of_ble_eq_true rfl⟩) ⟨fun a U g mk q => by obtain ⟨q0, q1, qP, qK, qD⟩ := q; exact ⟨q0, q1, qP, va_K.moved (u := U) (U := U.calling g mk a) (Vm.Alike.refl U.vm) qK, qD⟩, va_recv hKc hPc (ci := 7) (q0 := 0) rfl rfl, fun U hU hW => ⟨rfl, by rw [hU], by rw [hU]; exact hPc, va_K.moved hW.alike hKc, hDc.weaken (fun _ _ _ _ => trivial)⟩⟩ rfl rfl hl.1 rfl (lv_room (Nat.le_of_ble_eq_true rfl)) dL_law_489 ⟨Nat.le_of_ble_eq_true rfl, Nat.le_of_ble_eq_true rfl⟩) hS (fun q _ h => hFc q h) hFc (fun r_15 u t H1 locs ht hvm hw_16 hB hz1 hk1 hS => ?_)
  have hP1 : va_P (dC, dI) vwCl [] H1 := i_nilP
  have hD1 : va_D (va_A [(m0, .inr (7, [.int 0, .ref m_width, .ref m_many, .ref m_cells, .ref m_moved, .ref m_tape, .int 0, .int 0, .int 0, .int 0, .int 0, .long 0, .int 0, .int 0, .int 0, .int (-1), .ref m_lines, .ref m_has, .ref m_state, .ref m_gate, .ref m_guest, .ref m_gone, .int 0, .ref m_isKept, .ref m_first, .ref m_second, .int 0, .ref m_far, .ref m_wished, .ref m_wasState, .ref m_isHere, .ref m_round, .ref m_bestRound, .int 0, .int 0, .long 0, .long 0, .ref m_taken, .int 0])), (m_lines, .inl (k_lines, 5, .inl (fun _ => 0))), (m_has, .inl (k_has, 45, .inl (fun _ => 0)))] H.size) [] := i_nilD
  try dsimp only at hw_16
  obtain ⟨hP, hD⟩ := va_join (wr := []) (w1 := []) hP hD [0, 1, 2] [] rfl rfl (by decide) (by decide) hk1 hFc hP1 hD1
  generalize H1 = H at hP hS ⊢
  have hP : va_P (dC, dI) vwCl [] H := hP
  have hD : va_D A [] := hD
  obtain rfl : r_15 = -2 := hw_16
  refine lv_icmp_eq (tgt := 1569) hx hb dL_law_492 (by decide) (fun _ => ?_) (fun h => absurd (by decide) h)
  refine lv_iinc (v := 6) (lv' := [(3, .int 6), (2, .ref m0), (1, .ref x0), (0, .ref b)]) hx hb dL_law_1569 hl (k := 0) rfl (by decide) (by decide) rfl (fun ls hl => ?_)
  refine lv_goto (tgt := 18) hx hb dL_law_1572 (by decide) ?_
  exact law_exit C0 hA2 hS (lv_sub hl [0, 3] rfl) (by decide) (by omega) (by omega)

set_option maxHeartbeats 4000000 in
set_option maxRecDepth 100000 in
/-- the law, its call 9: gate -/
theorem law_9 {p : Program} {e : Env} {s : State} {m : MethodId} {below : List Frame} {meth : Method} {c : Code} (l : Launch) {b : Nat} {xs : Nat → Int32} (C0 : lw_At p s m meth c b 6 xs) {A : Nat → Prop} (hA : ∀ q, s.heap.size ≤ q → A q) (hA2 : ∀ q, A q → s.heap.size ≤ q) {x0 : Nat} {tp : Nat} {rd : Nat} {gd : Nat} {im : Nat} {rw : Nat} {gn : Nat} {ho : Nat} {sq : Nat} {pl : Nat} {gdt : Nat} {gdu : Nat} {gdn : Nat} {plf : Nat} {plo : Nat} {plb : Nat} {pla : Nat} {m0 : Nat} {m_width : Nat} {m_many : Nat} {m_cells : Nat} {m_moved : Nat} {m_tape : Nat} {m_lines : Nat} {m_has : Nat} {m_state : Nat} {m_gate : Nat} {m_guest : Nat} {m_gone : Nat} {m_isKept : Nat} {m_first : Nat} {m_second : Nat} {m_far : Nat} {m_wished : Nat} {m_wasState : Nat} {m_isHere : Nat} {m_round : Nat} {m_bestRound : Nat} {m_taken : Nat} {k_lines : ClassId} {k_has : ClassId} (hE0 : Kx s) {dC : Nat → ClassId} {dI : Nat → Nat → Nat} (hK : va_K (dC, dI) vwCl [(k_lines, .int), (k_has, .int)] s) {H : Heap} {locs : List Loc} (hP : va_P (dC, dI) vwCl [(x0, .inr (6, [.ref tp, .int 0, .int 0, .int (-1), .ref rd, .ref gd, .ref im, .ref rw, .ref gn, .ref ho, .ref sq])), (gd, .inr (0, [.ref pl, .int 0, .long 0, .long 0, .int 0, .int (-1), .int 0, .ref gdt, .int 0, .ref gdu, .int 0, .ref gdn])), (pl, .inr (3, [.int 0, .int 0, .int 0, .int 0, .long 0, .ref plf, .ref plo, .ref plb, .ref pla])), (m0, .inr (7, [.int 0, .ref m_width, .ref m_many, .ref m_cells, .ref m_moved, .ref m_tape, .int 0, .int 0, .int 0, .int 0, .int 0, .long 0, .int 0, .int 0, .int 0, .int (-1), .ref m_lines, .ref m_has, .ref m_state, .ref m_gate, .ref m_guest, .ref m_gone, .int 0, .ref m_isKept, .ref m_first, .ref m_second, .int 0, .ref m_far, .ref m_wished, .ref m_wasState, .ref m_isHere, .ref m_round, .ref m_bestRound, .int 0, .int 0, .long 0, .long 0, .ref m_taken, .int 0])), (m_lines, .inl (k_lines, 5, .inl (fun _ => 0))), (m_has, .inl (k_has, 45, .inl (fun _ => 0)))] H) (hD : va_D A [(x0, .inr (6, [.ref tp, .int 0, .int 0, .int (-1), .ref rd, .ref gd, .ref im, .ref rw, .ref gn, .ref ho, .ref sq])), (gd, .inr (0, [.ref pl, .int 0, .long 0, .long 0, .int 0, .int (-1), .int 0, .ref gdt, .int 0, .ref gdu, .int 0, .ref gdn])), (pl, .inr (3, [.int 0, .int 0, .int 0, .int 0, .long 0, .ref plf, .ref plo, .ref plb, .ref pla])), (m0, .inr (7, [.int 0, .ref m_width, .ref m_many, .ref m_cells, .ref m_moved, .ref m_tape, .int 0, .int 0, .int 0, .int 0, .int 0, .long 0, .int 0, .int 0, .int 0, .int (-1), .ref m_lines, .ref m_has, .ref m_state, .ref m_gate, .ref m_guest, .ref m_gone, .int 0, .ref m_isKept, .ref m_first, .ref m_second, .int 0, .ref m_far, .ref m_wished, .ref m_wasState, .ref m_isHere, .ref m_round, .ref m_bestRound, .int 0, .int 0, .long 0, .long 0, .ref m_taken, .int 0])), (m_lines, .inl (k_lines, 5, .inl (fun _ => 0))), (m_has, .inl (k_has, 45, .inl (fun _ => 0)))]) (hS : va_S A s.heap H locs) {ls : Array Slot} (hl : lv_has ls 4 [(3, .int 0), (2, .ref m0), (1, .ref x0), (0, .ref b)]) : W p l e room_1 s m #[Value.ref b] below meth c H locs 70 7203 (lw_Z below #[Value.ref b] s) (F0 m 497 ls []) := by
  obtain ⟨hx, hb, hr, hml, hown, hts, hX, hbl, hlocks, hgv⟩ := id C0
  have hown : s.vm.findClass RL = some m.cls := hown
  have hts := fun w (h : w ∈ wz_law) => hts w (wz_law_in w h)
  have hbA : ¬ A b := fun h => absurd (hA2 b h) (Nat.not_le.mpr hbl)
  obtain ⟨a0, ea0⟩ : ∃ y : Int32, y = xs (0 : Int32).toNatClampNeg := ⟨_, rfl⟩
  obtain ⟨a1, ea1⟩ : ∃ y : Int32, y = xs (1 : Int32).toNatClampNeg := ⟨_, rfl⟩
  obtain ⟨a2, ea2⟩ : ∃ y : Int32, y = xs (2 : Int32).toNatClampNeg := ⟨_, rfl⟩
  obtain ⟨a3, ea3⟩ : ∃ y : Int32, y = xs (3 : Int32).toNatClampNeg := ⟨_, rfl⟩
  obtain ⟨a4, ea4⟩ : ∃ y : Int32, y = xs (4 : Int32).toNatClampNeg := ⟨_, rfl⟩
  obtain ⟨a5, ea5⟩ : ∃ y : Int32, y = xs (5 : Int32).toNatClampNeg := ⟨_, rfl⟩
  refine lv_aload_n hx hb dL_law_497 rfl (lv_at hl 2 rfl) ?_
  refine lv_aload_n hx hb dL_law_498 rfl (lv_at hl 3 rfl) ?_
  refine lv_iload_n hx hb dL_law_499 rfl (lv_at hl 0 rfl) ?_
  refine lv_iconst (v := 1) hx hb dL_law_500 (by decide) ?_
  refine lv_iadd hx hb dL_law_501 ?_
  refine lv_topi (fun z_1 ez_1 => ?_)
  obtain rfl : z_1 = 1 := ez_1.trans (by decide)
  refine va_sld hx hb hX hbl hbA hS (vp_in_iff.mpr ⟨by decide, by decide⟩) dL_law_502 ?_
  refine lv_topi (fun z_2 ez_2 => ?_)
  obtain rfl : a1 = z_2 := ea1.trans ez_2.symm
  have hPc := hP.sub (ws' := [(x0, .inr (6, [.ref tp, .int 0, .int 0, .int (-1), .ref rd, .ref gd, .ref im, .ref rw, .ref gn, .ref ho, .ref sq])), (gd, .inr (0, [.ref pl, .int 0, .long 0, .long 0, .int 0, .int (-1), .int 0, .ref gdt, .int 0, .ref gdu, .int 0, .ref gdn])), (pl, .inr (3, [.int 0, .int 0, .int 0, .int 0, .long 0, .ref plf, .ref plo, .ref plb, .ref pla]))]) [0, 1, 2] rfl
  have hDc := hD.sub (ws' := [(x0, .inr (6, [.ref tp, .int 0, .int 0, .int (-1), .ref rd, .ref gd, .ref im, .ref rw, .ref gn, .ref ho, .ref sq])), (gd, .inr (0, [.ref pl, .int 0, .long 0, .long 0, .int 0, .int (-1), .int 0, .ref gdt, .int 0, .ref gdu, .int 0, .ref gdn])), (pl, .inr (3, [.int 0, .int 0, .int 0, .int 0, .long 0, .ref plf, .ref plo, .ref plb, .ref pla]))]) [0, 1, 2] (by decide) rfl
  have hKc := hK.sub (tys' := []) [] rfl
  have hFc := va_free (wc := [(x0, .inr (6, [.ref tp, .int 0, .int 0, .int (-1), .ref rd, .ref gd, .ref im, .ref rw, .ref gn, .ref ho, .ref sq])), (gd, .inr (0, [.ref pl, .int 0, .long 0, .long 0, .int 0, .int (-1), .int 0, .ref gdt, .int 0, .ref gdu, .int 0, .ref gdn])), (pl, .inr (3, [.int 0, .int 0, .int 0, .int 0, .long 0, .ref plf, .ref plo, .ref plb, .ref pla]))]) hD hS hA [0, 1, 2] rfl
  refine va_calli (va_runV (As := [.int a1]) (rest := []) ⟨hx, hb, hml, hown, hts⟩ (c_X6_gate l dC dI H.size x0 tp rd gd im rw gn ho sq pl gdt gdu gdn plf plo plb pla a1 ) (cwV 1 hts g_law_X6_gate rfl rfl rfl (by decide +kernel) ⟨Nat.le_of_ble_eq_true rfl, Nat.le_of_ble_eq_true rfl⟩) ⟨fun a U g mk q => by obtain ⟨q0, q1, qP, qK, qD⟩ := q; exact ⟨q0, q1, qP, va_K.moved (u := U) (U := U.calling g mk a) (Vm.Alike.refl U.vm) qK, qD⟩, va_recv hKc hPc (ci := 6) (q0 := 0) rfl rfl, fun U hU hW => ⟨rfl, by rw [hU], by rw [hU]; exact hPc, va_K.moved hW.alike hKc, hDc.weaken (fun _ _ _ _ => trivial)⟩⟩ rfl rfl hl.1 rfl (lv_room (Nat.le_of_ble_eq_true rfl)) dL_law_503 ⟨Nat.le_of_ble_eq_true rfl, Nat.le_of_ble_eq_true rfl⟩) hS (fun q _ h => hFc q h) hFc (fun r_3 u t H1 locs ht hvm hw_4 hB hz1 hk1 hS => ?_)
  have hP1 : va_P (dC, dI) vwCl [] H1 := i_nilP
  have hD1 : va_D (va_A [(x0, .inr (6, [.ref tp, .int 0, .int 0, .int (-1), .ref rd, .ref gd, .ref im, .ref rw, .ref gn, .ref ho, .ref sq])), (gd, .inr (0, [.ref pl, .int 0, .long 0, .long 0, .int 0, .int (-1), .int 0, .ref gdt, .int 0, .ref gdu, .int 0, .ref gdn])), (pl, .inr (3, [.int 0, .int 0, .int 0, .int 0, .long 0, .ref plf, .ref plo, .ref plb, .ref pla]))] H.size) [] := i_nilD
  try dsimp only at hw_4
  obtain ⟨hP, hD⟩ := va_join (wr := [(m0, .inr (7, [.int 0, .ref m_width, .ref m_many, .ref m_cells, .ref m_moved, .ref m_tape, .int 0, .int 0, .int 0, .int 0, .int 0, .long 0, .int 0, .int 0, .int 0, .int (-1), .ref m_lines, .ref m_has, .ref m_state, .ref m_gate, .ref m_guest, .ref m_gone, .int 0, .ref m_isKept, .ref m_first, .ref m_second, .int 0, .ref m_far, .ref m_wished, .ref m_wasState, .ref m_isHere, .ref m_round, .ref m_bestRound, .int 0, .int 0, .long 0, .long 0, .ref m_taken, .int 0])), (m_lines, .inl (k_lines, 5, .inl (fun _ => 0))), (m_has, .inl (k_has, 45, .inl (fun _ => 0)))]) (w1 := []) hP hD [0, 1, 2] [3, 4, 5] rfl rfl (by decide) (by decide) hk1 hFc hP1 hD1
  generalize H1 = H at hP hS ⊢
  have hP : va_P (dC, dI) vwCl [(m0, .inr (7, [.int 0, .ref m_width, .ref m_many, .ref m_cells, .ref m_moved, .ref m_tape, .int 0, .int 0, .int 0, .int 0, .int 0, .long 0, .int 0, .int 0, .int 0, .int (-1), .ref m_lines, .ref m_has, .ref m_state, .ref m_gate, .ref m_guest, .ref m_gone, .int 0, .ref m_isKept, .ref m_first, .ref m_second, .int 0, .ref m_far, .ref m_wished, .ref m_wasState, .ref m_isHere, .ref m_round, .ref m_bestRound, .int 0, .int 0, .long 0, .long 0, .ref m_taken, .int 0])), (m_lines, .inl (k_lines, 5, .inl (fun _ => 0))), (m_has, .inl (k_has, 45, .inl (fun _ => 0)))] H := hP
  have hD : va_D A [(m0, .inr (7, [.int 0, .ref m_width, .ref m_many, .ref m_cells, .ref m_moved, .ref m_tape, .int 0, .int 0, .int 0, .int 0, .int 0, .long 0, .int 0, .int 0, .int 0, .int (-1), .ref m_lines, .ref m_has, .ref m_state, .ref m_gate, .ref m_guest, .ref m_gone, .int 0, .ref m_isKept, .ref m_first, .ref m_second, .int 0, .ref m_far, .ref m_wished, .ref m_wasState, .ref m_isHere, .ref m_round, .ref m_bestRound, .int 0, .int 0, .long 0, .long 0, .ref m_taken, .int 0])), (m_lines, .inl (k_lines, 5, .inl (fun _ => 0))), (m_has, .inl (k_has, 45, .inl (fun _ => 0)))] := hD
  obtain rfl : r_3 = -2 := hw_4
  refine lv_aload_n hx hb dL_law_506 rfl (lv_at hl 1 rfl) ?_
  refine lv_aload_n hx hb dL_law_507 rfl (lv_at hl 3 rfl) ?_
  refine lv_iload_n hx hb dL_law_508 rfl (lv_at hl 0 rfl) ?_
  refine lv_iconst (v := 1) hx hb dL_law_509 (by decide) ?_
  refine lv_iadd hx hb dL_law_510 ?_
  refine lv_topi (fun z_5 ez_5 => ?_)
  obtain rfl : z_5 = 1 := ez_5.trans (by decide)
  refine va_sld hx hb hX hbl hbA hS (vp_in_iff.mpr ⟨by decide, by decide⟩) dL_law_511 ?_
  refine lv_topi (fun z_6 ez_6 => ?_)
  obtain rfl : a1 = z_6 := ea1.trans ez_6.symm
  have hPc := hP.sub (ws' := [(m0, .inr (7, [.int 0, .ref m_width, .ref m_many, .ref m_cells, .ref m_moved, .ref m_tape, .int 0, .int 0, .int 0, .int 0, .int 0, .long 0, .int 0, .int 0, .int 0, .int (-1), .ref m_lines, .ref m_has, .ref m_state, .ref m_gate, .ref m_guest, .ref m_gone, .int 0, .ref m_isKept, .ref m_first, .ref m_second, .int 0, .ref m_far, .ref m_wished, .ref m_wasState, .ref m_isHere, .ref m_round, .ref m_bestRound, .int 0, .int 0, .long 0, .long 0, .ref m_taken, .int 0])), (m_lines, .inl (k_lines, 5, .inl (fun _ => 0))), (m_has, .inl (k_has, 45, .inl (fun _ => 0)))]) [0, 1, 2] rfl
  have hDc := hD.sub (ws' := [(m0, .inr (7, [.int 0, .ref m_width, .ref m_many, .ref m_cells, .ref m_moved, .ref m_tape, .int 0, .int 0, .int 0, .int 0, .int 0, .long 0, .int 0, .int 0, .int 0, .int (-1), .ref m_lines, .ref m_has, .ref m_state, .ref m_gate, .ref m_guest, .ref m_gone, .int 0, .ref m_isKept, .ref m_first, .ref m_second, .int 0, .ref m_far, .ref m_wished, .ref m_wasState, .ref m_isHere, .ref m_round, .ref m_bestRound, .int 0, .int 0, .long 0, .long 0, .ref m_taken, .int 0])), (m_lines, .inl (k_lines, 5, .inl (fun _ => 0))), (m_has, .inl (k_has, 45, .inl (fun _ => 0)))]) [0, 1, 2] (by decide) rfl
  have hKc := hK.sub (tys' := [(k_lines, .int), (k_has, .int)]) [0, 1] rfl
  have hFc := va_free (wc := [(m0, .inr (7, [.int 0, .ref m_width, .ref m_many, .ref m_cells, .ref m_moved, .ref m_tape, .int 0, .int 0, .int 0, .int 0, .int 0, .long 0, .int 0, .int 0, .int 0, .int (-1), .ref m_lines, .ref m_has, .ref m_state, .ref m_gate, .ref m_guest, .ref m_gone, .int 0, .ref m_isKept, .ref m_first, .ref m_second, .int 0, .ref m_far, .ref m_wished, .ref m_wasState, .ref m_isHere, .ref m_round, .ref m_bestRound, .int 0, .int 0, .long 0, .long 0, .ref m_taken, .int 0])), (m_lines, .inl (k_lines, 5, .inl (fun _ => 0))), (m_has, .inl (k_has, 45, .inl (fun _ => 0)))]) hD hS hA [0, 1, 2] rfl
  refine va_calli (va_runV (As := [.int a1]) (rest := [.int (-2)]) ⟨hx, hb, hml, hown, hts⟩ (c_X7_gate l dC dI H.size m0 m_width m_many m_cells m_moved m_tape m_lines m_has m_state m_gate m_guest m_gone m_isKept m_first m_second m_far m_wished m_wasState m_isHere m_round m_bestRound m_taken k_lines k_has a1 ) (cwV 1 hts g_law_X7_gate rfl rfl rfl (by decide +kernel) ⟨Nat.le_of_ble_eq_true rfl, Nat.le_of_ble_eq_true rfl⟩) ⟨fun a U g mk q => by obtain ⟨q0, q1, qP, qK, qD⟩ := q; exact ⟨q0, q1, qP, va_K.moved (u := U) (U := U.calling g mk a) (Vm.Alike.refl U.vm) qK, qD⟩, va_recv hKc hPc (ci := 7) (q0 := 0) rfl rfl, fun U hU hW => ⟨rfl, by rw [hU], by rw [hU]; exact hPc, va_K.moved hW.alike hKc, hDc.weaken (fun _ _ _ _ => trivial)⟩⟩ rfl rfl hl.1 rfl (lv_room (Nat.le_of_ble_eq_true rfl)) dL_law_512 ⟨Nat.le_of_ble_eq_true rfl, Nat.le_of_ble_eq_true rfl⟩) hS (fun q _ h => hFc q h) hFc (fun r_7 u t H1 locs ht hvm hw_8 hB hz1 hk1 hS => ?_)
  have hP1 : va_P (dC, dI) vwCl [] H1 := i_nilP
  have hD1 : va_D (va_A [(m0, .inr (7, [.int 0, .ref m_width, .ref m_many, .ref m_cells, .ref m_moved, .ref m_tape, .int 0, .int 0, .int 0, .int 0, .int 0, .long 0, .int 0, .int 0, .int 0, .int (-1), .ref m_lines, .ref m_has, .ref m_state, .ref m_gate, .ref m_guest, .ref m_gone, .int 0, .ref m_isKept, .ref m_first, .ref m_second, .int 0, .ref m_far, .ref m_wished, .ref m_wasState, .ref m_isHere, .ref m_round, .ref m_bestRound, .int 0, .int 0, .long 0, .long 0, .ref m_taken, .int 0])), (m_lines, .inl (k_lines, 5, .inl (fun _ => 0))), (m_has, .inl (k_has, 45, .inl (fun _ => 0)))] H.size) [] := i_nilD
  try dsimp only at hw_8
  obtain ⟨hP, hD⟩ := va_join (wr := []) (w1 := []) hP hD [0, 1, 2] [] rfl rfl (by decide) (by decide) hk1 hFc hP1 hD1
  generalize H1 = H at hP hS ⊢
  have hP : va_P (dC, dI) vwCl [] H := hP
  have hD : va_D A [] := hD
  obtain rfl : r_7 = -2 := hw_8
  refine lv_icmp_eq (tgt := 1569) hx hb dL_law_515 (by decide) (fun _ => ?_) (fun h => absurd (by decide) h)
  refine lv_iinc (v := 6) (lv' := [(3, .int 6), (2, .ref m0), (1, .ref x0), (0, .ref b)]) hx hb dL_law_1569 hl (k := 0) rfl (by decide) (by decide) rfl (fun ls hl => ?_)
  refine lv_goto (tgt := 18) hx hb dL_law_1572 (by decide) ?_
  exact law_exit C0 hA2 hS (lv_sub hl [0, 3] rfl) (by decide) (by omega) (by omega)

set_option maxHeartbeats 4000000 in
set_option maxRecDepth 100000 in
/-- the law, its call 10: within -/
theorem law_10 {p : Program} {e : Env} {s : State} {m : MethodId} {below : List Frame} {meth : Method} {c : Code} (l : Launch) {b : Nat} {xs : Nat → Int32} (C0 : lw_At p s m meth c b 6 xs) {A : Nat → Prop} (hA : ∀ q, s.heap.size ≤ q → A q) (hA2 : ∀ q, A q → s.heap.size ≤ q) {x0 : Nat} {tp : Nat} {rd : Nat} {gd : Nat} {im : Nat} {rw : Nat} {gn : Nat} {ho : Nat} {sq : Nat} {pl : Nat} {gdt : Nat} {gdu : Nat} {gdn : Nat} {plf : Nat} {plo : Nat} {plb : Nat} {pla : Nat} {m0 : Nat} {m_width : Nat} {m_many : Nat} {m_cells : Nat} {m_moved : Nat} {m_tape : Nat} {m_lines : Nat} {m_has : Nat} {m_state : Nat} {m_gate : Nat} {m_guest : Nat} {m_gone : Nat} {m_isKept : Nat} {m_first : Nat} {m_second : Nat} {m_far : Nat} {m_wished : Nat} {m_wasState : Nat} {m_isHere : Nat} {m_round : Nat} {m_bestRound : Nat} {m_taken : Nat} {k_lines : ClassId} {k_has : ClassId} (hE0 : Kx s) {dC : Nat → ClassId} {dI : Nat → Nat → Nat} (hK : va_K (dC, dI) vwCl [(k_lines, .int), (k_has, .int)] s) {H : Heap} {locs : List Loc} (hP : va_P (dC, dI) vwCl [(x0, .inr (6, [.ref tp, .int 0, .int 0, .int (-1), .ref rd, .ref gd, .ref im, .ref rw, .ref gn, .ref ho, .ref sq])), (gd, .inr (0, [.ref pl, .int 0, .long 0, .long 0, .int 0, .int (-1), .int 0, .ref gdt, .int 0, .ref gdu, .int 0, .ref gdn])), (pl, .inr (3, [.int 0, .int 0, .int 0, .int 0, .long 0, .ref plf, .ref plo, .ref plb, .ref pla])), (m0, .inr (7, [.int 0, .ref m_width, .ref m_many, .ref m_cells, .ref m_moved, .ref m_tape, .int 0, .int 0, .int 0, .int 0, .int 0, .long 0, .int 0, .int 0, .int 0, .int (-1), .ref m_lines, .ref m_has, .ref m_state, .ref m_gate, .ref m_guest, .ref m_gone, .int 0, .ref m_isKept, .ref m_first, .ref m_second, .int 0, .ref m_far, .ref m_wished, .ref m_wasState, .ref m_isHere, .ref m_round, .ref m_bestRound, .int 0, .int 0, .long 0, .long 0, .ref m_taken, .int 0])), (m_lines, .inl (k_lines, 5, .inl (fun _ => 0))), (m_has, .inl (k_has, 45, .inl (fun _ => 0)))] H) (hD : va_D A [(x0, .inr (6, [.ref tp, .int 0, .int 0, .int (-1), .ref rd, .ref gd, .ref im, .ref rw, .ref gn, .ref ho, .ref sq])), (gd, .inr (0, [.ref pl, .int 0, .long 0, .long 0, .int 0, .int (-1), .int 0, .ref gdt, .int 0, .ref gdu, .int 0, .ref gdn])), (pl, .inr (3, [.int 0, .int 0, .int 0, .int 0, .long 0, .ref plf, .ref plo, .ref plb, .ref pla])), (m0, .inr (7, [.int 0, .ref m_width, .ref m_many, .ref m_cells, .ref m_moved, .ref m_tape, .int 0, .int 0, .int 0, .int 0, .int 0, .long 0, .int 0, .int 0, .int 0, .int (-1), .ref m_lines, .ref m_has, .ref m_state, .ref m_gate, .ref m_guest, .ref m_gone, .int 0, .ref m_isKept, .ref m_first, .ref m_second, .int 0, .ref m_far, .ref m_wished, .ref m_wasState, .ref m_isHere, .ref m_round, .ref m_bestRound, .int 0, .int 0, .long 0, .long 0, .ref m_taken, .int 0])), (m_lines, .inl (k_lines, 5, .inl (fun _ => 0))), (m_has, .inl (k_has, 45, .inl (fun _ => 0)))]) (hS : va_S A s.heap H locs) {ls : Array Slot} (hl : lv_has ls 4 [(3, .int 0), (2, .ref m0), (1, .ref x0), (0, .ref b)]) : W p l e room_1 s m #[Value.ref b] below meth c H locs 70 7203 (lw_Z below #[Value.ref b] s) (F0 m 520 ls []) := by
  obtain ⟨hx, hb, hr, hml, hown, hts, hX, hbl, hlocks, hgv⟩ := id C0
  have hown : s.vm.findClass RL = some m.cls := hown
  have hts := fun w (h : w ∈ wz_law) => hts w (wz_law_in w h)
  have hbA : ¬ A b := fun h => absurd (hA2 b h) (Nat.not_le.mpr hbl)
  obtain ⟨a0, ea0⟩ : ∃ y : Int32, y = xs (0 : Int32).toNatClampNeg := ⟨_, rfl⟩
  obtain ⟨a1, ea1⟩ : ∃ y : Int32, y = xs (1 : Int32).toNatClampNeg := ⟨_, rfl⟩
  obtain ⟨a2, ea2⟩ : ∃ y : Int32, y = xs (2 : Int32).toNatClampNeg := ⟨_, rfl⟩
  obtain ⟨a3, ea3⟩ : ∃ y : Int32, y = xs (3 : Int32).toNatClampNeg := ⟨_, rfl⟩
  obtain ⟨a4, ea4⟩ : ∃ y : Int32, y = xs (4 : Int32).toNatClampNeg := ⟨_, rfl⟩
  obtain ⟨a5, ea5⟩ : ∃ y : Int32, y = xs (5 : Int32).toNatClampNeg := ⟨_, rfl⟩
  refine lv_aload_n hx hb dL_law_520 rfl (lv_at hl 2 rfl) ?_
  refine lv_aload_n hx hb dL_law_521 rfl (lv_at hl 3 rfl) ?_
  refine lv_iload_n hx hb dL_law_522 rfl (lv_at hl 0 rfl) ?_
  refine lv_iconst (v := 1) hx hb dL_law_523 (by decide) ?_
  refine lv_iadd hx hb dL_law_524 ?_
  refine lv_topi (fun z_1 ez_1 => ?_)
  obtain rfl : z_1 = 1 := ez_1.trans (by decide)
  refine va_sld hx hb hX hbl hbA hS (vp_in_iff.mpr ⟨by decide, by decide⟩) dL_law_525 ?_
  refine lv_topi (fun z_2 ez_2 => ?_)
  obtain rfl : a1 = z_2 := ea1.trans ez_2.symm
  refine lv_aload_n hx hb dL_law_526 rfl (lv_at hl 3 rfl) ?_
  refine lv_iload_n hx hb dL_law_527 rfl (lv_at hl 0 rfl) ?_
  refine lv_iconst (v := 2) hx hb dL_law_528 (by decide) ?_
  refine lv_iadd hx hb dL_law_529 ?_
  refine lv_topi (fun z_3 ez_3 => ?_)
  obtain rfl : z_3 = 2 := ez_3.trans (by decide)
  refine va_sld hx hb hX hbl hbA hS (vp_in_iff.mpr ⟨by decide, by decide⟩) dL_law_530 ?_
  refine lv_topi (fun z_4 ez_4 => ?_)
  obtain rfl : a2 = z_4 := ea2.trans ez_4.symm
  have hPc := hP.sub (ws' := [(x0, .inr (6, [.ref tp, .int 0, .int 0, .int (-1), .ref rd, .ref gd, .ref im, .ref rw, .ref gn, .ref ho, .ref sq])), (gd, .inr (0, [.ref pl, .int 0, .long 0, .long 0, .int 0, .int (-1), .int 0, .ref gdt, .int 0, .ref gdu, .int 0, .ref gdn])), (pl, .inr (3, [.int 0, .int 0, .int 0, .int 0, .long 0, .ref plf, .ref plo, .ref plb, .ref pla]))]) [0, 1, 2] rfl
  have hDc := hD.sub (ws' := [(x0, .inr (6, [.ref tp, .int 0, .int 0, .int (-1), .ref rd, .ref gd, .ref im, .ref rw, .ref gn, .ref ho, .ref sq])), (gd, .inr (0, [.ref pl, .int 0, .long 0, .long 0, .int 0, .int (-1), .int 0, .ref gdt, .int 0, .ref gdu, .int 0, .ref gdn])), (pl, .inr (3, [.int 0, .int 0, .int 0, .int 0, .long 0, .ref plf, .ref plo, .ref plb, .ref pla]))]) [0, 1, 2] (by decide) rfl
  have hKc := hK.sub (tys' := []) [] rfl
  have hFc := va_free (wc := [(x0, .inr (6, [.ref tp, .int 0, .int 0, .int (-1), .ref rd, .ref gd, .ref im, .ref rw, .ref gn, .ref ho, .ref sq])), (gd, .inr (0, [.ref pl, .int 0, .long 0, .long 0, .int 0, .int (-1), .int 0, .ref gdt, .int 0, .ref gdu, .int 0, .ref gdn])), (pl, .inr (3, [.int 0, .int 0, .int 0, .int 0, .long 0, .ref plf, .ref plo, .ref plb, .ref pla]))]) hD hS hA [0, 1, 2] rfl
  refine va_calli (va_runV (As := [.int a1, .int a2]) (rest := []) ⟨hx, hb, hml, hown, hts⟩ (c_X6_within l dC dI H.size x0 tp rd gd im rw gn ho sq pl gdt gdu gdn plf plo plb pla a1 a2 ) (cwV 2 hts g_law_X6_within rfl rfl rfl (by decide +kernel) ⟨Nat.le_of_ble_eq_true rfl, Nat.le_of_ble_eq_true rfl⟩) ⟨fun a U g mk q => by obtain ⟨q0, q1, qP, qK, qD⟩ := q; exact ⟨q0, q1, qP, va_K.moved (u := U) (U := U.calling g mk a) (Vm.Alike.refl U.vm) qK, qD⟩, va_recv hKc hPc (ci := 6) (q0 := 0) rfl rfl, fun U hU hW => ⟨rfl, by rw [hU], by rw [hU]; exact hPc, va_K.moved hW.alike hKc, hDc.weaken (fun _ _ _ _ => trivial)⟩⟩ rfl rfl hl.1 rfl (lv_room (Nat.le_of_ble_eq_true rfl)) dL_law_531 ⟨Nat.le_of_ble_eq_true rfl, Nat.le_of_ble_eq_true rfl⟩) hS (fun q _ h => hFc q h) hFc (fun r_5 u t H1 locs ht hvm hw_6 hB hz1 hk1 hS => ?_)
  have hP1 : va_P (dC, dI) vwCl [] H1 := i_nilP
  have hD1 : va_D (va_A [(x0, .inr (6, [.ref tp, .int 0, .int 0, .int (-1), .ref rd, .ref gd, .ref im, .ref rw, .ref gn, .ref ho, .ref sq])), (gd, .inr (0, [.ref pl, .int 0, .long 0, .long 0, .int 0, .int (-1), .int 0, .ref gdt, .int 0, .ref gdu, .int 0, .ref gdn])), (pl, .inr (3, [.int 0, .int 0, .int 0, .int 0, .long 0, .ref plf, .ref plo, .ref plb, .ref pla]))] H.size) [] := i_nilD
  try dsimp only at hw_6
  obtain ⟨hP, hD⟩ := va_join (wr := [(m0, .inr (7, [.int 0, .ref m_width, .ref m_many, .ref m_cells, .ref m_moved, .ref m_tape, .int 0, .int 0, .int 0, .int 0, .int 0, .long 0, .int 0, .int 0, .int 0, .int (-1), .ref m_lines, .ref m_has, .ref m_state, .ref m_gate, .ref m_guest, .ref m_gone, .int 0, .ref m_isKept, .ref m_first, .ref m_second, .int 0, .ref m_far, .ref m_wished, .ref m_wasState, .ref m_isHere, .ref m_round, .ref m_bestRound, .int 0, .int 0, .long 0, .long 0, .ref m_taken, .int 0])), (m_lines, .inl (k_lines, 5, .inl (fun _ => 0))), (m_has, .inl (k_has, 45, .inl (fun _ => 0)))]) (w1 := []) hP hD [0, 1, 2] [3, 4, 5] rfl rfl (by decide) (by decide) hk1 hFc hP1 hD1
  generalize H1 = H at hP hS ⊢
  have hP : va_P (dC, dI) vwCl [(m0, .inr (7, [.int 0, .ref m_width, .ref m_many, .ref m_cells, .ref m_moved, .ref m_tape, .int 0, .int 0, .int 0, .int 0, .int 0, .long 0, .int 0, .int 0, .int 0, .int (-1), .ref m_lines, .ref m_has, .ref m_state, .ref m_gate, .ref m_guest, .ref m_gone, .int 0, .ref m_isKept, .ref m_first, .ref m_second, .int 0, .ref m_far, .ref m_wished, .ref m_wasState, .ref m_isHere, .ref m_round, .ref m_bestRound, .int 0, .int 0, .long 0, .long 0, .ref m_taken, .int 0])), (m_lines, .inl (k_lines, 5, .inl (fun _ => 0))), (m_has, .inl (k_has, 45, .inl (fun _ => 0)))] H := hP
  have hD : va_D A [(m0, .inr (7, [.int 0, .ref m_width, .ref m_many, .ref m_cells, .ref m_moved, .ref m_tape, .int 0, .int 0, .int 0, .int 0, .int 0, .long 0, .int 0, .int 0, .int 0, .int (-1), .ref m_lines, .ref m_has, .ref m_state, .ref m_gate, .ref m_guest, .ref m_gone, .int 0, .ref m_isKept, .ref m_first, .ref m_second, .int 0, .ref m_far, .ref m_wished, .ref m_wasState, .ref m_isHere, .ref m_round, .ref m_bestRound, .int 0, .int 0, .long 0, .long 0, .ref m_taken, .int 0])), (m_lines, .inl (k_lines, 5, .inl (fun _ => 0))), (m_has, .inl (k_has, 45, .inl (fun _ => 0)))] := hD
  obtain rfl : r_5 = -2 := hw_6
  refine lv_aload_n hx hb dL_law_534 rfl (lv_at hl 1 rfl) ?_
  refine lv_aload_n hx hb dL_law_535 rfl (lv_at hl 3 rfl) ?_
  refine lv_iload_n hx hb dL_law_536 rfl (lv_at hl 0 rfl) ?_
  refine lv_iconst (v := 1) hx hb dL_law_537 (by decide) ?_
  refine lv_iadd hx hb dL_law_538 ?_
  refine lv_topi (fun z_7 ez_7 => ?_)
  obtain rfl : z_7 = 1 := ez_7.trans (by decide)
  refine va_sld hx hb hX hbl hbA hS (vp_in_iff.mpr ⟨by decide, by decide⟩) dL_law_539 ?_
  refine lv_topi (fun z_8 ez_8 => ?_)
  obtain rfl : a1 = z_8 := ea1.trans ez_8.symm
  refine lv_aload_n hx hb dL_law_540 rfl (lv_at hl 3 rfl) ?_
  refine lv_iload_n hx hb dL_law_541 rfl (lv_at hl 0 rfl) ?_
  refine lv_iconst (v := 2) hx hb dL_law_542 (by decide) ?_
  refine lv_iadd hx hb dL_law_543 ?_
  refine lv_topi (fun z_9 ez_9 => ?_)
  obtain rfl : z_9 = 2 := ez_9.trans (by decide)
  refine va_sld hx hb hX hbl hbA hS (vp_in_iff.mpr ⟨by decide, by decide⟩) dL_law_544 ?_
  refine lv_topi (fun z_10 ez_10 => ?_)
  obtain rfl : a2 = z_10 := ea2.trans ez_10.symm
  have hPc := hP.sub (ws' := [(m0, .inr (7, [.int 0, .ref m_width, .ref m_many, .ref m_cells, .ref m_moved, .ref m_tape, .int 0, .int 0, .int 0, .int 0, .int 0, .long 0, .int 0, .int 0, .int 0, .int (-1), .ref m_lines, .ref m_has, .ref m_state, .ref m_gate, .ref m_guest, .ref m_gone, .int 0, .ref m_isKept, .ref m_first, .ref m_second, .int 0, .ref m_far, .ref m_wished, .ref m_wasState, .ref m_isHere, .ref m_round, .ref m_bestRound, .int 0, .int 0, .long 0, .long 0, .ref m_taken, .int 0])), (m_lines, .inl (k_lines, 5, .inl (fun _ => 0))), (m_has, .inl (k_has, 45, .inl (fun _ => 0)))]) [0, 1, 2] rfl
  have hDc := hD.sub (ws' := [(m0, .inr (7, [.int 0, .ref m_width, .ref m_many, .ref m_cells, .ref m_moved, .ref m_tape, .int 0, .int 0, .int 0, .int 0, .int 0, .long 0, .int 0, .int 0, .int 0, .int (-1), .ref m_lines, .ref m_has, .ref m_state, .ref m_gate, .ref m_guest, .ref m_gone, .int 0, .ref m_isKept, .ref m_first, .ref m_second, .int 0, .ref m_far, .ref m_wished, .ref m_wasState, .ref m_isHere, .ref m_round, .ref m_bestRound, .int 0, .int 0, .long 0, .long 0, .ref m_taken, .int 0])), (m_lines, .inl (k_lines, 5, .inl (fun _ => 0))), (m_has, .inl (k_has, 45, .inl (fun _ => 0)))]) [0, 1, 2] (by decide) rfl
  have hKc := hK.sub (tys' := [(k_lines, .int), (k_has, .int)]) [0, 1] rfl
  have hFc := va_free (wc := [(m0, .inr (7, [.int 0, .ref m_width, .ref m_many, .ref m_cells, .ref m_moved, .ref m_tape, .int 0, .int 0, .int 0, .int 0, .int 0, .long 0, .int 0, .int 0, .int 0, .int (-1), .ref m_lines, .ref m_has, .ref m_state, .ref m_gate, .ref m_guest, .ref m_gone, .int 0, .ref m_isKept, .ref m_first, .ref m_second, .int 0, .ref m_far, .ref m_wished, .ref m_wasState, .ref m_isHere, .ref m_round, .ref m_bestRound, .int 0, .int 0, .long 0, .long 0, .ref m_taken, .int 0])), (m_lines, .inl (k_lines, 5, .inl (fun _ => 0))), (m_has, .inl (k_has, 45, .inl (fun _ => 0)))]) hD hS hA [0, 1, 2] rfl
  refine va_calli (va_runV (As := [.int a1, .int a2]) (rest := [.int (-2)]) ⟨hx, hb, hml, hown, hts⟩ (c_X7_within l dC dI H.size m0 m_width m_many m_cells m_moved m_tape m_lines m_has m_state m_gate m_guest m_gone m_isKept m_first m_second m_far m_wished m_wasState m_isHere m_round m_bestRound m_taken k_lines k_has a1 a2 ) (cwV 2 hts g_law_X7_within rfl rfl rfl (by decide +kernel) ⟨Nat.le_of_ble_eq_true rfl, Nat.le_of_ble_eq_true rfl⟩) ⟨fun a U g mk q => by obtain ⟨q0, q1, qP, qK, qD⟩ := q; exact ⟨q0, q1, qP, va_K.moved (u := U) (U := U.calling g mk a) (Vm.Alike.refl U.vm) qK, qD⟩, va_recv hKc hPc (ci := 7) (q0 := 0) rfl rfl, fun U hU hW => ⟨rfl, by rw [hU], by rw [hU]; exact hPc, va_K.moved hW.alike hKc, hDc.weaken (fun _ _ _ _ => trivial)⟩⟩ rfl rfl hl.1 rfl (lv_room (Nat.le_of_ble_eq_true rfl)) dL_law_545 ⟨Nat.le_of_ble_eq_true rfl, Nat.le_of_ble_eq_true rfl⟩) hS (fun q _ h => hFc q h) hFc (fun r_11 u t H1 locs ht hvm hw_12 hB hz1 hk1 hS => ?_)
  have hP1 : va_P (dC, dI) vwCl [] H1 := i_nilP
  have hD1 : va_D (va_A [(m0, .inr (7, [.int 0, .ref m_width, .ref m_many, .ref m_cells, .ref m_moved, .ref m_tape, .int 0, .int 0, .int 0, .int 0, .int 0, .long 0, .int 0, .int 0, .int 0, .int (-1), .ref m_lines, .ref m_has, .ref m_state, .ref m_gate, .ref m_guest, .ref m_gone, .int 0, .ref m_isKept, .ref m_first, .ref m_second, .int 0, .ref m_far, .ref m_wished, .ref m_wasState, .ref m_isHere, .ref m_round, .ref m_bestRound, .int 0, .int 0, .long 0, .long 0, .ref m_taken, .int 0])), (m_lines, .inl (k_lines, 5, .inl (fun _ => 0))), (m_has, .inl (k_has, 45, .inl (fun _ => 0)))] H.size) [] := i_nilD
  try dsimp only at hw_12
  obtain ⟨hP, hD⟩ := va_join (wr := []) (w1 := []) hP hD [0, 1, 2] [] rfl rfl (by decide) (by decide) hk1 hFc hP1 hD1
  generalize H1 = H at hP hS ⊢
  have hP : va_P (dC, dI) vwCl [] H := hP
  have hD : va_D A [] := hD
  obtain rfl : r_11 = -2 := hw_12
  refine lv_icmp_eq (tgt := 1569) hx hb dL_law_548 (by decide) (fun _ => ?_) (fun h => absurd (by decide) h)
  refine lv_iinc (v := 6) (lv' := [(3, .int 6), (2, .ref m0), (1, .ref x0), (0, .ref b)]) hx hb dL_law_1569 hl (k := 0) rfl (by decide) (by decide) rfl (fun ls hl => ?_)
  refine lv_goto (tgt := 18) hx hb dL_law_1572 (by decide) ?_
  exact law_exit C0 hA2 hS (lv_sub hl [0, 3] rfl) (by decide) (by omega) (by omega)

set_option maxHeartbeats 4000000 in
set_option maxRecDepth 100000 in
/-- the law, its call 11: shape -/
theorem law_11 {p : Program} {e : Env} {s : State} {m : MethodId} {below : List Frame} {meth : Method} {c : Code} (l : Launch) {b : Nat} {xs : Nat → Int32} (C0 : lw_At p s m meth c b 6 xs) {A : Nat → Prop} (hA : ∀ q, s.heap.size ≤ q → A q) (hA2 : ∀ q, A q → s.heap.size ≤ q) {x0 : Nat} {tp : Nat} {rd : Nat} {gd : Nat} {im : Nat} {rw : Nat} {gn : Nat} {ho : Nat} {sq : Nat} {pl : Nat} {gdt : Nat} {gdu : Nat} {gdn : Nat} {plf : Nat} {plo : Nat} {plb : Nat} {pla : Nat} {m0 : Nat} {m_width : Nat} {m_many : Nat} {m_cells : Nat} {m_moved : Nat} {m_tape : Nat} {m_lines : Nat} {m_has : Nat} {m_state : Nat} {m_gate : Nat} {m_guest : Nat} {m_gone : Nat} {m_isKept : Nat} {m_first : Nat} {m_second : Nat} {m_far : Nat} {m_wished : Nat} {m_wasState : Nat} {m_isHere : Nat} {m_round : Nat} {m_bestRound : Nat} {m_taken : Nat} {k_lines : ClassId} {k_has : ClassId} (hE0 : Kx s) {dC : Nat → ClassId} {dI : Nat → Nat → Nat} (hK : va_K (dC, dI) vwCl [(k_lines, .int), (k_has, .int)] s) {H : Heap} {locs : List Loc} (hP : va_P (dC, dI) vwCl [(x0, .inr (6, [.ref tp, .int 0, .int 0, .int (-1), .ref rd, .ref gd, .ref im, .ref rw, .ref gn, .ref ho, .ref sq])), (gd, .inr (0, [.ref pl, .int 0, .long 0, .long 0, .int 0, .int (-1), .int 0, .ref gdt, .int 0, .ref gdu, .int 0, .ref gdn])), (pl, .inr (3, [.int 0, .int 0, .int 0, .int 0, .long 0, .ref plf, .ref plo, .ref plb, .ref pla])), (m0, .inr (7, [.int 0, .ref m_width, .ref m_many, .ref m_cells, .ref m_moved, .ref m_tape, .int 0, .int 0, .int 0, .int 0, .int 0, .long 0, .int 0, .int 0, .int 0, .int (-1), .ref m_lines, .ref m_has, .ref m_state, .ref m_gate, .ref m_guest, .ref m_gone, .int 0, .ref m_isKept, .ref m_first, .ref m_second, .int 0, .ref m_far, .ref m_wished, .ref m_wasState, .ref m_isHere, .ref m_round, .ref m_bestRound, .int 0, .int 0, .long 0, .long 0, .ref m_taken, .int 0])), (m_lines, .inl (k_lines, 5, .inl (fun _ => 0))), (m_has, .inl (k_has, 45, .inl (fun _ => 0)))] H) (hD : va_D A [(x0, .inr (6, [.ref tp, .int 0, .int 0, .int (-1), .ref rd, .ref gd, .ref im, .ref rw, .ref gn, .ref ho, .ref sq])), (gd, .inr (0, [.ref pl, .int 0, .long 0, .long 0, .int 0, .int (-1), .int 0, .ref gdt, .int 0, .ref gdu, .int 0, .ref gdn])), (pl, .inr (3, [.int 0, .int 0, .int 0, .int 0, .long 0, .ref plf, .ref plo, .ref plb, .ref pla])), (m0, .inr (7, [.int 0, .ref m_width, .ref m_many, .ref m_cells, .ref m_moved, .ref m_tape, .int 0, .int 0, .int 0, .int 0, .int 0, .long 0, .int 0, .int 0, .int 0, .int (-1), .ref m_lines, .ref m_has, .ref m_state, .ref m_gate, .ref m_guest, .ref m_gone, .int 0, .ref m_isKept, .ref m_first, .ref m_second, .int 0, .ref m_far, .ref m_wished, .ref m_wasState, .ref m_isHere, .ref m_round, .ref m_bestRound, .int 0, .int 0, .long 0, .long 0, .ref m_taken, .int 0])), (m_lines, .inl (k_lines, 5, .inl (fun _ => 0))), (m_has, .inl (k_has, 45, .inl (fun _ => 0)))]) (hS : va_S A s.heap H locs) {ls : Array Slot} (hl : lv_has ls 4 [(3, .int 0), (2, .ref m0), (1, .ref x0), (0, .ref b)]) : W p l e room_1 s m #[Value.ref b] below meth c H locs 70 7203 (lw_Z below #[Value.ref b] s) (F0 m 553 ls []) := by
  obtain ⟨hx, hb, hr, hml, hown, hts, hX, hbl, hlocks, hgv⟩ := id C0
  have hown : s.vm.findClass RL = some m.cls := hown
  have hts := fun w (h : w ∈ wz_law) => hts w (wz_law_in w h)
  have hbA : ¬ A b := fun h => absurd (hA2 b h) (Nat.not_le.mpr hbl)
  obtain ⟨a0, ea0⟩ : ∃ y : Int32, y = xs (0 : Int32).toNatClampNeg := ⟨_, rfl⟩
  obtain ⟨a1, ea1⟩ : ∃ y : Int32, y = xs (1 : Int32).toNatClampNeg := ⟨_, rfl⟩
  obtain ⟨a2, ea2⟩ : ∃ y : Int32, y = xs (2 : Int32).toNatClampNeg := ⟨_, rfl⟩
  obtain ⟨a3, ea3⟩ : ∃ y : Int32, y = xs (3 : Int32).toNatClampNeg := ⟨_, rfl⟩
  obtain ⟨a4, ea4⟩ : ∃ y : Int32, y = xs (4 : Int32).toNatClampNeg := ⟨_, rfl⟩
  obtain ⟨a5, ea5⟩ : ∃ y : Int32, y = xs (5 : Int32).toNatClampNeg := ⟨_, rfl⟩
  refine lv_aload_n hx hb dL_law_553 rfl (lv_at hl 2 rfl) ?_
  refine lv_aload_n hx hb dL_law_554 rfl (lv_at hl 3 rfl) ?_
  refine lv_iload_n hx hb dL_law_555 rfl (lv_at hl 0 rfl) ?_
  refine lv_iconst (v := 1) hx hb dL_law_556 (by decide) ?_
  refine lv_iadd hx hb dL_law_557 ?_
  refine lv_topi (fun z_1 ez_1 => ?_)
  obtain rfl : z_1 = 1 := ez_1.trans (by decide)
  refine va_sld hx hb hX hbl hbA hS (vp_in_iff.mpr ⟨by decide, by decide⟩) dL_law_558 ?_
  refine lv_topi (fun z_2 ez_2 => ?_)
  obtain rfl : a1 = z_2 := ea1.trans ez_2.symm
  have hPc := hP.sub (ws' := [(x0, .inr (6, [.ref tp, .int 0, .int 0, .int (-1), .ref rd, .ref gd, .ref im, .ref rw, .ref gn, .ref ho, .ref sq])), (gd, .inr (0, [.ref pl, .int 0, .long 0, .long 0, .int 0, .int (-1), .int 0, .ref gdt, .int 0, .ref gdu, .int 0, .ref gdn])), (pl, .inr (3, [.int 0, .int 0, .int 0, .int 0, .long 0, .ref plf, .ref plo, .ref plb, .ref pla]))]) [0, 1, 2] rfl
  have hDc := hD.sub (ws' := [(x0, .inr (6, [.ref tp, .int 0, .int 0, .int (-1), .ref rd, .ref gd, .ref im, .ref rw, .ref gn, .ref ho, .ref sq])), (gd, .inr (0, [.ref pl, .int 0, .long 0, .long 0, .int 0, .int (-1), .int 0, .ref gdt, .int 0, .ref gdu, .int 0, .ref gdn])), (pl, .inr (3, [.int 0, .int 0, .int 0, .int 0, .long 0, .ref plf, .ref plo, .ref plb, .ref pla]))]) [0, 1, 2] (by decide) rfl
  have hKc := hK.sub (tys' := []) [] rfl
  have hFc := va_free (wc := [(x0, .inr (6, [.ref tp, .int 0, .int 0, .int (-1), .ref rd, .ref gd, .ref im, .ref rw, .ref gn, .ref ho, .ref sq])), (gd, .inr (0, [.ref pl, .int 0, .long 0, .long 0, .int 0, .int (-1), .int 0, .ref gdt, .int 0, .ref gdu, .int 0, .ref gdn])), (pl, .inr (3, [.int 0, .int 0, .int 0, .int 0, .long 0, .ref plf, .ref plo, .ref plb, .ref pla]))]) hD hS hA [0, 1, 2] rfl
  refine va_calli (va_runV (As := [.int a1]) (rest := []) ⟨hx, hb, hml, hown, hts⟩ (c_X6_shape l dC dI H.size x0 tp rd gd im rw gn ho sq pl gdt gdu gdn plf plo plb pla a1 ) (cwV 1 hts g_law_X6_shape rfl rfl rfl (by decide +kernel) ⟨Nat.le_of_ble_eq_true rfl, Nat.le_of_ble_eq_true rfl⟩) ⟨fun a U g mk q => by obtain ⟨q0, q1, qP, qK, qD⟩ := q; exact ⟨q0, q1, qP, va_K.moved (u := U) (U := U.calling g mk a) (Vm.Alike.refl U.vm) qK, qD⟩, va_recv hKc hPc (ci := 6) (q0 := 0) rfl rfl, fun U hU hW => ⟨rfl, by rw [hU], by rw [hU]; exact hPc, va_K.moved hW.alike hKc, hDc.weaken (fun _ _ _ _ => trivial)⟩⟩ rfl rfl hl.1 rfl (lv_room (Nat.le_of_ble_eq_true rfl)) dL_law_559 ⟨Nat.le_of_ble_eq_true rfl, Nat.le_of_ble_eq_true rfl⟩) hS (fun q _ h => hFc q h) hFc (fun r_3 u t H1 locs ht hvm hw_4 hB hz1 hk1 hS => ?_)
  have hP1 : va_P (dC, dI) vwCl [] H1 := i_nilP
  have hD1 : va_D (va_A [(x0, .inr (6, [.ref tp, .int 0, .int 0, .int (-1), .ref rd, .ref gd, .ref im, .ref rw, .ref gn, .ref ho, .ref sq])), (gd, .inr (0, [.ref pl, .int 0, .long 0, .long 0, .int 0, .int (-1), .int 0, .ref gdt, .int 0, .ref gdu, .int 0, .ref gdn])), (pl, .inr (3, [.int 0, .int 0, .int 0, .int 0, .long 0, .ref plf, .ref plo, .ref plb, .ref pla]))] H.size) [] := i_nilD
  try dsimp only at hw_4
  obtain ⟨hP, hD⟩ := va_join (wr := [(m0, .inr (7, [.int 0, .ref m_width, .ref m_many, .ref m_cells, .ref m_moved, .ref m_tape, .int 0, .int 0, .int 0, .int 0, .int 0, .long 0, .int 0, .int 0, .int 0, .int (-1), .ref m_lines, .ref m_has, .ref m_state, .ref m_gate, .ref m_guest, .ref m_gone, .int 0, .ref m_isKept, .ref m_first, .ref m_second, .int 0, .ref m_far, .ref m_wished, .ref m_wasState, .ref m_isHere, .ref m_round, .ref m_bestRound, .int 0, .int 0, .long 0, .long 0, .ref m_taken, .int 0])), (m_lines, .inl (k_lines, 5, .inl (fun _ => 0))), (m_has, .inl (k_has, 45, .inl (fun _ => 0)))]) (w1 := []) hP hD [0, 1, 2] [3, 4, 5] rfl rfl (by decide) (by decide) hk1 hFc hP1 hD1
  generalize H1 = H at hP hS ⊢
  have hP : va_P (dC, dI) vwCl [(m0, .inr (7, [.int 0, .ref m_width, .ref m_many, .ref m_cells, .ref m_moved, .ref m_tape, .int 0, .int 0, .int 0, .int 0, .int 0, .long 0, .int 0, .int 0, .int 0, .int (-1), .ref m_lines, .ref m_has, .ref m_state, .ref m_gate, .ref m_guest, .ref m_gone, .int 0, .ref m_isKept, .ref m_first, .ref m_second, .int 0, .ref m_far, .ref m_wished, .ref m_wasState, .ref m_isHere, .ref m_round, .ref m_bestRound, .int 0, .int 0, .long 0, .long 0, .ref m_taken, .int 0])), (m_lines, .inl (k_lines, 5, .inl (fun _ => 0))), (m_has, .inl (k_has, 45, .inl (fun _ => 0)))] H := hP
  have hD : va_D A [(m0, .inr (7, [.int 0, .ref m_width, .ref m_many, .ref m_cells, .ref m_moved, .ref m_tape, .int 0, .int 0, .int 0, .int 0, .int 0, .long 0, .int 0, .int 0, .int 0, .int (-1), .ref m_lines, .ref m_has, .ref m_state, .ref m_gate, .ref m_guest, .ref m_gone, .int 0, .ref m_isKept, .ref m_first, .ref m_second, .int 0, .ref m_far, .ref m_wished, .ref m_wasState, .ref m_isHere, .ref m_round, .ref m_bestRound, .int 0, .int 0, .long 0, .long 0, .ref m_taken, .int 0])), (m_lines, .inl (k_lines, 5, .inl (fun _ => 0))), (m_has, .inl (k_has, 45, .inl (fun _ => 0)))] := hD
  obtain rfl : r_3 = -2 := hw_4
  refine lv_aload_n hx hb dL_law_562 rfl (lv_at hl 1 rfl) ?_
  refine lv_aload_n hx hb dL_law_563 rfl (lv_at hl 3 rfl) ?_
  refine lv_iload_n hx hb dL_law_564 rfl (lv_at hl 0 rfl) ?_
  refine lv_iconst (v := 1) hx hb dL_law_565 (by decide) ?_
  refine lv_iadd hx hb dL_law_566 ?_
  refine lv_topi (fun z_5 ez_5 => ?_)
  obtain rfl : z_5 = 1 := ez_5.trans (by decide)
  refine va_sld hx hb hX hbl hbA hS (vp_in_iff.mpr ⟨by decide, by decide⟩) dL_law_567 ?_
  refine lv_topi (fun z_6 ez_6 => ?_)
  obtain rfl : a1 = z_6 := ea1.trans ez_6.symm
  have hPc := hP.sub (ws' := [(m0, .inr (7, [.int 0, .ref m_width, .ref m_many, .ref m_cells, .ref m_moved, .ref m_tape, .int 0, .int 0, .int 0, .int 0, .int 0, .long 0, .int 0, .int 0, .int 0, .int (-1), .ref m_lines, .ref m_has, .ref m_state, .ref m_gate, .ref m_guest, .ref m_gone, .int 0, .ref m_isKept, .ref m_first, .ref m_second, .int 0, .ref m_far, .ref m_wished, .ref m_wasState, .ref m_isHere, .ref m_round, .ref m_bestRound, .int 0, .int 0, .long 0, .long 0, .ref m_taken, .int 0])), (m_lines, .inl (k_lines, 5, .inl (fun _ => 0))), (m_has, .inl (k_has, 45, .inl (fun _ => 0)))]) [0, 1, 2] rfl
  have hDc := hD.sub (ws' := [(m0, .inr (7, [.int 0, .ref m_width, .ref m_many, .ref m_cells, .ref m_moved, .ref m_tape, .int 0, .int 0, .int 0, .int 0, .int 0, .long 0, .int 0, .int 0, .int 0, .int (-1), .ref m_lines, .ref m_has, .ref m_state, .ref m_gate, .ref m_guest, .ref m_gone, .int 0, .ref m_isKept, .ref m_first, .ref m_second, .int 0, .ref m_far, .ref m_wished, .ref m_wasState, .ref m_isHere, .ref m_round, .ref m_bestRound, .int 0, .int 0, .long 0, .long 0, .ref m_taken, .int 0])), (m_lines, .inl (k_lines, 5, .inl (fun _ => 0))), (m_has, .inl (k_has, 45, .inl (fun _ => 0)))]) [0, 1, 2] (by decide) rfl
  have hKc := hK.sub (tys' := [(k_lines, .int), (k_has, .int)]) [0, 1] rfl
  have hFc := va_free (wc := [(m0, .inr (7, [.int 0, .ref m_width, .ref m_many, .ref m_cells, .ref m_moved, .ref m_tape, .int 0, .int 0, .int 0, .int 0, .int 0, .long 0, .int 0, .int 0, .int 0, .int (-1), .ref m_lines, .ref m_has, .ref m_state, .ref m_gate, .ref m_guest, .ref m_gone, .int 0, .ref m_isKept, .ref m_first, .ref m_second, .int 0, .ref m_far, .ref m_wished, .ref m_wasState, .ref m_isHere, .ref m_round, .ref m_bestRound, .int 0, .int 0, .long 0, .long 0, .ref m_taken, .int 0])), (m_lines, .inl (k_lines, 5, .inl (fun _ => 0))), (m_has, .inl (k_has, 45, .inl (fun _ => 0)))]) hD hS hA [0, 1, 2] rfl
  refine va_calli (va_runV (As := [.int a1]) (rest := [.int (-2)]) ⟨hx, hb, hml, hown, hts⟩ (c_X7_shape l dC dI H.size m0 m_width m_many m_cells m_moved m_tape m_lines m_has m_state m_gate m_guest m_gone m_isKept m_first m_second m_far m_wished m_wasState m_isHere m_round m_bestRound m_taken k_lines k_has a1 ) (cwV 1 hts g_law_X7_shape rfl rfl rfl (by decide +kernel) ⟨Nat.le_of_ble_eq_true rfl, Nat.le_of_ble_eq_true rfl⟩) ⟨fun a U g mk q => by obtain ⟨q0, q1, qP, qK, qD⟩ := q; exact ⟨q0, q1, qP, va_K.moved (u := U) (U := U.calling g mk a) (Vm.Alike.refl U.vm) qK, qD⟩, va_recv hKc hPc (ci := 7) (q0 := 0) rfl rfl, fun U hU hW => ⟨rfl, by rw [hU], by rw [hU]; exact hPc, va_K.moved hW.alike hKc, hDc.weaken (fun _ _ _ _ => trivial)⟩⟩ rfl rfl hl.1 rfl (lv_room (Nat.le_of_ble_eq_true rfl)) dL_law_568 ⟨Nat.le_of_ble_eq_true rfl, Nat.le_of_ble_eq_true rfl⟩) hS (fun q _ h => hFc q h) hFc (fun r_7 u t H1 locs ht hvm hw_8 hB hz1 hk1 hS => ?_)
  have hP1 : va_P (dC, dI) vwCl [] H1 := i_nilP
  have hD1 : va_D (va_A [(m0, .inr (7, [.int 0, .ref m_width, .ref m_many, .ref m_cells, .ref m_moved, .ref m_tape, .int 0, .int 0, .int 0, .int 0, .int 0, .long 0, .int 0, .int 0, .int 0, .int (-1), .ref m_lines, .ref m_has, .ref m_state, .ref m_gate, .ref m_guest, .ref m_gone, .int 0, .ref m_isKept, .ref m_first, .ref m_second, .int 0, .ref m_far, .ref m_wished, .ref m_wasState, .ref m_isHere, .ref m_round, .ref m_bestRound, .int 0, .int 0, .long 0, .long 0, .ref m_taken, .int 0])), (m_lines, .inl (k_lines, 5, .inl (fun _ => 0))), (m_has, .inl (k_has, 45, .inl (fun _ => 0)))] H.size) [] := i_nilD
  try dsimp only at hw_8
  obtain ⟨hP, hD⟩ := va_join (wr := []) (w1 := []) hP hD [0, 1, 2] [] rfl rfl (by decide) (by decide) hk1 hFc hP1 hD1
  generalize H1 = H at hP hS ⊢
  have hP : va_P (dC, dI) vwCl [] H := hP
  have hD : va_D A [] := hD
  obtain rfl : r_7 = -2 := hw_8
  refine lv_icmp_eq (tgt := 1569) hx hb dL_law_571 (by decide) (fun _ => ?_) (fun h => absurd (by decide) h)
  refine lv_iinc (v := 6) (lv' := [(3, .int 6), (2, .ref m0), (1, .ref x0), (0, .ref b)]) hx hb dL_law_1569 hl (k := 0) rfl (by decide) (by decide) rfl (fun ls hl => ?_)
  refine lv_goto (tgt := 18) hx hb dL_law_1572 (by decide) ?_
  exact law_exit C0 hA2 hS (lv_sub hl [0, 3] rfl) (by decide) (by omega) (by omega)

set_option maxHeartbeats 4000000 in
set_option maxRecDepth 100000 in
/-- the law, its call 12: bridge -/
theorem law_12 {p : Program} {e : Env} {s : State} {m : MethodId} {below : List Frame} {meth : Method} {c : Code} (l : Launch) {b : Nat} {xs : Nat → Int32} (C0 : lw_At p s m meth c b 6 xs) {A : Nat → Prop} (hA : ∀ q, s.heap.size ≤ q → A q) (hA2 : ∀ q, A q → s.heap.size ≤ q) {x0 : Nat} {tp : Nat} {rd : Nat} {gd : Nat} {im : Nat} {rw : Nat} {gn : Nat} {ho : Nat} {sq : Nat} {pl : Nat} {gdt : Nat} {gdu : Nat} {gdn : Nat} {plf : Nat} {plo : Nat} {plb : Nat} {pla : Nat} {m0 : Nat} {m_width : Nat} {m_many : Nat} {m_cells : Nat} {m_moved : Nat} {m_tape : Nat} {m_lines : Nat} {m_has : Nat} {m_state : Nat} {m_gate : Nat} {m_guest : Nat} {m_gone : Nat} {m_isKept : Nat} {m_first : Nat} {m_second : Nat} {m_far : Nat} {m_wished : Nat} {m_wasState : Nat} {m_isHere : Nat} {m_round : Nat} {m_bestRound : Nat} {m_taken : Nat} {k_lines : ClassId} {k_has : ClassId} (hE0 : Kx s) {dC : Nat → ClassId} {dI : Nat → Nat → Nat} (hK : va_K (dC, dI) vwCl [(k_lines, .int), (k_has, .int)] s) {H : Heap} {locs : List Loc} (hP : va_P (dC, dI) vwCl [(x0, .inr (6, [.ref tp, .int 0, .int 0, .int (-1), .ref rd, .ref gd, .ref im, .ref rw, .ref gn, .ref ho, .ref sq])), (gd, .inr (0, [.ref pl, .int 0, .long 0, .long 0, .int 0, .int (-1), .int 0, .ref gdt, .int 0, .ref gdu, .int 0, .ref gdn])), (pl, .inr (3, [.int 0, .int 0, .int 0, .int 0, .long 0, .ref plf, .ref plo, .ref plb, .ref pla])), (m0, .inr (7, [.int 0, .ref m_width, .ref m_many, .ref m_cells, .ref m_moved, .ref m_tape, .int 0, .int 0, .int 0, .int 0, .int 0, .long 0, .int 0, .int 0, .int 0, .int (-1), .ref m_lines, .ref m_has, .ref m_state, .ref m_gate, .ref m_guest, .ref m_gone, .int 0, .ref m_isKept, .ref m_first, .ref m_second, .int 0, .ref m_far, .ref m_wished, .ref m_wasState, .ref m_isHere, .ref m_round, .ref m_bestRound, .int 0, .int 0, .long 0, .long 0, .ref m_taken, .int 0])), (m_lines, .inl (k_lines, 5, .inl (fun _ => 0))), (m_has, .inl (k_has, 45, .inl (fun _ => 0)))] H) (hD : va_D A [(x0, .inr (6, [.ref tp, .int 0, .int 0, .int (-1), .ref rd, .ref gd, .ref im, .ref rw, .ref gn, .ref ho, .ref sq])), (gd, .inr (0, [.ref pl, .int 0, .long 0, .long 0, .int 0, .int (-1), .int 0, .ref gdt, .int 0, .ref gdu, .int 0, .ref gdn])), (pl, .inr (3, [.int 0, .int 0, .int 0, .int 0, .long 0, .ref plf, .ref plo, .ref plb, .ref pla])), (m0, .inr (7, [.int 0, .ref m_width, .ref m_many, .ref m_cells, .ref m_moved, .ref m_tape, .int 0, .int 0, .int 0, .int 0, .int 0, .long 0, .int 0, .int 0, .int 0, .int (-1), .ref m_lines, .ref m_has, .ref m_state, .ref m_gate, .ref m_guest, .ref m_gone, .int 0, .ref m_isKept, .ref m_first, .ref m_second, .int 0, .ref m_far, .ref m_wished, .ref m_wasState, .ref m_isHere, .ref m_round, .ref m_bestRound, .int 0, .int 0, .long 0, .long 0, .ref m_taken, .int 0])), (m_lines, .inl (k_lines, 5, .inl (fun _ => 0))), (m_has, .inl (k_has, 45, .inl (fun _ => 0)))]) (hS : va_S A s.heap H locs) {ls : Array Slot} (hl : lv_has ls 4 [(3, .int 0), (2, .ref m0), (1, .ref x0), (0, .ref b)]) : W p l e room_1 s m #[Value.ref b] below meth c H locs 70 7203 (lw_Z below #[Value.ref b] s) (F0 m 576 ls []) := by
  obtain ⟨hx, hb, hr, hml, hown, hts, hX, hbl, hlocks, hgv⟩ := id C0
  have hown : s.vm.findClass RL = some m.cls := hown
  have hts := fun w (h : w ∈ wz_law) => hts w (wz_law_in w h)
  have hbA : ¬ A b := fun h => absurd (hA2 b h) (Nat.not_le.mpr hbl)
  obtain ⟨a0, ea0⟩ : ∃ y : Int32, y = xs (0 : Int32).toNatClampNeg := ⟨_, rfl⟩
  obtain ⟨a1, ea1⟩ : ∃ y : Int32, y = xs (1 : Int32).toNatClampNeg := ⟨_, rfl⟩
  obtain ⟨a2, ea2⟩ : ∃ y : Int32, y = xs (2 : Int32).toNatClampNeg := ⟨_, rfl⟩
  obtain ⟨a3, ea3⟩ : ∃ y : Int32, y = xs (3 : Int32).toNatClampNeg := ⟨_, rfl⟩
  obtain ⟨a4, ea4⟩ : ∃ y : Int32, y = xs (4 : Int32).toNatClampNeg := ⟨_, rfl⟩
  obtain ⟨a5, ea5⟩ : ∃ y : Int32, y = xs (5 : Int32).toNatClampNeg := ⟨_, rfl⟩
  refine lv_aload_n hx hb dL_law_576 rfl (lv_at hl 2 rfl) ?_
  refine lv_aload_n hx hb dL_law_577 rfl (lv_at hl 3 rfl) ?_
  refine lv_iload_n hx hb dL_law_578 rfl (lv_at hl 0 rfl) ?_
  refine lv_iconst (v := 1) hx hb dL_law_579 (by decide) ?_
  refine lv_iadd hx hb dL_law_580 ?_
  refine lv_topi (fun z_1 ez_1 => ?_)
  obtain rfl : z_1 = 1 := ez_1.trans (by decide)
  refine va_sld hx hb hX hbl hbA hS (vp_in_iff.mpr ⟨by decide, by decide⟩) dL_law_581 ?_
  refine lv_topi (fun z_2 ez_2 => ?_)
  obtain rfl : a1 = z_2 := ea1.trans ez_2.symm
  have hPc := hP.sub (ws' := [(x0, .inr (6, [.ref tp, .int 0, .int 0, .int (-1), .ref rd, .ref gd, .ref im, .ref rw, .ref gn, .ref ho, .ref sq])), (gd, .inr (0, [.ref pl, .int 0, .long 0, .long 0, .int 0, .int (-1), .int 0, .ref gdt, .int 0, .ref gdu, .int 0, .ref gdn])), (pl, .inr (3, [.int 0, .int 0, .int 0, .int 0, .long 0, .ref plf, .ref plo, .ref plb, .ref pla]))]) [0, 1, 2] rfl
  have hDc := hD.sub (ws' := [(x0, .inr (6, [.ref tp, .int 0, .int 0, .int (-1), .ref rd, .ref gd, .ref im, .ref rw, .ref gn, .ref ho, .ref sq])), (gd, .inr (0, [.ref pl, .int 0, .long 0, .long 0, .int 0, .int (-1), .int 0, .ref gdt, .int 0, .ref gdu, .int 0, .ref gdn])), (pl, .inr (3, [.int 0, .int 0, .int 0, .int 0, .long 0, .ref plf, .ref plo, .ref plb, .ref pla]))]) [0, 1, 2] (by decide) rfl
  have hKc := hK.sub (tys' := []) [] rfl
  have hFc := va_free (wc := [(x0, .inr (6, [.ref tp, .int 0, .int 0, .int (-1), .ref rd, .ref gd, .ref im, .ref rw, .ref gn, .ref ho, .ref sq])), (gd, .inr (0, [.ref pl, .int 0, .long 0, .long 0, .int 0, .int (-1), .int 0, .ref gdt, .int 0, .ref gdu, .int 0, .ref gdn])), (pl, .inr (3, [.int 0, .int 0, .int 0, .int 0, .long 0, .ref plf, .ref plo, .ref plb, .ref pla]))]) hD hS hA [0, 1, 2] rfl
  refine va_calli (va_runV (As := [.int a1]) (rest := []) ⟨hx, hb, hml, hown, hts⟩ (c_X6_bridge l dC dI H.size x0 tp rd gd im rw gn ho sq pl gdt gdu gdn plf plo plb pla a1 ) (cwV 1 hts g_law_X6_bridge rfl rfl rfl (by decide +kernel) ⟨Nat.le_of_ble_eq_true rfl, Nat.le_of_ble_eq_true rfl⟩) ⟨fun a U g mk q => by obtain ⟨q0, q1, qP, qK, qD⟩ := q; exact ⟨q0, q1, qP, va_K.moved (u := U) (U := U.calling g mk a) (Vm.Alike.refl U.vm) qK, qD⟩, va_recv hKc hPc (ci := 6) (q0 := 0) rfl rfl, fun U hU hW => ⟨rfl, by rw [hU], by rw [hU]; exact hPc, va_K.moved hW.alike hKc, hDc.weaken (fun _ _ _ _ => trivial)⟩⟩ rfl rfl hl.1 rfl (lv_room (Nat.le_of_ble_eq_true rfl)) dL_law_582 ⟨Nat.le_of_ble_eq_true rfl, Nat.le_of_ble_eq_true rfl⟩) hS (fun q _ h => hFc q h) hFc (fun r_3 u t H1 locs ht hvm hw_4 hB hz1 hk1 hS => ?_)
  have hP1 : va_P (dC, dI) vwCl [] H1 := i_nilP
  have hD1 : va_D (va_A [(x0, .inr (6, [.ref tp, .int 0, .int 0, .int (-1), .ref rd, .ref gd, .ref im, .ref rw, .ref gn, .ref ho, .ref sq])), (gd, .inr (0, [.ref pl, .int 0, .long 0, .long 0, .int 0, .int (-1), .int 0, .ref gdt, .int 0, .ref gdu, .int 0, .ref gdn])), (pl, .inr (3, [.int 0, .int 0, .int 0, .int 0, .long 0, .ref plf, .ref plo, .ref plb, .ref pla]))] H.size) [] := i_nilD
  try dsimp only at hw_4
  obtain ⟨hP, hD⟩ := va_join (wr := [(m0, .inr (7, [.int 0, .ref m_width, .ref m_many, .ref m_cells, .ref m_moved, .ref m_tape, .int 0, .int 0, .int 0, .int 0, .int 0, .long 0, .int 0, .int 0, .int 0, .int (-1), .ref m_lines, .ref m_has, .ref m_state, .ref m_gate, .ref m_guest, .ref m_gone, .int 0, .ref m_isKept, .ref m_first, .ref m_second, .int 0, .ref m_far, .ref m_wished, .ref m_wasState, .ref m_isHere, .ref m_round, .ref m_bestRound, .int 0, .int 0, .long 0, .long 0, .ref m_taken, .int 0])), (m_lines, .inl (k_lines, 5, .inl (fun _ => 0))), (m_has, .inl (k_has, 45, .inl (fun _ => 0)))]) (w1 := []) hP hD [0, 1, 2] [3, 4, 5] rfl rfl (by decide) (by decide) hk1 hFc hP1 hD1
  generalize H1 = H at hP hS ⊢
  have hP : va_P (dC, dI) vwCl [(m0, .inr (7, [.int 0, .ref m_width, .ref m_many, .ref m_cells, .ref m_moved, .ref m_tape, .int 0, .int 0, .int 0, .int 0, .int 0, .long 0, .int 0, .int 0, .int 0, .int (-1), .ref m_lines, .ref m_has, .ref m_state, .ref m_gate, .ref m_guest, .ref m_gone, .int 0, .ref m_isKept, .ref m_first, .ref m_second, .int 0, .ref m_far, .ref m_wished, .ref m_wasState, .ref m_isHere, .ref m_round, .ref m_bestRound, .int 0, .int 0, .long 0, .long 0, .ref m_taken, .int 0])), (m_lines, .inl (k_lines, 5, .inl (fun _ => 0))), (m_has, .inl (k_has, 45, .inl (fun _ => 0)))] H := hP
  have hD : va_D A [(m0, .inr (7, [.int 0, .ref m_width, .ref m_many, .ref m_cells, .ref m_moved, .ref m_tape, .int 0, .int 0, .int 0, .int 0, .int 0, .long 0, .int 0, .int 0, .int 0, .int (-1), .ref m_lines, .ref m_has, .ref m_state, .ref m_gate, .ref m_guest, .ref m_gone, .int 0, .ref m_isKept, .ref m_first, .ref m_second, .int 0, .ref m_far, .ref m_wished, .ref m_wasState, .ref m_isHere, .ref m_round, .ref m_bestRound, .int 0, .int 0, .long 0, .long 0, .ref m_taken, .int 0])), (m_lines, .inl (k_lines, 5, .inl (fun _ => 0))), (m_has, .inl (k_has, 45, .inl (fun _ => 0)))] := hD
  obtain rfl : r_3 = -2 := hw_4
  refine lv_aload_n hx hb dL_law_585 rfl (lv_at hl 1 rfl) ?_
  refine lv_aload_n hx hb dL_law_586 rfl (lv_at hl 3 rfl) ?_
  refine lv_iload_n hx hb dL_law_587 rfl (lv_at hl 0 rfl) ?_
  refine lv_iconst (v := 1) hx hb dL_law_588 (by decide) ?_
  refine lv_iadd hx hb dL_law_589 ?_
  refine lv_topi (fun z_5 ez_5 => ?_)
  obtain rfl : z_5 = 1 := ez_5.trans (by decide)
  refine va_sld hx hb hX hbl hbA hS (vp_in_iff.mpr ⟨by decide, by decide⟩) dL_law_590 ?_
  refine lv_topi (fun z_6 ez_6 => ?_)
  obtain rfl : a1 = z_6 := ea1.trans ez_6.symm
  have hPc := hP.sub (ws' := [(m0, .inr (7, [.int 0, .ref m_width, .ref m_many, .ref m_cells, .ref m_moved, .ref m_tape, .int 0, .int 0, .int 0, .int 0, .int 0, .long 0, .int 0, .int 0, .int 0, .int (-1), .ref m_lines, .ref m_has, .ref m_state, .ref m_gate, .ref m_guest, .ref m_gone, .int 0, .ref m_isKept, .ref m_first, .ref m_second, .int 0, .ref m_far, .ref m_wished, .ref m_wasState, .ref m_isHere, .ref m_round, .ref m_bestRound, .int 0, .int 0, .long 0, .long 0, .ref m_taken, .int 0])), (m_lines, .inl (k_lines, 5, .inl (fun _ => 0))), (m_has, .inl (k_has, 45, .inl (fun _ => 0)))]) [0, 1, 2] rfl
  have hDc := hD.sub (ws' := [(m0, .inr (7, [.int 0, .ref m_width, .ref m_many, .ref m_cells, .ref m_moved, .ref m_tape, .int 0, .int 0, .int 0, .int 0, .int 0, .long 0, .int 0, .int 0, .int 0, .int (-1), .ref m_lines, .ref m_has, .ref m_state, .ref m_gate, .ref m_guest, .ref m_gone, .int 0, .ref m_isKept, .ref m_first, .ref m_second, .int 0, .ref m_far, .ref m_wished, .ref m_wasState, .ref m_isHere, .ref m_round, .ref m_bestRound, .int 0, .int 0, .long 0, .long 0, .ref m_taken, .int 0])), (m_lines, .inl (k_lines, 5, .inl (fun _ => 0))), (m_has, .inl (k_has, 45, .inl (fun _ => 0)))]) [0, 1, 2] (by decide) rfl
  have hKc := hK.sub (tys' := [(k_lines, .int), (k_has, .int)]) [0, 1] rfl
  have hFc := va_free (wc := [(m0, .inr (7, [.int 0, .ref m_width, .ref m_many, .ref m_cells, .ref m_moved, .ref m_tape, .int 0, .int 0, .int 0, .int 0, .int 0, .long 0, .int 0, .int 0, .int 0, .int (-1), .ref m_lines, .ref m_has, .ref m_state, .ref m_gate, .ref m_guest, .ref m_gone, .int 0, .ref m_isKept, .ref m_first, .ref m_second, .int 0, .ref m_far, .ref m_wished, .ref m_wasState, .ref m_isHere, .ref m_round, .ref m_bestRound, .int 0, .int 0, .long 0, .long 0, .ref m_taken, .int 0])), (m_lines, .inl (k_lines, 5, .inl (fun _ => 0))), (m_has, .inl (k_has, 45, .inl (fun _ => 0)))]) hD hS hA [0, 1, 2] rfl
  refine va_calli (va_runV (As := [.int a1]) (rest := [.int (-2)]) ⟨hx, hb, hml, hown, hts⟩ (c_X7_bridge l dC dI H.size m0 m_width m_many m_cells m_moved m_tape m_lines m_has m_state m_gate m_guest m_gone m_isKept m_first m_second m_far m_wished m_wasState m_isHere m_round m_bestRound m_taken k_lines k_has a1 ) (cwV 1 hts g_law_X7_bridge rfl rfl rfl (by decide +kernel) ⟨Nat.le_of_ble_eq_true rfl, Nat.le_of_ble_eq_true rfl⟩) ⟨fun a U g mk q => by obtain ⟨q0, q1, qP, qK, qD⟩ := q; exact ⟨q0, q1, qP, va_K.moved (u := U) (U := U.calling g mk a) (Vm.Alike.refl U.vm) qK, qD⟩, va_recv hKc hPc (ci := 7) (q0 := 0) rfl rfl, fun U hU hW => ⟨rfl, by rw [hU], by rw [hU]; exact hPc, va_K.moved hW.alike hKc, hDc.weaken (fun _ _ _ _ => trivial)⟩⟩ rfl rfl hl.1 rfl (lv_room (Nat.le_of_ble_eq_true rfl)) dL_law_591 ⟨Nat.le_of_ble_eq_true rfl, Nat.le_of_ble_eq_true rfl⟩) hS (fun q _ h => hFc q h) hFc (fun r_7 u t H1 locs ht hvm hw_8 hB hz1 hk1 hS => ?_)
  have hP1 : va_P (dC, dI) vwCl [] H1 := i_nilP
  have hD1 : va_D (va_A [(m0, .inr (7, [.int 0, .ref m_width, .ref m_many, .ref m_cells, .ref m_moved, .ref m_tape, .int 0, .int 0, .int 0, .int 0, .int 0, .long 0, .int 0, .int 0, .int 0, .int (-1), .ref m_lines, .ref m_has, .ref m_state, .ref m_gate, .ref m_guest, .ref m_gone, .int 0, .ref m_isKept, .ref m_first, .ref m_second, .int 0, .ref m_far, .ref m_wished, .ref m_wasState, .ref m_isHere, .ref m_round, .ref m_bestRound, .int 0, .int 0, .long 0, .long 0, .ref m_taken, .int 0])), (m_lines, .inl (k_lines, 5, .inl (fun _ => 0))), (m_has, .inl (k_has, 45, .inl (fun _ => 0)))] H.size) [] := i_nilD
  try dsimp only at hw_8
  obtain ⟨hP, hD⟩ := va_join (wr := []) (w1 := []) hP hD [0, 1, 2] [] rfl rfl (by decide) (by decide) hk1 hFc hP1 hD1
  generalize H1 = H at hP hS ⊢
  have hP : va_P (dC, dI) vwCl [] H := hP
  have hD : va_D A [] := hD
  obtain rfl : r_7 = -2 := hw_8
  refine lv_icmp_eq (tgt := 1569) hx hb dL_law_594 (by decide) (fun _ => ?_) (fun h => absurd (by decide) h)
  refine lv_iinc (v := 6) (lv' := [(3, .int 6), (2, .ref m0), (1, .ref x0), (0, .ref b)]) hx hb dL_law_1569 hl (k := 0) rfl (by decide) (by decide) rfl (fun ls hl => ?_)
  refine lv_goto (tgt := 18) hx hb dL_law_1572 (by decide) ?_
  exact law_exit C0 hA2 hS (lv_sub hl [0, 3] rfl) (by decide) (by omega) (by omega)

set_option maxHeartbeats 4000000 in
set_option maxRecDepth 100000 in
/-- the law, its call 13: lawful -/
theorem law_13 {p : Program} {e : Env} {s : State} {m : MethodId} {below : List Frame} {meth : Method} {c : Code} (l : Launch) {b : Nat} {xs : Nat → Int32} (C0 : lw_At p s m meth c b 6 xs) {A : Nat → Prop} (hA : ∀ q, s.heap.size ≤ q → A q) (hA2 : ∀ q, A q → s.heap.size ≤ q) {x0 : Nat} {tp : Nat} {rd : Nat} {gd : Nat} {im : Nat} {rw : Nat} {gn : Nat} {ho : Nat} {sq : Nat} {pl : Nat} {gdt : Nat} {gdu : Nat} {gdn : Nat} {plf : Nat} {plo : Nat} {plb : Nat} {pla : Nat} {m0 : Nat} {m_width : Nat} {m_many : Nat} {m_cells : Nat} {m_moved : Nat} {m_tape : Nat} {m_lines : Nat} {m_has : Nat} {m_state : Nat} {m_gate : Nat} {m_guest : Nat} {m_gone : Nat} {m_isKept : Nat} {m_first : Nat} {m_second : Nat} {m_far : Nat} {m_wished : Nat} {m_wasState : Nat} {m_isHere : Nat} {m_round : Nat} {m_bestRound : Nat} {m_taken : Nat} {k_lines : ClassId} {k_has : ClassId} (hE0 : Kx s) {dC : Nat → ClassId} {dI : Nat → Nat → Nat} (hK : va_K (dC, dI) vwCl [(k_lines, .int), (k_has, .int)] s) {H : Heap} {locs : List Loc} (hP : va_P (dC, dI) vwCl [(x0, .inr (6, [.ref tp, .int 0, .int 0, .int (-1), .ref rd, .ref gd, .ref im, .ref rw, .ref gn, .ref ho, .ref sq])), (gd, .inr (0, [.ref pl, .int 0, .long 0, .long 0, .int 0, .int (-1), .int 0, .ref gdt, .int 0, .ref gdu, .int 0, .ref gdn])), (pl, .inr (3, [.int 0, .int 0, .int 0, .int 0, .long 0, .ref plf, .ref plo, .ref plb, .ref pla])), (m0, .inr (7, [.int 0, .ref m_width, .ref m_many, .ref m_cells, .ref m_moved, .ref m_tape, .int 0, .int 0, .int 0, .int 0, .int 0, .long 0, .int 0, .int 0, .int 0, .int (-1), .ref m_lines, .ref m_has, .ref m_state, .ref m_gate, .ref m_guest, .ref m_gone, .int 0, .ref m_isKept, .ref m_first, .ref m_second, .int 0, .ref m_far, .ref m_wished, .ref m_wasState, .ref m_isHere, .ref m_round, .ref m_bestRound, .int 0, .int 0, .long 0, .long 0, .ref m_taken, .int 0])), (m_lines, .inl (k_lines, 5, .inl (fun _ => 0))), (m_has, .inl (k_has, 45, .inl (fun _ => 0)))] H) (hD : va_D A [(x0, .inr (6, [.ref tp, .int 0, .int 0, .int (-1), .ref rd, .ref gd, .ref im, .ref rw, .ref gn, .ref ho, .ref sq])), (gd, .inr (0, [.ref pl, .int 0, .long 0, .long 0, .int 0, .int (-1), .int 0, .ref gdt, .int 0, .ref gdu, .int 0, .ref gdn])), (pl, .inr (3, [.int 0, .int 0, .int 0, .int 0, .long 0, .ref plf, .ref plo, .ref plb, .ref pla])), (m0, .inr (7, [.int 0, .ref m_width, .ref m_many, .ref m_cells, .ref m_moved, .ref m_tape, .int 0, .int 0, .int 0, .int 0, .int 0, .long 0, .int 0, .int 0, .int 0, .int (-1), .ref m_lines, .ref m_has, .ref m_state, .ref m_gate, .ref m_guest, .ref m_gone, .int 0, .ref m_isKept, .ref m_first, .ref m_second, .int 0, .ref m_far, .ref m_wished, .ref m_wasState, .ref m_isHere, .ref m_round, .ref m_bestRound, .int 0, .int 0, .long 0, .long 0, .ref m_taken, .int 0])), (m_lines, .inl (k_lines, 5, .inl (fun _ => 0))), (m_has, .inl (k_has, 45, .inl (fun _ => 0)))]) (hS : va_S A s.heap H locs) {ls : Array Slot} (hl : lv_has ls 4 [(3, .int 0), (2, .ref m0), (1, .ref x0), (0, .ref b)]) : W p l e room_1 s m #[Value.ref b] below meth c H locs 70 7203 (lw_Z below #[Value.ref b] s) (F0 m 599 ls []) := by
  obtain ⟨hx, hb, hr, hml, hown, hts, hX, hbl, hlocks, hgv⟩ := id C0
  have hown : s.vm.findClass RL = some m.cls := hown
  have hts := fun w (h : w ∈ wz_law) => hts w (wz_law_in w h)
  have hbA : ¬ A b := fun h => absurd (hA2 b h) (Nat.not_le.mpr hbl)
  obtain ⟨a0, ea0⟩ : ∃ y : Int32, y = xs (0 : Int32).toNatClampNeg := ⟨_, rfl⟩
  obtain ⟨a1, ea1⟩ : ∃ y : Int32, y = xs (1 : Int32).toNatClampNeg := ⟨_, rfl⟩
  obtain ⟨a2, ea2⟩ : ∃ y : Int32, y = xs (2 : Int32).toNatClampNeg := ⟨_, rfl⟩
  obtain ⟨a3, ea3⟩ : ∃ y : Int32, y = xs (3 : Int32).toNatClampNeg := ⟨_, rfl⟩
  obtain ⟨a4, ea4⟩ : ∃ y : Int32, y = xs (4 : Int32).toNatClampNeg := ⟨_, rfl⟩
  obtain ⟨a5, ea5⟩ : ∃ y : Int32, y = xs (5 : Int32).toNatClampNeg := ⟨_, rfl⟩
  refine lv_aload_n hx hb dL_law_599 rfl (lv_at hl 2 rfl) ?_
  refine lv_aload_n hx hb dL_law_600 rfl (lv_at hl 3 rfl) ?_
  refine lv_iload_n hx hb dL_law_601 rfl (lv_at hl 0 rfl) ?_
  refine lv_iconst (v := 1) hx hb dL_law_602 (by decide) ?_
  refine lv_iadd hx hb dL_law_603 ?_
  refine lv_topi (fun z_1 ez_1 => ?_)
  obtain rfl : z_1 = 1 := ez_1.trans (by decide)
  refine va_sld hx hb hX hbl hbA hS (vp_in_iff.mpr ⟨by decide, by decide⟩) dL_law_604 ?_
  refine lv_topi (fun z_2 ez_2 => ?_)
  obtain rfl : a1 = z_2 := ea1.trans ez_2.symm
  refine lv_aload_n hx hb dL_law_605 rfl (lv_at hl 3 rfl) ?_
  refine lv_iload_n hx hb dL_law_606 rfl (lv_at hl 0 rfl) ?_
  refine lv_iconst (v := 2) hx hb dL_law_607 (by decide) ?_
  refine lv_iadd hx hb dL_law_608 ?_
  refine lv_topi (fun z_3 ez_3 => ?_)
  obtain rfl : z_3 = 2 := ez_3.trans (by decide)
  refine va_sld hx hb hX hbl hbA hS (vp_in_iff.mpr ⟨by decide, by decide⟩) dL_law_609 ?_
  refine lv_topi (fun z_4 ez_4 => ?_)
  obtain rfl : a2 = z_4 := ea2.trans ez_4.symm
  have hPc := hP.sub (ws' := [(x0, .inr (6, [.ref tp, .int 0, .int 0, .int (-1), .ref rd, .ref gd, .ref im, .ref rw, .ref gn, .ref ho, .ref sq])), (gd, .inr (0, [.ref pl, .int 0, .long 0, .long 0, .int 0, .int (-1), .int 0, .ref gdt, .int 0, .ref gdu, .int 0, .ref gdn])), (pl, .inr (3, [.int 0, .int 0, .int 0, .int 0, .long 0, .ref plf, .ref plo, .ref plb, .ref pla]))]) [0, 1, 2] rfl
  have hDc := hD.sub (ws' := [(x0, .inr (6, [.ref tp, .int 0, .int 0, .int (-1), .ref rd, .ref gd, .ref im, .ref rw, .ref gn, .ref ho, .ref sq])), (gd, .inr (0, [.ref pl, .int 0, .long 0, .long 0, .int 0, .int (-1), .int 0, .ref gdt, .int 0, .ref gdu, .int 0, .ref gdn])), (pl, .inr (3, [.int 0, .int 0, .int 0, .int 0, .long 0, .ref plf, .ref plo, .ref plb, .ref pla]))]) [0, 1, 2] (by decide) rfl
  have hKc := hK.sub (tys' := []) [] rfl
  have hFc := va_free (wc := [(x0, .inr (6, [.ref tp, .int 0, .int 0, .int (-1), .ref rd, .ref gd, .ref im, .ref rw, .ref gn, .ref ho, .ref sq])), (gd, .inr (0, [.ref pl, .int 0, .long 0, .long 0, .int 0, .int (-1), .int 0, .ref gdt, .int 0, .ref gdu, .int 0, .ref gdn])), (pl, .inr (3, [.int 0, .int 0, .int 0, .int 0, .long 0, .ref plf, .ref plo, .ref plb, .ref pla]))]) hD hS hA [0, 1, 2] rfl
  refine va_calli (va_runV (As := [.int a1, .int a2]) (rest := []) ⟨hx, hb, hml, hown, hts⟩ (c_X6_lawful l dC dI H.size x0 tp rd gd im rw gn ho sq pl gdt gdu gdn plf plo plb pla a1 a2 ) (cwV 2 hts g_law_X6_lawful rfl rfl rfl (by decide +kernel) ⟨Nat.le_of_ble_eq_true rfl, Nat.le_of_ble_eq_true rfl⟩) ⟨fun a U g mk q => by obtain ⟨q0, q1, qP, qK, qD⟩ := q; exact ⟨q0, q1, qP, va_K.moved (u := U) (U := U.calling g mk a) (Vm.Alike.refl U.vm) qK, qD⟩, va_recv hKc hPc (ci := 6) (q0 := 0) rfl rfl, fun U hU hW => ⟨rfl, by rw [hU], by rw [hU]; exact hPc, va_K.moved hW.alike hKc, hDc.weaken (fun _ _ _ _ => trivial)⟩⟩ rfl rfl hl.1 rfl (lv_room (Nat.le_of_ble_eq_true rfl)) dL_law_610 ⟨Nat.le_of_ble_eq_true rfl, Nat.le_of_ble_eq_true rfl⟩) hS (fun q _ h => hFc q h) hFc (fun r_5 u t H1 locs ht hvm hw_6 hB hz1 hk1 hS => ?_)
  have hP1 : va_P (dC, dI) vwCl [] H1 := i_nilP
  have hD1 : va_D (va_A [(x0, .inr (6, [.ref tp, .int 0, .int 0, .int (-1), .ref rd, .ref gd, .ref im, .ref rw, .ref gn, .ref ho, .ref sq])), (gd, .inr (0, [.ref pl, .int 0, .long 0, .long 0, .int 0, .int (-1), .int 0, .ref gdt, .int 0, .ref gdu, .int 0, .ref gdn])), (pl, .inr (3, [.int 0, .int 0, .int 0, .int 0, .long 0, .ref plf, .ref plo, .ref plb, .ref pla]))] H.size) [] := i_nilD
  try dsimp only at hw_6
  obtain ⟨hP, hD⟩ := va_join (wr := [(m0, .inr (7, [.int 0, .ref m_width, .ref m_many, .ref m_cells, .ref m_moved, .ref m_tape, .int 0, .int 0, .int 0, .int 0, .int 0, .long 0, .int 0, .int 0, .int 0, .int (-1), .ref m_lines, .ref m_has, .ref m_state, .ref m_gate, .ref m_guest, .ref m_gone, .int 0, .ref m_isKept, .ref m_first, .ref m_second, .int 0, .ref m_far, .ref m_wished, .ref m_wasState, .ref m_isHere, .ref m_round, .ref m_bestRound, .int 0, .int 0, .long 0, .long 0, .ref m_taken, .int 0])), (m_lines, .inl (k_lines, 5, .inl (fun _ => 0))), (m_has, .inl (k_has, 45, .inl (fun _ => 0)))]) (w1 := []) hP hD [0, 1, 2] [3, 4, 5] rfl rfl (by decide) (by decide) hk1 hFc hP1 hD1
  generalize H1 = H at hP hS ⊢
  have hP : va_P (dC, dI) vwCl [(m0, .inr (7, [.int 0, .ref m_width, .ref m_many, .ref m_cells, .ref m_moved, .ref m_tape, .int 0, .int 0, .int 0, .int 0, .int 0, .long 0, .int 0, .int 0, .int 0, .int (-1), .ref m_lines, .ref m_has, .ref m_state, .ref m_gate, .ref m_guest, .ref m_gone, .int 0, .ref m_isKept, .ref m_first, .ref m_second, .int 0, .ref m_far, .ref m_wished, .ref m_wasState, .ref m_isHere, .ref m_round, .ref m_bestRound, .int 0, .int 0, .long 0, .long 0, .ref m_taken, .int 0])), (m_lines, .inl (k_lines, 5, .inl (fun _ => 0))), (m_has, .inl (k_has, 45, .inl (fun _ => 0)))] H := hP
  have hD : va_D A [(m0, .inr (7, [.int 0, .ref m_width, .ref m_many, .ref m_cells, .ref m_moved, .ref m_tape, .int 0, .int 0, .int 0, .int 0, .int 0, .long 0, .int 0, .int 0, .int 0, .int (-1), .ref m_lines, .ref m_has, .ref m_state, .ref m_gate, .ref m_guest, .ref m_gone, .int 0, .ref m_isKept, .ref m_first, .ref m_second, .int 0, .ref m_far, .ref m_wished, .ref m_wasState, .ref m_isHere, .ref m_round, .ref m_bestRound, .int 0, .int 0, .long 0, .long 0, .ref m_taken, .int 0])), (m_lines, .inl (k_lines, 5, .inl (fun _ => 0))), (m_has, .inl (k_has, 45, .inl (fun _ => 0)))] := hD
  obtain rfl : r_5 = -2 := hw_6
  refine lv_aload_n hx hb dL_law_613 rfl (lv_at hl 1 rfl) ?_
  refine lv_aload_n hx hb dL_law_614 rfl (lv_at hl 3 rfl) ?_
  refine lv_iload_n hx hb dL_law_615 rfl (lv_at hl 0 rfl) ?_
  refine lv_iconst (v := 1) hx hb dL_law_616 (by decide) ?_
  refine lv_iadd hx hb dL_law_617 ?_
  refine lv_topi (fun z_7 ez_7 => ?_)
  obtain rfl : z_7 = 1 := ez_7.trans (by decide)
  refine va_sld hx hb hX hbl hbA hS (vp_in_iff.mpr ⟨by decide, by decide⟩) dL_law_618 ?_
  refine lv_topi (fun z_8 ez_8 => ?_)
  obtain rfl : a1 = z_8 := ea1.trans ez_8.symm
  refine lv_aload_n hx hb dL_law_619 rfl (lv_at hl 3 rfl) ?_
  refine lv_iload_n hx hb dL_law_620 rfl (lv_at hl 0 rfl) ?_
  refine lv_iconst (v := 2) hx hb dL_law_621 (by decide) ?_
  refine lv_iadd hx hb dL_law_622 ?_
  refine lv_topi (fun z_9 ez_9 => ?_)
  obtain rfl : z_9 = 2 := ez_9.trans (by decide)
  refine va_sld hx hb hX hbl hbA hS (vp_in_iff.mpr ⟨by decide, by decide⟩) dL_law_623 ?_
  refine lv_topi (fun z_10 ez_10 => ?_)
  obtain rfl : a2 = z_10 := ea2.trans ez_10.symm
  have hPc := hP.sub (ws' := [(m0, .inr (7, [.int 0, .ref m_width, .ref m_many, .ref m_cells, .ref m_moved, .ref m_tape, .int 0, .int 0, .int 0, .int 0, .int 0, .long 0, .int 0, .int 0, .int 0, .int (-1), .ref m_lines, .ref m_has, .ref m_state, .ref m_gate, .ref m_guest, .ref m_gone, .int 0, .ref m_isKept, .ref m_first, .ref m_second, .int 0, .ref m_far, .ref m_wished, .ref m_wasState, .ref m_isHere, .ref m_round, .ref m_bestRound, .int 0, .int 0, .long 0, .long 0, .ref m_taken, .int 0])), (m_lines, .inl (k_lines, 5, .inl (fun _ => 0))), (m_has, .inl (k_has, 45, .inl (fun _ => 0)))]) [0, 1, 2] rfl
  have hDc := hD.sub (ws' := [(m0, .inr (7, [.int 0, .ref m_width, .ref m_many, .ref m_cells, .ref m_moved, .ref m_tape, .int 0, .int 0, .int 0, .int 0, .int 0, .long 0, .int 0, .int 0, .int 0, .int (-1), .ref m_lines, .ref m_has, .ref m_state, .ref m_gate, .ref m_guest, .ref m_gone, .int 0, .ref m_isKept, .ref m_first, .ref m_second, .int 0, .ref m_far, .ref m_wished, .ref m_wasState, .ref m_isHere, .ref m_round, .ref m_bestRound, .int 0, .int 0, .long 0, .long 0, .ref m_taken, .int 0])), (m_lines, .inl (k_lines, 5, .inl (fun _ => 0))), (m_has, .inl (k_has, 45, .inl (fun _ => 0)))]) [0, 1, 2] (by decide) rfl
  have hKc := hK.sub (tys' := [(k_lines, .int), (k_has, .int)]) [0, 1] rfl
  have hFc := va_free (wc := [(m0, .inr (7, [.int 0, .ref m_width, .ref m_many, .ref m_cells, .ref m_moved, .ref m_tape, .int 0, .int 0, .int 0, .int 0, .int 0, .long 0, .int 0, .int 0, .int 0, .int (-1), .ref m_lines, .ref m_has, .ref m_state, .ref m_gate, .ref m_guest, .ref m_gone, .int 0, .ref m_isKept, .ref m_first, .ref m_second, .int 0, .ref m_far, .ref m_wished, .ref m_wasState, .ref m_isHere, .ref m_round, .ref m_bestRound, .int 0, .int 0, .long 0, .long 0, .ref m_taken, .int 0])), (m_lines, .inl (k_lines, 5, .inl (fun _ => 0))), (m_has, .inl (k_has, 45, .inl (fun _ => 0)))]) hD hS hA [0, 1, 2] rfl
  refine va_calli (va_runV (As := [.int a1, .int a2]) (rest := [.int (-2)]) ⟨hx, hb, hml, hown, hts⟩ (c_X7_lawful l dC dI H.size m0 m_width m_many m_cells m_moved m_tape m_lines m_has m_state m_gate m_guest m_gone m_isKept m_first m_second m_far m_wished m_wasState m_isHere m_round m_bestRound m_taken k_lines k_has a1 a2 ) (cwV 2 hts g_law_X7_lawful rfl rfl rfl (by decide +kernel) ⟨Nat.le_of_ble_eq_true rfl, Nat.le_of_ble_eq_true rfl⟩) ⟨fun a U g mk q => by obtain ⟨q0, q1, qP, qK, qD⟩ := q; exact ⟨q0, q1, qP, va_K.moved (u := U) (U := U.calling g mk a) (Vm.Alike.refl U.vm) qK, qD⟩, va_recv hKc hPc (ci := 7) (q0 := 0) rfl rfl, fun U hU hW => ⟨rfl, by rw [hU], by rw [hU]; exact hPc, va_K.moved hW.alike hKc, hDc.weaken (fun _ _ _ _ => trivial)⟩⟩ rfl rfl hl.1 rfl (lv_room (Nat.le_of_ble_eq_true rfl)) dL_law_624 ⟨Nat.le_of_ble_eq_true rfl, Nat.le_of_ble_eq_true rfl⟩) hS (fun q _ h => hFc q h) hFc (fun r_11 u t H1 locs ht hvm hw_12 hB hz1 hk1 hS => ?_)
  have hP1 : va_P (dC, dI) vwCl [] H1 := i_nilP
  have hD1 : va_D (va_A [(m0, .inr (7, [.int 0, .ref m_width, .ref m_many, .ref m_cells, .ref m_moved, .ref m_tape, .int 0, .int 0, .int 0, .int 0, .int 0, .long 0, .int 0, .int 0, .int 0, .int (-1), .ref m_lines, .ref m_has, .ref m_state, .ref m_gate, .ref m_guest, .ref m_gone, .int 0, .ref m_isKept, .ref m_first, .ref m_second, .int 0, .ref m_far, .ref m_wished, .ref m_wasState, .ref m_isHere, .ref m_round, .ref m_bestRound, .int 0, .int 0, .long 0, .long 0, .ref m_taken, .int 0])), (m_lines, .inl (k_lines, 5, .inl (fun _ => 0))), (m_has, .inl (k_has, 45, .inl (fun _ => 0)))] H.size) [] := i_nilD
  try dsimp only at hw_12
  obtain ⟨hP, hD⟩ := va_join (wr := []) (w1 := []) hP hD [0, 1, 2] [] rfl rfl (by decide) (by decide) hk1 hFc hP1 hD1
  generalize H1 = H at hP hS ⊢
  have hP : va_P (dC, dI) vwCl [] H := hP
  have hD : va_D A [] := hD
  obtain rfl : r_11 = -2 := hw_12
  refine lv_icmp_eq (tgt := 1569) hx hb dL_law_627 (by decide) (fun _ => ?_) (fun h => absurd (by decide) h)
  refine lv_iinc (v := 6) (lv' := [(3, .int 6), (2, .ref m0), (1, .ref x0), (0, .ref b)]) hx hb dL_law_1569 hl (k := 0) rfl (by decide) (by decide) rfl (fun ls hl => ?_)
  refine lv_goto (tgt := 18) hx hb dL_law_1572 (by decide) ?_
  exact law_exit C0 hA2 hS (lv_sub hl [0, 3] rfl) (by decide) (by omega) (by omega)

set_option maxHeartbeats 4000000 in
set_option maxRecDepth 100000 in
/-- the law, its call 14: many -/
theorem law_14 {p : Program} {e : Env} {s : State} {m : MethodId} {below : List Frame} {meth : Method} {c : Code} (l : Launch) {b : Nat} {xs : Nat → Int32} (C0 : lw_At p s m meth c b 6 xs) {A : Nat → Prop} (hA : ∀ q, s.heap.size ≤ q → A q) (hA2 : ∀ q, A q → s.heap.size ≤ q) {x0 : Nat} {tp : Nat} {rd : Nat} {gd : Nat} {im : Nat} {rw : Nat} {gn : Nat} {ho : Nat} {sq : Nat} {pl : Nat} {gdt : Nat} {gdu : Nat} {gdn : Nat} {plf : Nat} {plo : Nat} {plb : Nat} {pla : Nat} {m0 : Nat} {m_width : Nat} {m_many : Nat} {m_cells : Nat} {m_moved : Nat} {m_tape : Nat} {m_lines : Nat} {m_has : Nat} {m_state : Nat} {m_gate : Nat} {m_guest : Nat} {m_gone : Nat} {m_isKept : Nat} {m_first : Nat} {m_second : Nat} {m_far : Nat} {m_wished : Nat} {m_wasState : Nat} {m_isHere : Nat} {m_round : Nat} {m_bestRound : Nat} {m_taken : Nat} {k_lines : ClassId} {k_has : ClassId} (hE0 : Kx s) {dC : Nat → ClassId} {dI : Nat → Nat → Nat} (hK : va_K (dC, dI) vwCl [(k_lines, .int), (k_has, .int)] s) {H : Heap} {locs : List Loc} (hP : va_P (dC, dI) vwCl [(x0, .inr (6, [.ref tp, .int 0, .int 0, .int (-1), .ref rd, .ref gd, .ref im, .ref rw, .ref gn, .ref ho, .ref sq])), (gd, .inr (0, [.ref pl, .int 0, .long 0, .long 0, .int 0, .int (-1), .int 0, .ref gdt, .int 0, .ref gdu, .int 0, .ref gdn])), (pl, .inr (3, [.int 0, .int 0, .int 0, .int 0, .long 0, .ref plf, .ref plo, .ref plb, .ref pla])), (m0, .inr (7, [.int 0, .ref m_width, .ref m_many, .ref m_cells, .ref m_moved, .ref m_tape, .int 0, .int 0, .int 0, .int 0, .int 0, .long 0, .int 0, .int 0, .int 0, .int (-1), .ref m_lines, .ref m_has, .ref m_state, .ref m_gate, .ref m_guest, .ref m_gone, .int 0, .ref m_isKept, .ref m_first, .ref m_second, .int 0, .ref m_far, .ref m_wished, .ref m_wasState, .ref m_isHere, .ref m_round, .ref m_bestRound, .int 0, .int 0, .long 0, .long 0, .ref m_taken, .int 0])), (m_lines, .inl (k_lines, 5, .inl (fun _ => 0))), (m_has, .inl (k_has, 45, .inl (fun _ => 0)))] H) (hD : va_D A [(x0, .inr (6, [.ref tp, .int 0, .int 0, .int (-1), .ref rd, .ref gd, .ref im, .ref rw, .ref gn, .ref ho, .ref sq])), (gd, .inr (0, [.ref pl, .int 0, .long 0, .long 0, .int 0, .int (-1), .int 0, .ref gdt, .int 0, .ref gdu, .int 0, .ref gdn])), (pl, .inr (3, [.int 0, .int 0, .int 0, .int 0, .long 0, .ref plf, .ref plo, .ref plb, .ref pla])), (m0, .inr (7, [.int 0, .ref m_width, .ref m_many, .ref m_cells, .ref m_moved, .ref m_tape, .int 0, .int 0, .int 0, .int 0, .int 0, .long 0, .int 0, .int 0, .int 0, .int (-1), .ref m_lines, .ref m_has, .ref m_state, .ref m_gate, .ref m_guest, .ref m_gone, .int 0, .ref m_isKept, .ref m_first, .ref m_second, .int 0, .ref m_far, .ref m_wished, .ref m_wasState, .ref m_isHere, .ref m_round, .ref m_bestRound, .int 0, .int 0, .long 0, .long 0, .ref m_taken, .int 0])), (m_lines, .inl (k_lines, 5, .inl (fun _ => 0))), (m_has, .inl (k_has, 45, .inl (fun _ => 0)))]) (hS : va_S A s.heap H locs) {ls : Array Slot} (hl : lv_has ls 4 [(3, .int 0), (2, .ref m0), (1, .ref x0), (0, .ref b)]) : W p l e room_1 s m #[Value.ref b] below meth c H locs 70 7203 (lw_Z below #[Value.ref b] s) (F0 m 632 ls []) := by
  obtain ⟨hx, hb, hr, hml, hown, hts, hX, hbl, hlocks, hgv⟩ := id C0
  have hown : s.vm.findClass RL = some m.cls := hown
  have hts := fun w (h : w ∈ wz_law) => hts w (wz_law_in w h)
  have hbA : ¬ A b := fun h => absurd (hA2 b h) (Nat.not_le.mpr hbl)
  obtain ⟨a0, ea0⟩ : ∃ y : Int32, y = xs (0 : Int32).toNatClampNeg := ⟨_, rfl⟩
  obtain ⟨a1, ea1⟩ : ∃ y : Int32, y = xs (1 : Int32).toNatClampNeg := ⟨_, rfl⟩
  obtain ⟨a2, ea2⟩ : ∃ y : Int32, y = xs (2 : Int32).toNatClampNeg := ⟨_, rfl⟩
  obtain ⟨a3, ea3⟩ : ∃ y : Int32, y = xs (3 : Int32).toNatClampNeg := ⟨_, rfl⟩
  obtain ⟨a4, ea4⟩ : ∃ y : Int32, y = xs (4 : Int32).toNatClampNeg := ⟨_, rfl⟩
  obtain ⟨a5, ea5⟩ : ∃ y : Int32, y = xs (5 : Int32).toNatClampNeg := ⟨_, rfl⟩
  refine lv_aload_n hx hb dL_law_632 rfl (lv_at hl 2 rfl) ?_
  have hPc := hP.sub (ws' := [(x0, .inr (6, [.ref tp, .int 0, .int 0, .int (-1), .ref rd, .ref gd, .ref im, .ref rw, .ref gn, .ref ho, .ref sq])), (gd, .inr (0, [.ref pl, .int 0, .long 0, .long 0, .int 0, .int (-1), .int 0, .ref gdt, .int 0, .ref gdu, .int 0, .ref gdn])), (pl, .inr (3, [.int 0, .int 0, .int 0, .int 0, .long 0, .ref plf, .ref plo, .ref plb, .ref pla]))]) [0, 1, 2] rfl
  have hDc := hD.sub (ws' := [(x0, .inr (6, [.ref tp, .int 0, .int 0, .int (-1), .ref rd, .ref gd, .ref im, .ref rw, .ref gn, .ref ho, .ref sq])), (gd, .inr (0, [.ref pl, .int 0, .long 0, .long 0, .int 0, .int (-1), .int 0, .ref gdt, .int 0, .ref gdu, .int 0, .ref gdn])), (pl, .inr (3, [.int 0, .int 0, .int 0, .int 0, .long 0, .ref plf, .ref plo, .ref plb, .ref pla]))]) [0, 1, 2] (by decide) rfl
  have hKc := hK.sub (tys' := []) [] rfl
  have hFc := va_free (wc := [(x0, .inr (6, [.ref tp, .int 0, .int 0, .int (-1), .ref rd, .ref gd, .ref im, .ref rw, .ref gn, .ref ho, .ref sq])), (gd, .inr (0, [.ref pl, .int 0, .long 0, .long 0, .int 0, .int (-1), .int 0, .ref gdt, .int 0, .ref gdu, .int 0, .ref gdn])), (pl, .inr (3, [.int 0, .int 0, .int 0, .int 0, .long 0, .ref plf, .ref plo, .ref plb, .ref pla]))]) hD hS hA [0, 1, 2] rfl
  refine va_calli (va_runV (As := []) (rest := []) ⟨hx, hb, hml, hown, hts⟩ (c_X6_many l dC dI H.size x0 tp rd gd im rw gn ho sq pl gdt gdu gdn plf plo plb pla ) (cwV 0 hts g_law_X6_many rfl rfl rfl (by decide +kernel) ⟨Nat.le_of_ble_eq_true rfl, Nat.le_of_ble_eq_true rfl⟩) ⟨fun a U g mk q => by obtain ⟨q0, q1, qP, qK, qD⟩ := q; exact ⟨q0, q1, qP, va_K.moved (u := U) (U := U.calling g mk a) (Vm.Alike.refl U.vm) qK, qD⟩, va_recv hKc hPc (ci := 6) (q0 := 0) rfl rfl, fun U hU hW => ⟨rfl, by rw [hU], by rw [hU]; exact hPc, va_K.moved hW.alike hKc, hDc.weaken (fun _ _ _ _ => trivial)⟩⟩ rfl rfl hl.1 rfl (lv_room (Nat.le_of_ble_eq_true rfl)) dL_law_633 ⟨Nat.le_of_ble_eq_true rfl, Nat.le_of_ble_eq_true rfl⟩) hS (fun q _ h => hFc q h) hFc (fun r_1 u t H1 locs ht hvm hw_2 hB hz1 hk1 hS => ?_)
  have hP1 : va_P (dC, dI) vwCl [] H1 := i_nilP
  have hD1 : va_D (va_A [(x0, .inr (6, [.ref tp, .int 0, .int 0, .int (-1), .ref rd, .ref gd, .ref im, .ref rw, .ref gn, .ref ho, .ref sq])), (gd, .inr (0, [.ref pl, .int 0, .long 0, .long 0, .int 0, .int (-1), .int 0, .ref gdt, .int 0, .ref gdu, .int 0, .ref gdn])), (pl, .inr (3, [.int 0, .int 0, .int 0, .int 0, .long 0, .ref plf, .ref plo, .ref plb, .ref pla]))] H.size) [] := i_nilD
  try dsimp only at hw_2
  obtain ⟨hP, hD⟩ := va_join (wr := [(m0, .inr (7, [.int 0, .ref m_width, .ref m_many, .ref m_cells, .ref m_moved, .ref m_tape, .int 0, .int 0, .int 0, .int 0, .int 0, .long 0, .int 0, .int 0, .int 0, .int (-1), .ref m_lines, .ref m_has, .ref m_state, .ref m_gate, .ref m_guest, .ref m_gone, .int 0, .ref m_isKept, .ref m_first, .ref m_second, .int 0, .ref m_far, .ref m_wished, .ref m_wasState, .ref m_isHere, .ref m_round, .ref m_bestRound, .int 0, .int 0, .long 0, .long 0, .ref m_taken, .int 0])), (m_lines, .inl (k_lines, 5, .inl (fun _ => 0))), (m_has, .inl (k_has, 45, .inl (fun _ => 0)))]) (w1 := []) hP hD [0, 1, 2] [3, 4, 5] rfl rfl (by decide) (by decide) hk1 hFc hP1 hD1
  generalize H1 = H at hP hS ⊢
  have hP : va_P (dC, dI) vwCl [(m0, .inr (7, [.int 0, .ref m_width, .ref m_many, .ref m_cells, .ref m_moved, .ref m_tape, .int 0, .int 0, .int 0, .int 0, .int 0, .long 0, .int 0, .int 0, .int 0, .int (-1), .ref m_lines, .ref m_has, .ref m_state, .ref m_gate, .ref m_guest, .ref m_gone, .int 0, .ref m_isKept, .ref m_first, .ref m_second, .int 0, .ref m_far, .ref m_wished, .ref m_wasState, .ref m_isHere, .ref m_round, .ref m_bestRound, .int 0, .int 0, .long 0, .long 0, .ref m_taken, .int 0])), (m_lines, .inl (k_lines, 5, .inl (fun _ => 0))), (m_has, .inl (k_has, 45, .inl (fun _ => 0)))] H := hP
  have hD : va_D A [(m0, .inr (7, [.int 0, .ref m_width, .ref m_many, .ref m_cells, .ref m_moved, .ref m_tape, .int 0, .int 0, .int 0, .int 0, .int 0, .long 0, .int 0, .int 0, .int 0, .int (-1), .ref m_lines, .ref m_has, .ref m_state, .ref m_gate, .ref m_guest, .ref m_gone, .int 0, .ref m_isKept, .ref m_first, .ref m_second, .int 0, .ref m_far, .ref m_wished, .ref m_wasState, .ref m_isHere, .ref m_round, .ref m_bestRound, .int 0, .int 0, .long 0, .long 0, .ref m_taken, .int 0])), (m_lines, .inl (k_lines, 5, .inl (fun _ => 0))), (m_has, .inl (k_has, 45, .inl (fun _ => 0)))] := hD
  obtain rfl : r_1 = -2 := hw_2
  refine lv_aload_n hx hb dL_law_636 rfl (lv_at hl 1 rfl) ?_
  have hPc := hP.sub (ws' := [(m0, .inr (7, [.int 0, .ref m_width, .ref m_many, .ref m_cells, .ref m_moved, .ref m_tape, .int 0, .int 0, .int 0, .int 0, .int 0, .long 0, .int 0, .int 0, .int 0, .int (-1), .ref m_lines, .ref m_has, .ref m_state, .ref m_gate, .ref m_guest, .ref m_gone, .int 0, .ref m_isKept, .ref m_first, .ref m_second, .int 0, .ref m_far, .ref m_wished, .ref m_wasState, .ref m_isHere, .ref m_round, .ref m_bestRound, .int 0, .int 0, .long 0, .long 0, .ref m_taken, .int 0])), (m_lines, .inl (k_lines, 5, .inl (fun _ => 0))), (m_has, .inl (k_has, 45, .inl (fun _ => 0)))]) [0, 1, 2] rfl
  have hDc := hD.sub (ws' := [(m0, .inr (7, [.int 0, .ref m_width, .ref m_many, .ref m_cells, .ref m_moved, .ref m_tape, .int 0, .int 0, .int 0, .int 0, .int 0, .long 0, .int 0, .int 0, .int 0, .int (-1), .ref m_lines, .ref m_has, .ref m_state, .ref m_gate, .ref m_guest, .ref m_gone, .int 0, .ref m_isKept, .ref m_first, .ref m_second, .int 0, .ref m_far, .ref m_wished, .ref m_wasState, .ref m_isHere, .ref m_round, .ref m_bestRound, .int 0, .int 0, .long 0, .long 0, .ref m_taken, .int 0])), (m_lines, .inl (k_lines, 5, .inl (fun _ => 0))), (m_has, .inl (k_has, 45, .inl (fun _ => 0)))]) [0, 1, 2] (by decide) rfl
  have hKc := hK.sub (tys' := [(k_lines, .int), (k_has, .int)]) [0, 1] rfl
  have hFc := va_free (wc := [(m0, .inr (7, [.int 0, .ref m_width, .ref m_many, .ref m_cells, .ref m_moved, .ref m_tape, .int 0, .int 0, .int 0, .int 0, .int 0, .long 0, .int 0, .int 0, .int 0, .int (-1), .ref m_lines, .ref m_has, .ref m_state, .ref m_gate, .ref m_guest, .ref m_gone, .int 0, .ref m_isKept, .ref m_first, .ref m_second, .int 0, .ref m_far, .ref m_wished, .ref m_wasState, .ref m_isHere, .ref m_round, .ref m_bestRound, .int 0, .int 0, .long 0, .long 0, .ref m_taken, .int 0])), (m_lines, .inl (k_lines, 5, .inl (fun _ => 0))), (m_has, .inl (k_has, 45, .inl (fun _ => 0)))]) hD hS hA [0, 1, 2] rfl
  refine va_calli (va_runV (As := []) (rest := [.int (-2)]) ⟨hx, hb, hml, hown, hts⟩ (c_X7_many l dC dI H.size m0 m_width m_many m_cells m_moved m_tape m_lines m_has m_state m_gate m_guest m_gone m_isKept m_first m_second m_far m_wished m_wasState m_isHere m_round m_bestRound m_taken k_lines k_has ) (cwV 0 hts g_law_X7_many rfl rfl rfl (by decide +kernel) ⟨Nat.le_of_ble_eq_true rfl, Nat.le_of_ble_eq_true rfl⟩) ⟨fun a U g mk q => by obtain ⟨q0, q1, qP, qK, qD⟩ := q; exact ⟨q0, q1, qP, va_K.moved (u := U) (U := U.calling g mk a) (Vm.Alike.refl U.vm) qK, qD⟩, va_recv hKc hPc (ci := 7) (q0 := 0) rfl rfl, fun U hU hW => ⟨rfl, by rw [hU], by rw [hU]; exact hPc, va_K.moved hW.alike hKc, hDc.weaken (fun _ _ _ _ => trivial)⟩⟩ rfl rfl hl.1 rfl (lv_room (Nat.le_of_ble_eq_true rfl)) dL_law_637 ⟨Nat.le_of_ble_eq_true rfl, Nat.le_of_ble_eq_true rfl⟩) hS (fun q _ h => hFc q h) hFc (fun r_3 u t H1 locs ht hvm hw_4 hB hz1 hk1 hS => ?_)
  have hP1 : va_P (dC, dI) vwCl [] H1 := i_nilP
  have hD1 : va_D (va_A [(m0, .inr (7, [.int 0, .ref m_width, .ref m_many, .ref m_cells, .ref m_moved, .ref m_tape, .int 0, .int 0, .int 0, .int 0, .int 0, .long 0, .int 0, .int 0, .int 0, .int (-1), .ref m_lines, .ref m_has, .ref m_state, .ref m_gate, .ref m_guest, .ref m_gone, .int 0, .ref m_isKept, .ref m_first, .ref m_second, .int 0, .ref m_far, .ref m_wished, .ref m_wasState, .ref m_isHere, .ref m_round, .ref m_bestRound, .int 0, .int 0, .long 0, .long 0, .ref m_taken, .int 0])), (m_lines, .inl (k_lines, 5, .inl (fun _ => 0))), (m_has, .inl (k_has, 45, .inl (fun _ => 0)))] H.size) [] := i_nilD
  try dsimp only at hw_4
  obtain ⟨hP, hD⟩ := va_join (wr := []) (w1 := []) hP hD [0, 1, 2] [] rfl rfl (by decide) (by decide) hk1 hFc hP1 hD1
  generalize H1 = H at hP hS ⊢
  have hP : va_P (dC, dI) vwCl [] H := hP
  have hD : va_D A [] := hD
  obtain rfl : r_3 = -2 := hw_4
  refine lv_icmp_eq (tgt := 1569) hx hb dL_law_640 (by decide) (fun _ => ?_) (fun h => absurd (by decide) h)
  refine lv_iinc (v := 6) (lv' := [(3, .int 6), (2, .ref m0), (1, .ref x0), (0, .ref b)]) hx hb dL_law_1569 hl (k := 0) rfl (by decide) (by decide) rfl (fun ls hl => ?_)
  refine lv_goto (tgt := 18) hx hb dL_law_1572 (by decide) ?_
  exact law_exit C0 hA2 hS (lv_sub hl [0, 3] rfl) (by decide) (by omega) (by omega)

set_option maxHeartbeats 4000000 in
set_option maxRecDepth 100000 in
/-- the law, its call 15: nth -/
theorem law_15 {p : Program} {e : Env} {s : State} {m : MethodId} {below : List Frame} {meth : Method} {c : Code} (l : Launch) {b : Nat} {xs : Nat → Int32} (C0 : lw_At p s m meth c b 6 xs) {A : Nat → Prop} (hA : ∀ q, s.heap.size ≤ q → A q) (hA2 : ∀ q, A q → s.heap.size ≤ q) {x0 : Nat} {tp : Nat} {rd : Nat} {gd : Nat} {im : Nat} {rw : Nat} {gn : Nat} {ho : Nat} {sq : Nat} {pl : Nat} {gdt : Nat} {gdu : Nat} {gdn : Nat} {plf : Nat} {plo : Nat} {plb : Nat} {pla : Nat} {m0 : Nat} {m_width : Nat} {m_many : Nat} {m_cells : Nat} {m_moved : Nat} {m_tape : Nat} {m_lines : Nat} {m_has : Nat} {m_state : Nat} {m_gate : Nat} {m_guest : Nat} {m_gone : Nat} {m_isKept : Nat} {m_first : Nat} {m_second : Nat} {m_far : Nat} {m_wished : Nat} {m_wasState : Nat} {m_isHere : Nat} {m_round : Nat} {m_bestRound : Nat} {m_taken : Nat} {k_lines : ClassId} {k_has : ClassId} (hE0 : Kx s) {dC : Nat → ClassId} {dI : Nat → Nat → Nat} (hK : va_K (dC, dI) vwCl [(k_lines, .int), (k_has, .int)] s) {H : Heap} {locs : List Loc} (hP : va_P (dC, dI) vwCl [(x0, .inr (6, [.ref tp, .int 0, .int 0, .int (-1), .ref rd, .ref gd, .ref im, .ref rw, .ref gn, .ref ho, .ref sq])), (gd, .inr (0, [.ref pl, .int 0, .long 0, .long 0, .int 0, .int (-1), .int 0, .ref gdt, .int 0, .ref gdu, .int 0, .ref gdn])), (pl, .inr (3, [.int 0, .int 0, .int 0, .int 0, .long 0, .ref plf, .ref plo, .ref plb, .ref pla])), (m0, .inr (7, [.int 0, .ref m_width, .ref m_many, .ref m_cells, .ref m_moved, .ref m_tape, .int 0, .int 0, .int 0, .int 0, .int 0, .long 0, .int 0, .int 0, .int 0, .int (-1), .ref m_lines, .ref m_has, .ref m_state, .ref m_gate, .ref m_guest, .ref m_gone, .int 0, .ref m_isKept, .ref m_first, .ref m_second, .int 0, .ref m_far, .ref m_wished, .ref m_wasState, .ref m_isHere, .ref m_round, .ref m_bestRound, .int 0, .int 0, .long 0, .long 0, .ref m_taken, .int 0])), (m_lines, .inl (k_lines, 5, .inl (fun _ => 0))), (m_has, .inl (k_has, 45, .inl (fun _ => 0)))] H) (hD : va_D A [(x0, .inr (6, [.ref tp, .int 0, .int 0, .int (-1), .ref rd, .ref gd, .ref im, .ref rw, .ref gn, .ref ho, .ref sq])), (gd, .inr (0, [.ref pl, .int 0, .long 0, .long 0, .int 0, .int (-1), .int 0, .ref gdt, .int 0, .ref gdu, .int 0, .ref gdn])), (pl, .inr (3, [.int 0, .int 0, .int 0, .int 0, .long 0, .ref plf, .ref plo, .ref plb, .ref pla])), (m0, .inr (7, [.int 0, .ref m_width, .ref m_many, .ref m_cells, .ref m_moved, .ref m_tape, .int 0, .int 0, .int 0, .int 0, .int 0, .long 0, .int 0, .int 0, .int 0, .int (-1), .ref m_lines, .ref m_has, .ref m_state, .ref m_gate, .ref m_guest, .ref m_gone, .int 0, .ref m_isKept, .ref m_first, .ref m_second, .int 0, .ref m_far, .ref m_wished, .ref m_wasState, .ref m_isHere, .ref m_round, .ref m_bestRound, .int 0, .int 0, .long 0, .long 0, .ref m_taken, .int 0])), (m_lines, .inl (k_lines, 5, .inl (fun _ => 0))), (m_has, .inl (k_has, 45, .inl (fun _ => 0)))]) (hS : va_S A s.heap H locs) {ls : Array Slot} (hl : lv_has ls 4 [(3, .int 0), (2, .ref m0), (1, .ref x0), (0, .ref b)]) : W p l e room_1 s m #[Value.ref b] below meth c H locs 70 7203 (lw_Z below #[Value.ref b] s) (F0 m 645 ls []) := by
  obtain ⟨hx, hb, hr, hml, hown, hts, hX, hbl, hlocks, hgv⟩ := id C0
  have hown : s.vm.findClass RL = some m.cls := hown
  have hts := fun w (h : w ∈ wz_law) => hts w (wz_law_in w h)
  have hbA : ¬ A b := fun h => absurd (hA2 b h) (Nat.not_le.mpr hbl)
  obtain ⟨a0, ea0⟩ : ∃ y : Int32, y = xs (0 : Int32).toNatClampNeg := ⟨_, rfl⟩
  obtain ⟨a1, ea1⟩ : ∃ y : Int32, y = xs (1 : Int32).toNatClampNeg := ⟨_, rfl⟩
  obtain ⟨a2, ea2⟩ : ∃ y : Int32, y = xs (2 : Int32).toNatClampNeg := ⟨_, rfl⟩
  obtain ⟨a3, ea3⟩ : ∃ y : Int32, y = xs (3 : Int32).toNatClampNeg := ⟨_, rfl⟩
  obtain ⟨a4, ea4⟩ : ∃ y : Int32, y = xs (4 : Int32).toNatClampNeg := ⟨_, rfl⟩
  obtain ⟨a5, ea5⟩ : ∃ y : Int32, y = xs (5 : Int32).toNatClampNeg := ⟨_, rfl⟩
  refine lv_aload_n hx hb dL_law_645 rfl (lv_at hl 2 rfl) ?_
  refine lv_aload_n hx hb dL_law_646 rfl (lv_at hl 3 rfl) ?_
  refine lv_iload_n hx hb dL_law_647 rfl (lv_at hl 0 rfl) ?_
  refine lv_iconst (v := 1) hx hb dL_law_648 (by decide) ?_
  refine lv_iadd hx hb dL_law_649 ?_
  refine lv_topi (fun z_1 ez_1 => ?_)
  obtain rfl : z_1 = 1 := ez_1.trans (by decide)
  refine va_sld hx hb hX hbl hbA hS (vp_in_iff.mpr ⟨by decide, by decide⟩) dL_law_650 ?_
  refine lv_topi (fun z_2 ez_2 => ?_)
  obtain rfl : a1 = z_2 := ea1.trans ez_2.symm
  have hPc := hP.sub (ws' := [(x0, .inr (6, [.ref tp, .int 0, .int 0, .int (-1), .ref rd, .ref gd, .ref im, .ref rw, .ref gn, .ref ho, .ref sq])), (gd, .inr (0, [.ref pl, .int 0, .long 0, .long 0, .int 0, .int (-1), .int 0, .ref gdt, .int 0, .ref gdu, .int 0, .ref gdn])), (pl, .inr (3, [.int 0, .int 0, .int 0, .int 0, .long 0, .ref plf, .ref plo, .ref plb, .ref pla]))]) [0, 1, 2] rfl
  have hDc := hD.sub (ws' := [(x0, .inr (6, [.ref tp, .int 0, .int 0, .int (-1), .ref rd, .ref gd, .ref im, .ref rw, .ref gn, .ref ho, .ref sq])), (gd, .inr (0, [.ref pl, .int 0, .long 0, .long 0, .int 0, .int (-1), .int 0, .ref gdt, .int 0, .ref gdu, .int 0, .ref gdn])), (pl, .inr (3, [.int 0, .int 0, .int 0, .int 0, .long 0, .ref plf, .ref plo, .ref plb, .ref pla]))]) [0, 1, 2] (by decide) rfl
  have hKc := hK.sub (tys' := []) [] rfl
  have hFc := va_free (wc := [(x0, .inr (6, [.ref tp, .int 0, .int 0, .int (-1), .ref rd, .ref gd, .ref im, .ref rw, .ref gn, .ref ho, .ref sq])), (gd, .inr (0, [.ref pl, .int 0, .long 0, .long 0, .int 0, .int (-1), .int 0, .ref gdt, .int 0, .ref gdu, .int 0, .ref gdn])), (pl, .inr (3, [.int 0, .int 0, .int 0, .int 0, .long 0, .ref plf, .ref plo, .ref plb, .ref pla]))]) hD hS hA [0, 1, 2] rfl
  refine va_calli (va_runV (As := [.int a1]) (rest := []) ⟨hx, hb, hml, hown, hts⟩ (c_X6_nth l dC dI H.size x0 tp rd gd im rw gn ho sq pl gdt gdu gdn plf plo plb pla a1 ) (cwV 1 hts g_law_X6_nth rfl rfl rfl (by decide +kernel) ⟨Nat.le_of_ble_eq_true rfl, Nat.le_of_ble_eq_true rfl⟩) ⟨fun a U g mk q => by obtain ⟨q0, q1, qP, qK, qD⟩ := q; exact ⟨q0, q1, qP, va_K.moved (u := U) (U := U.calling g mk a) (Vm.Alike.refl U.vm) qK, qD⟩, va_recv hKc hPc (ci := 6) (q0 := 0) rfl rfl, fun U hU hW => ⟨rfl, by rw [hU], by rw [hU]; exact hPc, va_K.moved hW.alike hKc, hDc.weaken (fun _ _ _ _ => trivial)⟩⟩ rfl rfl hl.1 rfl (lv_room (Nat.le_of_ble_eq_true rfl)) dL_law_651 ⟨Nat.le_of_ble_eq_true rfl, Nat.le_of_ble_eq_true rfl⟩) hS (fun q _ h => hFc q h) hFc (fun r_3 u t H1 locs ht hvm hw_4 hB hz1 hk1 hS => ?_)
  have hP1 : va_P (dC, dI) vwCl [] H1 := i_nilP
  have hD1 : va_D (va_A [(x0, .inr (6, [.ref tp, .int 0, .int 0, .int (-1), .ref rd, .ref gd, .ref im, .ref rw, .ref gn, .ref ho, .ref sq])), (gd, .inr (0, [.ref pl, .int 0, .long 0, .long 0, .int 0, .int (-1), .int 0, .ref gdt, .int 0, .ref gdu, .int 0, .ref gdn])), (pl, .inr (3, [.int 0, .int 0, .int 0, .int 0, .long 0, .ref plf, .ref plo, .ref plb, .ref pla]))] H.size) [] := i_nilD
  try dsimp only at hw_4
  obtain ⟨hP, hD⟩ := va_join (wr := [(m0, .inr (7, [.int 0, .ref m_width, .ref m_many, .ref m_cells, .ref m_moved, .ref m_tape, .int 0, .int 0, .int 0, .int 0, .int 0, .long 0, .int 0, .int 0, .int 0, .int (-1), .ref m_lines, .ref m_has, .ref m_state, .ref m_gate, .ref m_guest, .ref m_gone, .int 0, .ref m_isKept, .ref m_first, .ref m_second, .int 0, .ref m_far, .ref m_wished, .ref m_wasState, .ref m_isHere, .ref m_round, .ref m_bestRound, .int 0, .int 0, .long 0, .long 0, .ref m_taken, .int 0])), (m_lines, .inl (k_lines, 5, .inl (fun _ => 0))), (m_has, .inl (k_has, 45, .inl (fun _ => 0)))]) (w1 := []) hP hD [0, 1, 2] [3, 4, 5] rfl rfl (by decide) (by decide) hk1 hFc hP1 hD1
  generalize H1 = H at hP hS ⊢
  have hP : va_P (dC, dI) vwCl [(m0, .inr (7, [.int 0, .ref m_width, .ref m_many, .ref m_cells, .ref m_moved, .ref m_tape, .int 0, .int 0, .int 0, .int 0, .int 0, .long 0, .int 0, .int 0, .int 0, .int (-1), .ref m_lines, .ref m_has, .ref m_state, .ref m_gate, .ref m_guest, .ref m_gone, .int 0, .ref m_isKept, .ref m_first, .ref m_second, .int 0, .ref m_far, .ref m_wished, .ref m_wasState, .ref m_isHere, .ref m_round, .ref m_bestRound, .int 0, .int 0, .long 0, .long 0, .ref m_taken, .int 0])), (m_lines, .inl (k_lines, 5, .inl (fun _ => 0))), (m_has, .inl (k_has, 45, .inl (fun _ => 0)))] H := hP
  have hD : va_D A [(m0, .inr (7, [.int 0, .ref m_width, .ref m_many, .ref m_cells, .ref m_moved, .ref m_tape, .int 0, .int 0, .int 0, .int 0, .int 0, .long 0, .int 0, .int 0, .int 0, .int (-1), .ref m_lines, .ref m_has, .ref m_state, .ref m_gate, .ref m_guest, .ref m_gone, .int 0, .ref m_isKept, .ref m_first, .ref m_second, .int 0, .ref m_far, .ref m_wished, .ref m_wasState, .ref m_isHere, .ref m_round, .ref m_bestRound, .int 0, .int 0, .long 0, .long 0, .ref m_taken, .int 0])), (m_lines, .inl (k_lines, 5, .inl (fun _ => 0))), (m_has, .inl (k_has, 45, .inl (fun _ => 0)))] := hD
  obtain rfl : r_3 = -2 := hw_4
  refine lv_aload_n hx hb dL_law_654 rfl (lv_at hl 1 rfl) ?_
  refine lv_aload_n hx hb dL_law_655 rfl (lv_at hl 3 rfl) ?_
  refine lv_iload_n hx hb dL_law_656 rfl (lv_at hl 0 rfl) ?_
  refine lv_iconst (v := 1) hx hb dL_law_657 (by decide) ?_
  refine lv_iadd hx hb dL_law_658 ?_
  refine lv_topi (fun z_5 ez_5 => ?_)
  obtain rfl : z_5 = 1 := ez_5.trans (by decide)
  refine va_sld hx hb hX hbl hbA hS (vp_in_iff.mpr ⟨by decide, by decide⟩) dL_law_659 ?_
  refine lv_topi (fun z_6 ez_6 => ?_)
  obtain rfl : a1 = z_6 := ea1.trans ez_6.symm
  have hPc := hP.sub (ws' := [(m0, .inr (7, [.int 0, .ref m_width, .ref m_many, .ref m_cells, .ref m_moved, .ref m_tape, .int 0, .int 0, .int 0, .int 0, .int 0, .long 0, .int 0, .int 0, .int 0, .int (-1), .ref m_lines, .ref m_has, .ref m_state, .ref m_gate, .ref m_guest, .ref m_gone, .int 0, .ref m_isKept, .ref m_first, .ref m_second, .int 0, .ref m_far, .ref m_wished, .ref m_wasState, .ref m_isHere, .ref m_round, .ref m_bestRound, .int 0, .int 0, .long 0, .long 0, .ref m_taken, .int 0])), (m_lines, .inl (k_lines, 5, .inl (fun _ => 0))), (m_has, .inl (k_has, 45, .inl (fun _ => 0)))]) [0, 1, 2] rfl
  have hDc := hD.sub (ws' := [(m0, .inr (7, [.int 0, .ref m_width, .ref m_many, .ref m_cells, .ref m_moved, .ref m_tape, .int 0, .int 0, .int 0, .int 0, .int 0, .long 0, .int 0, .int 0, .int 0, .int (-1), .ref m_lines, .ref m_has, .ref m_state, .ref m_gate, .ref m_guest, .ref m_gone, .int 0, .ref m_isKept, .ref m_first, .ref m_second, .int 0, .ref m_far, .ref m_wished, .ref m_wasState, .ref m_isHere, .ref m_round, .ref m_bestRound, .int 0, .int 0, .long 0, .long 0, .ref m_taken, .int 0])), (m_lines, .inl (k_lines, 5, .inl (fun _ => 0))), (m_has, .inl (k_has, 45, .inl (fun _ => 0)))]) [0, 1, 2] (by decide) rfl
  have hKc := hK.sub (tys' := [(k_lines, .int), (k_has, .int)]) [0, 1] rfl
  have hFc := va_free (wc := [(m0, .inr (7, [.int 0, .ref m_width, .ref m_many, .ref m_cells, .ref m_moved, .ref m_tape, .int 0, .int 0, .int 0, .int 0, .int 0, .long 0, .int 0, .int 0, .int 0, .int (-1), .ref m_lines, .ref m_has, .ref m_state, .ref m_gate, .ref m_guest, .ref m_gone, .int 0, .ref m_isKept, .ref m_first, .ref m_second, .int 0, .ref m_far, .ref m_wished, .ref m_wasState, .ref m_isHere, .ref m_round, .ref m_bestRound, .int 0, .int 0, .long 0, .long 0, .ref m_taken, .int 0])), (m_lines, .inl (k_lines, 5, .inl (fun _ => 0))), (m_has, .inl (k_has, 45, .inl (fun _ => 0)))]) hD hS hA [0, 1, 2] rfl
  refine va_calli (va_runV (As := [.int a1]) (rest := [.int (-2)]) ⟨hx, hb, hml, hown, hts⟩ (c_X7_nth l dC dI H.size m0 m_width m_many m_cells m_moved m_tape m_lines m_has m_state m_gate m_guest m_gone m_isKept m_first m_second m_far m_wished m_wasState m_isHere m_round m_bestRound m_taken k_lines k_has a1 ) (cwV 1 hts g_law_X7_nth rfl rfl rfl (by decide +kernel) ⟨Nat.le_of_ble_eq_true rfl, Nat.le_of_ble_eq_true rfl⟩) ⟨fun a U g mk q => by obtain ⟨q0, q1, qP, qK, qD⟩ := q; exact ⟨q0, q1, qP, va_K.moved (u := U) (U := U.calling g mk a) (Vm.Alike.refl U.vm) qK, qD⟩, va_recv hKc hPc (ci := 7) (q0 := 0) rfl rfl, fun U hU hW => ⟨rfl, by rw [hU], by rw [hU]; exact hPc, va_K.moved hW.alike hKc, hDc.weaken (fun _ _ _ _ => trivial)⟩⟩ rfl rfl hl.1 rfl (lv_room (Nat.le_of_ble_eq_true rfl)) dL_law_660 ⟨Nat.le_of_ble_eq_true rfl, Nat.le_of_ble_eq_true rfl⟩) hS (fun q _ h => hFc q h) hFc (fun r_7 u t H1 locs ht hvm hw_8 hB hz1 hk1 hS => ?_)
  have hP1 : va_P (dC, dI) vwCl [] H1 := i_nilP
  have hD1 : va_D (va_A [(m0, .inr (7, [.int 0, .ref m_width, .ref m_many, .ref m_cells, .ref m_moved, .ref m_tape, .int 0, .int 0, .int 0, .int 0, .int 0, .long 0, .int 0, .int 0, .int 0, .int (-1), .ref m_lines, .ref m_has, .ref m_state, .ref m_gate, .ref m_guest, .ref m_gone, .int 0, .ref m_isKept, .ref m_first, .ref m_second, .int 0, .ref m_far, .ref m_wished, .ref m_wasState, .ref m_isHere, .ref m_round, .ref m_bestRound, .int 0, .int 0, .long 0, .long 0, .ref m_taken, .int 0])), (m_lines, .inl (k_lines, 5, .inl (fun _ => 0))), (m_has, .inl (k_has, 45, .inl (fun _ => 0)))] H.size) [] := i_nilD
  try dsimp only at hw_8
  obtain ⟨hP, hD⟩ := va_join (wr := []) (w1 := []) hP hD [0, 1, 2] [] rfl rfl (by decide) (by decide) hk1 hFc hP1 hD1
  generalize H1 = H at hP hS ⊢
  have hP : va_P (dC, dI) vwCl [] H := hP
  have hD : va_D A [] := hD
  obtain rfl : r_7 = -2 := hw_8
  refine lv_icmp_eq (tgt := 1569) hx hb dL_law_663 (by decide) (fun _ => ?_) (fun h => absurd (by decide) h)
  refine lv_iinc (v := 6) (lv' := [(3, .int 6), (2, .ref m0), (1, .ref x0), (0, .ref b)]) hx hb dL_law_1569 hl (k := 0) rfl (by decide) (by decide) rfl (fun ls hl => ?_)
  refine lv_goto (tgt := 18) hx hb dL_law_1572 (by decide) ?_
  exact law_exit C0 hA2 hS (lv_sub hl [0, 3] rfl) (by decide) (by omega) (by omega)

set_option maxHeartbeats 4000000 in
set_option maxRecDepth 100000 in
/-- the law, its call 16: night -/
theorem law_16 {p : Program} {e : Env} {s : State} {m : MethodId} {below : List Frame} {meth : Method} {c : Code} (l : Launch) {b : Nat} {xs : Nat → Int32} (C0 : lw_At p s m meth c b 6 xs) {A : Nat → Prop} (hA : ∀ q, s.heap.size ≤ q → A q) (hA2 : ∀ q, A q → s.heap.size ≤ q) {x0 : Nat} {tp : Nat} {rd : Nat} {gd : Nat} {im : Nat} {rw : Nat} {gn : Nat} {ho : Nat} {sq : Nat} {pl : Nat} {gdt : Nat} {gdu : Nat} {gdn : Nat} {plf : Nat} {plo : Nat} {plb : Nat} {pla : Nat} {m0 : Nat} {m_width : Nat} {m_many : Nat} {m_cells : Nat} {m_moved : Nat} {m_tape : Nat} {m_lines : Nat} {m_has : Nat} {m_state : Nat} {m_gate : Nat} {m_guest : Nat} {m_gone : Nat} {m_isKept : Nat} {m_first : Nat} {m_second : Nat} {m_far : Nat} {m_wished : Nat} {m_wasState : Nat} {m_isHere : Nat} {m_round : Nat} {m_bestRound : Nat} {m_taken : Nat} {k_lines : ClassId} {k_has : ClassId} (hE0 : Kx s) {dC : Nat → ClassId} {dI : Nat → Nat → Nat} (hK : va_K (dC, dI) vwCl [(k_lines, .int), (k_has, .int)] s) {H : Heap} {locs : List Loc} (hP : va_P (dC, dI) vwCl [(x0, .inr (6, [.ref tp, .int 0, .int 0, .int (-1), .ref rd, .ref gd, .ref im, .ref rw, .ref gn, .ref ho, .ref sq])), (gd, .inr (0, [.ref pl, .int 0, .long 0, .long 0, .int 0, .int (-1), .int 0, .ref gdt, .int 0, .ref gdu, .int 0, .ref gdn])), (pl, .inr (3, [.int 0, .int 0, .int 0, .int 0, .long 0, .ref plf, .ref plo, .ref plb, .ref pla])), (m0, .inr (7, [.int 0, .ref m_width, .ref m_many, .ref m_cells, .ref m_moved, .ref m_tape, .int 0, .int 0, .int 0, .int 0, .int 0, .long 0, .int 0, .int 0, .int 0, .int (-1), .ref m_lines, .ref m_has, .ref m_state, .ref m_gate, .ref m_guest, .ref m_gone, .int 0, .ref m_isKept, .ref m_first, .ref m_second, .int 0, .ref m_far, .ref m_wished, .ref m_wasState, .ref m_isHere, .ref m_round, .ref m_bestRound, .int 0, .int 0, .long 0, .long 0, .ref m_taken, .int 0])), (m_lines, .inl (k_lines, 5, .inl (fun _ => 0))), (m_has, .inl (k_has, 45, .inl (fun _ => 0)))] H) (hD : va_D A [(x0, .inr (6, [.ref tp, .int 0, .int 0, .int (-1), .ref rd, .ref gd, .ref im, .ref rw, .ref gn, .ref ho, .ref sq])), (gd, .inr (0, [.ref pl, .int 0, .long 0, .long 0, .int 0, .int (-1), .int 0, .ref gdt, .int 0, .ref gdu, .int 0, .ref gdn])), (pl, .inr (3, [.int 0, .int 0, .int 0, .int 0, .long 0, .ref plf, .ref plo, .ref plb, .ref pla])), (m0, .inr (7, [.int 0, .ref m_width, .ref m_many, .ref m_cells, .ref m_moved, .ref m_tape, .int 0, .int 0, .int 0, .int 0, .int 0, .long 0, .int 0, .int 0, .int 0, .int (-1), .ref m_lines, .ref m_has, .ref m_state, .ref m_gate, .ref m_guest, .ref m_gone, .int 0, .ref m_isKept, .ref m_first, .ref m_second, .int 0, .ref m_far, .ref m_wished, .ref m_wasState, .ref m_isHere, .ref m_round, .ref m_bestRound, .int 0, .int 0, .long 0, .long 0, .ref m_taken, .int 0])), (m_lines, .inl (k_lines, 5, .inl (fun _ => 0))), (m_has, .inl (k_has, 45, .inl (fun _ => 0)))]) (hS : va_S A s.heap H locs) {ls : Array Slot} (hl : lv_has ls 4 [(3, .int 0), (2, .ref m0), (1, .ref x0), (0, .ref b)]) : W p l e room_1 s m #[Value.ref b] below meth c H locs 70 7203 (lw_Z below #[Value.ref b] s) (F0 m 668 ls []) := by
  obtain ⟨hx, hb, hr, hml, hown, hts, hX, hbl, hlocks, hgv⟩ := id C0
  have hown : s.vm.findClass RL = some m.cls := hown
  have hts := fun w (h : w ∈ wz_law) => hts w (wz_law_in w h)
  have hbA : ¬ A b := fun h => absurd (hA2 b h) (Nat.not_le.mpr hbl)
  obtain ⟨a0, ea0⟩ : ∃ y : Int32, y = xs (0 : Int32).toNatClampNeg := ⟨_, rfl⟩
  obtain ⟨a1, ea1⟩ : ∃ y : Int32, y = xs (1 : Int32).toNatClampNeg := ⟨_, rfl⟩
  obtain ⟨a2, ea2⟩ : ∃ y : Int32, y = xs (2 : Int32).toNatClampNeg := ⟨_, rfl⟩
  obtain ⟨a3, ea3⟩ : ∃ y : Int32, y = xs (3 : Int32).toNatClampNeg := ⟨_, rfl⟩
  obtain ⟨a4, ea4⟩ : ∃ y : Int32, y = xs (4 : Int32).toNatClampNeg := ⟨_, rfl⟩
  obtain ⟨a5, ea5⟩ : ∃ y : Int32, y = xs (5 : Int32).toNatClampNeg := ⟨_, rfl⟩
  refine lv_aload_n hx hb dL_law_668 rfl (lv_at hl 2 rfl) ?_
  refine lv_aload_n hx hb dL_law_669 rfl (lv_at hl 3 rfl) ?_
  refine lv_iload_n hx hb dL_law_670 rfl (lv_at hl 0 rfl) ?_
  refine lv_iconst (v := 1) hx hb dL_law_671 (by decide) ?_
  refine lv_iadd hx hb dL_law_672 ?_
  refine lv_topi (fun z_1 ez_1 => ?_)
  obtain rfl : z_1 = 1 := ez_1.trans (by decide)
  refine va_sld hx hb hX hbl hbA hS (vp_in_iff.mpr ⟨by decide, by decide⟩) dL_law_673 ?_
  refine lv_topi (fun z_2 ez_2 => ?_)
  obtain rfl : a1 = z_2 := ea1.trans ez_2.symm
  refine lv_aload_n hx hb dL_law_674 rfl (lv_at hl 3 rfl) ?_
  refine lv_iload_n hx hb dL_law_675 rfl (lv_at hl 0 rfl) ?_
  refine lv_iconst (v := 2) hx hb dL_law_676 (by decide) ?_
  refine lv_iadd hx hb dL_law_677 ?_
  refine lv_topi (fun z_3 ez_3 => ?_)
  obtain rfl : z_3 = 2 := ez_3.trans (by decide)
  refine va_sld hx hb hX hbl hbA hS (vp_in_iff.mpr ⟨by decide, by decide⟩) dL_law_678 ?_
  refine lv_topi (fun z_4 ez_4 => ?_)
  obtain rfl : a2 = z_4 := ea2.trans ez_4.symm
  have hPc := hP.sub (ws' := [(x0, .inr (6, [.ref tp, .int 0, .int 0, .int (-1), .ref rd, .ref gd, .ref im, .ref rw, .ref gn, .ref ho, .ref sq])), (gd, .inr (0, [.ref pl, .int 0, .long 0, .long 0, .int 0, .int (-1), .int 0, .ref gdt, .int 0, .ref gdu, .int 0, .ref gdn])), (pl, .inr (3, [.int 0, .int 0, .int 0, .int 0, .long 0, .ref plf, .ref plo, .ref plb, .ref pla]))]) [0, 1, 2] rfl
  have hDc := hD.sub (ws' := [(x0, .inr (6, [.ref tp, .int 0, .int 0, .int (-1), .ref rd, .ref gd, .ref im, .ref rw, .ref gn, .ref ho, .ref sq])), (gd, .inr (0, [.ref pl, .int 0, .long 0, .long 0, .int 0, .int (-1), .int 0, .ref gdt, .int 0, .ref gdu, .int 0, .ref gdn])), (pl, .inr (3, [.int 0, .int 0, .int 0, .int 0, .long 0, .ref plf, .ref plo, .ref plb, .ref pla]))]) [0, 1, 2] (by decide) rfl
  have hKc := hK.sub (tys' := []) [] rfl
  have hFc := va_free (wc := [(x0, .inr (6, [.ref tp, .int 0, .int 0, .int (-1), .ref rd, .ref gd, .ref im, .ref rw, .ref gn, .ref ho, .ref sq])), (gd, .inr (0, [.ref pl, .int 0, .long 0, .long 0, .int 0, .int (-1), .int 0, .ref gdt, .int 0, .ref gdu, .int 0, .ref gdn])), (pl, .inr (3, [.int 0, .int 0, .int 0, .int 0, .long 0, .ref plf, .ref plo, .ref plb, .ref pla]))]) hD hS hA [0, 1, 2] rfl
  refine va_calli (va_runV (As := [.int a1, .int a2]) (rest := []) ⟨hx, hb, hml, hown, hts⟩ (c_X6_night l dC dI H.size x0 tp rd gd im rw gn ho sq pl gdt gdu gdn plf plo plb pla a1 a2 ) (cwV 2 hts g_law_X6_night rfl rfl rfl (by decide +kernel) ⟨Nat.le_of_ble_eq_true rfl, Nat.le_of_ble_eq_true rfl⟩) ⟨fun a U g mk q => by obtain ⟨q0, q1, qP, qK, qD⟩ := q; exact ⟨q0, q1, qP, va_K.moved (u := U) (U := U.calling g mk a) (Vm.Alike.refl U.vm) qK, qD⟩, va_recv hKc hPc (ci := 6) (q0 := 0) rfl rfl, fun U hU hW => ⟨rfl, by rw [hU], by rw [hU]; exact hPc, va_K.moved hW.alike hKc, hDc.weaken (fun _ _ _ _ => trivial)⟩⟩ rfl rfl hl.1 rfl (lv_room (Nat.le_of_ble_eq_true rfl)) dL_law_679 ⟨Nat.le_of_ble_eq_true rfl, Nat.le_of_ble_eq_true rfl⟩) hS (fun q _ h => hFc q h) hFc (fun r_5 u t H1 locs ht hvm hw_6 hB hz1 hk1 hS => ?_)
  have hP1 : va_P (dC, dI) vwCl [] H1 := i_nilP
  have hD1 : va_D (va_A [(x0, .inr (6, [.ref tp, .int 0, .int 0, .int (-1), .ref rd, .ref gd, .ref im, .ref rw, .ref gn, .ref ho, .ref sq])), (gd, .inr (0, [.ref pl, .int 0, .long 0, .long 0, .int 0, .int (-1), .int 0, .ref gdt, .int 0, .ref gdu, .int 0, .ref gdn])), (pl, .inr (3, [.int 0, .int 0, .int 0, .int 0, .long 0, .ref plf, .ref plo, .ref plb, .ref pla]))] H.size) [] := i_nilD
  try dsimp only at hw_6
  obtain ⟨hP, hD⟩ := va_join (wr := [(m0, .inr (7, [.int 0, .ref m_width, .ref m_many, .ref m_cells, .ref m_moved, .ref m_tape, .int 0, .int 0, .int 0, .int 0, .int 0, .long 0, .int 0, .int 0, .int 0, .int (-1), .ref m_lines, .ref m_has, .ref m_state, .ref m_gate, .ref m_guest, .ref m_gone, .int 0, .ref m_isKept, .ref m_first, .ref m_second, .int 0, .ref m_far, .ref m_wished, .ref m_wasState, .ref m_isHere, .ref m_round, .ref m_bestRound, .int 0, .int 0, .long 0, .long 0, .ref m_taken, .int 0])), (m_lines, .inl (k_lines, 5, .inl (fun _ => 0))), (m_has, .inl (k_has, 45, .inl (fun _ => 0)))]) (w1 := []) hP hD [0, 1, 2] [3, 4, 5] rfl rfl (by decide) (by decide) hk1 hFc hP1 hD1
  generalize H1 = H at hP hS ⊢
  have hP : va_P (dC, dI) vwCl [(m0, .inr (7, [.int 0, .ref m_width, .ref m_many, .ref m_cells, .ref m_moved, .ref m_tape, .int 0, .int 0, .int 0, .int 0, .int 0, .long 0, .int 0, .int 0, .int 0, .int (-1), .ref m_lines, .ref m_has, .ref m_state, .ref m_gate, .ref m_guest, .ref m_gone, .int 0, .ref m_isKept, .ref m_first, .ref m_second, .int 0, .ref m_far, .ref m_wished, .ref m_wasState, .ref m_isHere, .ref m_round, .ref m_bestRound, .int 0, .int 0, .long 0, .long 0, .ref m_taken, .int 0])), (m_lines, .inl (k_lines, 5, .inl (fun _ => 0))), (m_has, .inl (k_has, 45, .inl (fun _ => 0)))] H := hP
  have hD : va_D A [(m0, .inr (7, [.int 0, .ref m_width, .ref m_many, .ref m_cells, .ref m_moved, .ref m_tape, .int 0, .int 0, .int 0, .int 0, .int 0, .long 0, .int 0, .int 0, .int 0, .int (-1), .ref m_lines, .ref m_has, .ref m_state, .ref m_gate, .ref m_guest, .ref m_gone, .int 0, .ref m_isKept, .ref m_first, .ref m_second, .int 0, .ref m_far, .ref m_wished, .ref m_wasState, .ref m_isHere, .ref m_round, .ref m_bestRound, .int 0, .int 0, .long 0, .long 0, .ref m_taken, .int 0])), (m_lines, .inl (k_lines, 5, .inl (fun _ => 0))), (m_has, .inl (k_has, 45, .inl (fun _ => 0)))] := hD
  obtain rfl : r_5 = -2 := hw_6
  refine lv_aload_n hx hb dL_law_682 rfl (lv_at hl 1 rfl) ?_
  refine lv_aload_n hx hb dL_law_683 rfl (lv_at hl 3 rfl) ?_
  refine lv_iload_n hx hb dL_law_684 rfl (lv_at hl 0 rfl) ?_
  refine lv_iconst (v := 1) hx hb dL_law_685 (by decide) ?_
  refine lv_iadd hx hb dL_law_686 ?_
  refine lv_topi (fun z_7 ez_7 => ?_)
  obtain rfl : z_7 = 1 := ez_7.trans (by decide)
  refine va_sld hx hb hX hbl hbA hS (vp_in_iff.mpr ⟨by decide, by decide⟩) dL_law_687 ?_
  refine lv_topi (fun z_8 ez_8 => ?_)
  obtain rfl : a1 = z_8 := ea1.trans ez_8.symm
  refine lv_aload_n hx hb dL_law_688 rfl (lv_at hl 3 rfl) ?_
  refine lv_iload_n hx hb dL_law_689 rfl (lv_at hl 0 rfl) ?_
  refine lv_iconst (v := 2) hx hb dL_law_690 (by decide) ?_
  refine lv_iadd hx hb dL_law_691 ?_
  refine lv_topi (fun z_9 ez_9 => ?_)
  obtain rfl : z_9 = 2 := ez_9.trans (by decide)
  refine va_sld hx hb hX hbl hbA hS (vp_in_iff.mpr ⟨by decide, by decide⟩) dL_law_692 ?_
  refine lv_topi (fun z_10 ez_10 => ?_)
  obtain rfl : a2 = z_10 := ea2.trans ez_10.symm
  have hPc := hP.sub (ws' := [(m0, .inr (7, [.int 0, .ref m_width, .ref m_many, .ref m_cells, .ref m_moved, .ref m_tape, .int 0, .int 0, .int 0, .int 0, .int 0, .long 0, .int 0, .int 0, .int 0, .int (-1), .ref m_lines, .ref m_has, .ref m_state, .ref m_gate, .ref m_guest, .ref m_gone, .int 0, .ref m_isKept, .ref m_first, .ref m_second, .int 0, .ref m_far, .ref m_wished, .ref m_wasState, .ref m_isHere, .ref m_round, .ref m_bestRound, .int 0, .int 0, .long 0, .long 0, .ref m_taken, .int 0])), (m_lines, .inl (k_lines, 5, .inl (fun _ => 0))), (m_has, .inl (k_has, 45, .inl (fun _ => 0)))]) [0, 1, 2] rfl
  have hDc := hD.sub (ws' := [(m0, .inr (7, [.int 0, .ref m_width, .ref m_many, .ref m_cells, .ref m_moved, .ref m_tape, .int 0, .int 0, .int 0, .int 0, .int 0, .long 0, .int 0, .int 0, .int 0, .int (-1), .ref m_lines, .ref m_has, .ref m_state, .ref m_gate, .ref m_guest, .ref m_gone, .int 0, .ref m_isKept, .ref m_first, .ref m_second, .int 0, .ref m_far, .ref m_wished, .ref m_wasState, .ref m_isHere, .ref m_round, .ref m_bestRound, .int 0, .int 0, .long 0, .long 0, .ref m_taken, .int 0])), (m_lines, .inl (k_lines, 5, .inl (fun _ => 0))), (m_has, .inl (k_has, 45, .inl (fun _ => 0)))]) [0, 1, 2] (by decide) rfl
  have hKc := hK.sub (tys' := [(k_lines, .int), (k_has, .int)]) [0, 1] rfl
  have hFc := va_free (wc := [(m0, .inr (7, [.int 0, .ref m_width, .ref m_many, .ref m_cells, .ref m_moved, .ref m_tape, .int 0, .int 0, .int 0, .int 0, .int 0, .long 0, .int 0, .int 0, .int 0, .int (-1), .ref m_lines, .ref m_has, .ref m_state, .ref m_gate, .ref m_guest, .ref m_gone, .int 0, .ref m_isKept, .ref m_first, .ref m_second, .int 0, .ref m_far, .ref m_wished, .ref m_wasState, .ref m_isHere, .ref m_round, .ref m_bestRound, .int 0, .int 0, .long 0, .long 0, .ref m_taken, .int 0])), (m_lines, .inl (k_lines, 5, .inl (fun _ => 0))), (m_has, .inl (k_has, 45, .inl (fun _ => 0)))]) hD hS hA [0, 1, 2] rfl
  refine va_calli (va_runV (As := [.int a1, .int a2]) (rest := [.int (-2)]) ⟨hx, hb, hml, hown, hts⟩ (c_X7_night l dC dI H.size m0 m_width m_many m_cells m_moved m_tape m_lines m_has m_state m_gate m_guest m_gone m_isKept m_first m_second m_far m_wished m_wasState m_isHere m_round m_bestRound m_taken k_lines k_has a1 a2 ) (cwV 2 hts g_law_X7_night rfl rfl rfl (by decide +kernel) ⟨Nat.le_of_ble_eq_true rfl, Nat.le_of_ble_eq_true rfl⟩) ⟨fun a U g mk q => by obtain ⟨q0, q1, qP, qK, qD⟩ := q; exact ⟨q0, q1, qP, va_K.moved (u := U) (U := U.calling g mk a) (Vm.Alike.refl U.vm) qK, qD⟩, va_recv hKc hPc (ci := 7) (q0 := 0) rfl rfl, fun U hU hW => ⟨rfl, by rw [hU], by rw [hU]; exact hPc, va_K.moved hW.alike hKc, hDc.weaken (fun _ _ _ _ => trivial)⟩⟩ rfl rfl hl.1 rfl (lv_room (Nat.le_of_ble_eq_true rfl)) dL_law_693 ⟨Nat.le_of_ble_eq_true rfl, Nat.le_of_ble_eq_true rfl⟩) hS (fun q _ h => hFc q h) hFc (fun r_11 u t H1 locs ht hvm hw_12 hB hz1 hk1 hS => ?_)
  have hP1 : va_P (dC, dI) vwCl [] H1 := i_nilP
  have hD1 : va_D (va_A [(m0, .inr (7, [.int 0, .ref m_width, .ref m_many, .ref m_cells, .ref m_moved, .ref m_tape, .int 0, .int 0, .int 0, .int 0, .int 0, .long 0, .int 0, .int 0, .int 0, .int (-1), .ref m_lines, .ref m_has, .ref m_state, .ref m_gate, .ref m_guest, .ref m_gone, .int 0, .ref m_isKept, .ref m_first, .ref m_second, .int 0, .ref m_far, .ref m_wished, .ref m_wasState, .ref m_isHere, .ref m_round, .ref m_bestRound, .int 0, .int 0, .long 0, .long 0, .ref m_taken, .int 0])), (m_lines, .inl (k_lines, 5, .inl (fun _ => 0))), (m_has, .inl (k_has, 45, .inl (fun _ => 0)))] H.size) [] := i_nilD
  try dsimp only at hw_12
  obtain ⟨hP, hD⟩ := va_join (wr := []) (w1 := []) hP hD [0, 1, 2] [] rfl rfl (by decide) (by decide) hk1 hFc hP1 hD1
  generalize H1 = H at hP hS ⊢
  have hP : va_P (dC, dI) vwCl [] H := hP
  have hD : va_D A [] := hD
  obtain rfl : r_11 = -2 := hw_12
  refine lv_icmp_eq (tgt := 1569) hx hb dL_law_696 (by decide) (fun _ => ?_) (fun h => absurd (by decide) h)
  refine lv_iinc (v := 6) (lv' := [(3, .int 6), (2, .ref m0), (1, .ref x0), (0, .ref b)]) hx hb dL_law_1569 hl (k := 0) rfl (by decide) (by decide) rfl (fun ls hl => ?_)
  refine lv_goto (tgt := 18) hx hb dL_law_1572 (by decide) ?_
  exact law_exit C0 hA2 hS (lv_sub hl [0, 3] rfl) (by decide) (by omega) (by omega)

set_option maxHeartbeats 4000000 in
set_option maxRecDepth 100000 in
/-- the law, its call 17: dawn -/
theorem law_17 {p : Program} {e : Env} {s : State} {m : MethodId} {below : List Frame} {meth : Method} {c : Code} (l : Launch) {b : Nat} {xs : Nat → Int32} (C0 : lw_At p s m meth c b 6 xs) {A : Nat → Prop} (hA : ∀ q, s.heap.size ≤ q → A q) (hA2 : ∀ q, A q → s.heap.size ≤ q) {x0 : Nat} {tp : Nat} {rd : Nat} {gd : Nat} {im : Nat} {rw : Nat} {gn : Nat} {ho : Nat} {sq : Nat} {pl : Nat} {gdt : Nat} {gdu : Nat} {gdn : Nat} {plf : Nat} {plo : Nat} {plb : Nat} {pla : Nat} {m0 : Nat} {m_width : Nat} {m_many : Nat} {m_cells : Nat} {m_moved : Nat} {m_tape : Nat} {m_lines : Nat} {m_has : Nat} {m_state : Nat} {m_gate : Nat} {m_guest : Nat} {m_gone : Nat} {m_isKept : Nat} {m_first : Nat} {m_second : Nat} {m_far : Nat} {m_wished : Nat} {m_wasState : Nat} {m_isHere : Nat} {m_round : Nat} {m_bestRound : Nat} {m_taken : Nat} {k_lines : ClassId} {k_has : ClassId} (hE0 : Kx s) {dC : Nat → ClassId} {dI : Nat → Nat → Nat} (hK : va_K (dC, dI) vwCl [(k_lines, .int), (k_has, .int)] s) {H : Heap} {locs : List Loc} (hP : va_P (dC, dI) vwCl [(x0, .inr (6, [.ref tp, .int 0, .int 0, .int (-1), .ref rd, .ref gd, .ref im, .ref rw, .ref gn, .ref ho, .ref sq])), (gd, .inr (0, [.ref pl, .int 0, .long 0, .long 0, .int 0, .int (-1), .int 0, .ref gdt, .int 0, .ref gdu, .int 0, .ref gdn])), (pl, .inr (3, [.int 0, .int 0, .int 0, .int 0, .long 0, .ref plf, .ref plo, .ref plb, .ref pla])), (m0, .inr (7, [.int 0, .ref m_width, .ref m_many, .ref m_cells, .ref m_moved, .ref m_tape, .int 0, .int 0, .int 0, .int 0, .int 0, .long 0, .int 0, .int 0, .int 0, .int (-1), .ref m_lines, .ref m_has, .ref m_state, .ref m_gate, .ref m_guest, .ref m_gone, .int 0, .ref m_isKept, .ref m_first, .ref m_second, .int 0, .ref m_far, .ref m_wished, .ref m_wasState, .ref m_isHere, .ref m_round, .ref m_bestRound, .int 0, .int 0, .long 0, .long 0, .ref m_taken, .int 0])), (m_lines, .inl (k_lines, 5, .inl (fun _ => 0))), (m_has, .inl (k_has, 45, .inl (fun _ => 0)))] H) (hD : va_D A [(x0, .inr (6, [.ref tp, .int 0, .int 0, .int (-1), .ref rd, .ref gd, .ref im, .ref rw, .ref gn, .ref ho, .ref sq])), (gd, .inr (0, [.ref pl, .int 0, .long 0, .long 0, .int 0, .int (-1), .int 0, .ref gdt, .int 0, .ref gdu, .int 0, .ref gdn])), (pl, .inr (3, [.int 0, .int 0, .int 0, .int 0, .long 0, .ref plf, .ref plo, .ref plb, .ref pla])), (m0, .inr (7, [.int 0, .ref m_width, .ref m_many, .ref m_cells, .ref m_moved, .ref m_tape, .int 0, .int 0, .int 0, .int 0, .int 0, .long 0, .int 0, .int 0, .int 0, .int (-1), .ref m_lines, .ref m_has, .ref m_state, .ref m_gate, .ref m_guest, .ref m_gone, .int 0, .ref m_isKept, .ref m_first, .ref m_second, .int 0, .ref m_far, .ref m_wished, .ref m_wasState, .ref m_isHere, .ref m_round, .ref m_bestRound, .int 0, .int 0, .long 0, .long 0, .ref m_taken, .int 0])), (m_lines, .inl (k_lines, 5, .inl (fun _ => 0))), (m_has, .inl (k_has, 45, .inl (fun _ => 0)))]) (hS : va_S A s.heap H locs) {ls : Array Slot} (hl : lv_has ls 4 [(3, .int 0), (2, .ref m0), (1, .ref x0), (0, .ref b)]) : W p l e room_1 s m #[Value.ref b] below meth c H locs 70 7203 (lw_Z below #[Value.ref b] s) (F0 m 701 ls []) := by
  obtain ⟨hx, hb, hr, hml, hown, hts, hX, hbl, hlocks, hgv⟩ := id C0
  have hown : s.vm.findClass RL = some m.cls := hown
  have hts := fun w (h : w ∈ wz_law) => hts w (wz_law_in w h)
  have hbA : ¬ A b := fun h => absurd (hA2 b h) (Nat.not_le.mpr hbl)
  obtain ⟨a0, ea0⟩ : ∃ y : Int32, y = xs (0 : Int32).toNatClampNeg := ⟨_, rfl⟩
  obtain ⟨a1, ea1⟩ : ∃ y : Int32, y = xs (1 : Int32).toNatClampNeg := ⟨_, rfl⟩
  obtain ⟨a2, ea2⟩ : ∃ y : Int32, y = xs (2 : Int32).toNatClampNeg := ⟨_, rfl⟩
  obtain ⟨a3, ea3⟩ : ∃ y : Int32, y = xs (3 : Int32).toNatClampNeg := ⟨_, rfl⟩
  obtain ⟨a4, ea4⟩ : ∃ y : Int32, y = xs (4 : Int32).toNatClampNeg := ⟨_, rfl⟩
  obtain ⟨a5, ea5⟩ : ∃ y : Int32, y = xs (5 : Int32).toNatClampNeg := ⟨_, rfl⟩
  refine lv_aload_n hx hb dL_law_701 rfl (lv_at hl 2 rfl) ?_
  have hPc := hP.sub (ws' := [(x0, .inr (6, [.ref tp, .int 0, .int 0, .int (-1), .ref rd, .ref gd, .ref im, .ref rw, .ref gn, .ref ho, .ref sq])), (gd, .inr (0, [.ref pl, .int 0, .long 0, .long 0, .int 0, .int (-1), .int 0, .ref gdt, .int 0, .ref gdu, .int 0, .ref gdn])), (pl, .inr (3, [.int 0, .int 0, .int 0, .int 0, .long 0, .ref plf, .ref plo, .ref plb, .ref pla]))]) [0, 1, 2] rfl
  have hDc := hD.sub (ws' := [(x0, .inr (6, [.ref tp, .int 0, .int 0, .int (-1), .ref rd, .ref gd, .ref im, .ref rw, .ref gn, .ref ho, .ref sq])), (gd, .inr (0, [.ref pl, .int 0, .long 0, .long 0, .int 0, .int (-1), .int 0, .ref gdt, .int 0, .ref gdu, .int 0, .ref gdn])), (pl, .inr (3, [.int 0, .int 0, .int 0, .int 0, .long 0, .ref plf, .ref plo, .ref plb, .ref pla]))]) [0, 1, 2] (by decide) rfl
  have hKc := hK.sub (tys' := []) [] rfl
  have hFc := va_free (wc := [(x0, .inr (6, [.ref tp, .int 0, .int 0, .int (-1), .ref rd, .ref gd, .ref im, .ref rw, .ref gn, .ref ho, .ref sq])), (gd, .inr (0, [.ref pl, .int 0, .long 0, .long 0, .int 0, .int (-1), .int 0, .ref gdt, .int 0, .ref gdu, .int 0, .ref gdn])), (pl, .inr (3, [.int 0, .int 0, .int 0, .int 0, .long 0, .ref plf, .ref plo, .ref plb, .ref pla]))]) hD hS hA [0, 1, 2] rfl
  refine va_calli (va_runV (As := []) (rest := []) ⟨hx, hb, hml, hown, hts⟩ (c_X6_dawn l dC dI H.size x0 tp rd gd im rw gn ho sq pl gdt gdu gdn plf plo plb pla ) (cwV 0 hts g_law_X6_dawn rfl rfl rfl (by decide +kernel) ⟨Nat.le_of_ble_eq_true rfl, Nat.le_of_ble_eq_true rfl⟩) ⟨fun a U g mk q => by obtain ⟨q0, q1, qP, qK, qD⟩ := q; exact ⟨q0, q1, qP, va_K.moved (u := U) (U := U.calling g mk a) (Vm.Alike.refl U.vm) qK, qD⟩, va_recv hKc hPc (ci := 6) (q0 := 0) rfl rfl, fun U hU hW => ⟨rfl, by rw [hU], by rw [hU]; exact hPc, va_K.moved hW.alike hKc, hDc.weaken (fun _ _ _ _ => trivial)⟩⟩ rfl rfl hl.1 rfl (lv_room (Nat.le_of_ble_eq_true rfl)) dL_law_702 ⟨Nat.le_of_ble_eq_true rfl, Nat.le_of_ble_eq_true rfl⟩) hS (fun q _ h => hFc q h) hFc (fun r_1 u t H1 locs ht hvm hw_2 hB hz1 hk1 hS => ?_)
  have hP1 : va_P (dC, dI) vwCl [] H1 := i_nilP
  have hD1 : va_D (va_A [(x0, .inr (6, [.ref tp, .int 0, .int 0, .int (-1), .ref rd, .ref gd, .ref im, .ref rw, .ref gn, .ref ho, .ref sq])), (gd, .inr (0, [.ref pl, .int 0, .long 0, .long 0, .int 0, .int (-1), .int 0, .ref gdt, .int 0, .ref gdu, .int 0, .ref gdn])), (pl, .inr (3, [.int 0, .int 0, .int 0, .int 0, .long 0, .ref plf, .ref plo, .ref plb, .ref pla]))] H.size) [] := i_nilD
  try dsimp only at hw_2
  obtain ⟨hP, hD⟩ := va_join (wr := [(m0, .inr (7, [.int 0, .ref m_width, .ref m_many, .ref m_cells, .ref m_moved, .ref m_tape, .int 0, .int 0, .int 0, .int 0, .int 0, .long 0, .int 0, .int 0, .int 0, .int (-1), .ref m_lines, .ref m_has, .ref m_state, .ref m_gate, .ref m_guest, .ref m_gone, .int 0, .ref m_isKept, .ref m_first, .ref m_second, .int 0, .ref m_far, .ref m_wished, .ref m_wasState, .ref m_isHere, .ref m_round, .ref m_bestRound, .int 0, .int 0, .long 0, .long 0, .ref m_taken, .int 0])), (m_lines, .inl (k_lines, 5, .inl (fun _ => 0))), (m_has, .inl (k_has, 45, .inl (fun _ => 0)))]) (w1 := []) hP hD [0, 1, 2] [3, 4, 5] rfl rfl (by decide) (by decide) hk1 hFc hP1 hD1
  generalize H1 = H at hP hS ⊢
  have hP : va_P (dC, dI) vwCl [(m0, .inr (7, [.int 0, .ref m_width, .ref m_many, .ref m_cells, .ref m_moved, .ref m_tape, .int 0, .int 0, .int 0, .int 0, .int 0, .long 0, .int 0, .int 0, .int 0, .int (-1), .ref m_lines, .ref m_has, .ref m_state, .ref m_gate, .ref m_guest, .ref m_gone, .int 0, .ref m_isKept, .ref m_first, .ref m_second, .int 0, .ref m_far, .ref m_wished, .ref m_wasState, .ref m_isHere, .ref m_round, .ref m_bestRound, .int 0, .int 0, .long 0, .long 0, .ref m_taken, .int 0])), (m_lines, .inl (k_lines, 5, .inl (fun _ => 0))), (m_has, .inl (k_has, 45, .inl (fun _ => 0)))] H := hP
  have hD : va_D A [(m0, .inr (7, [.int 0, .ref m_width, .ref m_many, .ref m_cells, .ref m_moved, .ref m_tape, .int 0, .int 0, .int 0, .int 0, .int 0, .long 0, .int 0, .int 0, .int 0, .int (-1), .ref m_lines, .ref m_has, .ref m_state, .ref m_gate, .ref m_guest, .ref m_gone, .int 0, .ref m_isKept, .ref m_first, .ref m_second, .int 0, .ref m_far, .ref m_wished, .ref m_wasState, .ref m_isHere, .ref m_round, .ref m_bestRound, .int 0, .int 0, .long 0, .long 0, .ref m_taken, .int 0])), (m_lines, .inl (k_lines, 5, .inl (fun _ => 0))), (m_has, .inl (k_has, 45, .inl (fun _ => 0)))] := hD
  obtain rfl : r_1 = -2 := hw_2
  refine lv_aload_n hx hb dL_law_705 rfl (lv_at hl 1 rfl) ?_
  have hPc := hP.sub (ws' := [(m0, .inr (7, [.int 0, .ref m_width, .ref m_many, .ref m_cells, .ref m_moved, .ref m_tape, .int 0, .int 0, .int 0, .int 0, .int 0, .long 0, .int 0, .int 0, .int 0, .int (-1), .ref m_lines, .ref m_has, .ref m_state, .ref m_gate, .ref m_guest, .ref m_gone, .int 0, .ref m_isKept, .ref m_first, .ref m_second, .int 0, .ref m_far, .ref m_wished, .ref m_wasState, .ref m_isHere, .ref m_round, .ref m_bestRound, .int 0, .int 0, .long 0, .long 0, .ref m_taken, .int 0])), (m_lines, .inl (k_lines, 5, .inl (fun _ => 0))), (m_has, .inl (k_has, 45, .inl (fun _ => 0)))]) [0, 1, 2] rfl
  have hDc := hD.sub (ws' := [(m0, .inr (7, [.int 0, .ref m_width, .ref m_many, .ref m_cells, .ref m_moved, .ref m_tape, .int 0, .int 0, .int 0, .int 0, .int 0, .long 0, .int 0, .int 0, .int 0, .int (-1), .ref m_lines, .ref m_has, .ref m_state, .ref m_gate, .ref m_guest, .ref m_gone, .int 0, .ref m_isKept, .ref m_first, .ref m_second, .int 0, .ref m_far, .ref m_wished, .ref m_wasState, .ref m_isHere, .ref m_round, .ref m_bestRound, .int 0, .int 0, .long 0, .long 0, .ref m_taken, .int 0])), (m_lines, .inl (k_lines, 5, .inl (fun _ => 0))), (m_has, .inl (k_has, 45, .inl (fun _ => 0)))]) [0, 1, 2] (by decide) rfl
  have hKc := hK.sub (tys' := [(k_lines, .int), (k_has, .int)]) [0, 1] rfl
  have hFc := va_free (wc := [(m0, .inr (7, [.int 0, .ref m_width, .ref m_many, .ref m_cells, .ref m_moved, .ref m_tape, .int 0, .int 0, .int 0, .int 0, .int 0, .long 0, .int 0, .int 0, .int 0, .int (-1), .ref m_lines, .ref m_has, .ref m_state, .ref m_gate, .ref m_guest, .ref m_gone, .int 0, .ref m_isKept, .ref m_first, .ref m_second, .int 0, .ref m_far, .ref m_wished, .ref m_wasState, .ref m_isHere, .ref m_round, .ref m_bestRound, .int 0, .int 0, .long 0, .long 0, .ref m_taken, .int 0])), (m_lines, .inl (k_lines, 5, .inl (fun _ => 0))), (m_has, .inl (k_has, 45, .inl (fun _ => 0)))]) hD hS hA [0, 1, 2] rfl
  refine va_calli (va_runV (As := []) (rest := [.int (-2)]) ⟨hx, hb, hml, hown, hts⟩ (c_X7_dawn l dC dI H.size m0 m_width m_many m_cells m_moved m_tape m_lines m_has m_state m_gate m_guest m_gone m_isKept m_first m_second m_far m_wished m_wasState m_isHere m_round m_bestRound m_taken k_lines k_has ) (cwV 0 hts g_law_X7_dawn rfl rfl rfl (by decide +kernel) ⟨Nat.le_of_ble_eq_true rfl, Nat.le_of_ble_eq_true rfl⟩) ⟨fun a U g mk q => by obtain ⟨q0, q1, qP, qK, qD⟩ := q; exact ⟨q0, q1, qP, va_K.moved (u := U) (U := U.calling g mk a) (Vm.Alike.refl U.vm) qK, qD⟩, va_recv hKc hPc (ci := 7) (q0 := 0) rfl rfl, fun U hU hW => ⟨rfl, by rw [hU], by rw [hU]; exact hPc, va_K.moved hW.alike hKc, hDc.weaken (fun _ _ _ _ => trivial)⟩⟩ rfl rfl hl.1 rfl (lv_room (Nat.le_of_ble_eq_true rfl)) dL_law_706 ⟨Nat.le_of_ble_eq_true rfl, Nat.le_of_ble_eq_true rfl⟩) hS (fun q _ h => hFc q h) hFc (fun r_3 u t H1 locs ht hvm hw_4 hB hz1 hk1 hS => ?_)
  have hP1 : va_P (dC, dI) vwCl [] H1 := i_nilP
  have hD1 : va_D (va_A [(m0, .inr (7, [.int 0, .ref m_width, .ref m_many, .ref m_cells, .ref m_moved, .ref m_tape, .int 0, .int 0, .int 0, .int 0, .int 0, .long 0, .int 0, .int 0, .int 0, .int (-1), .ref m_lines, .ref m_has, .ref m_state, .ref m_gate, .ref m_guest, .ref m_gone, .int 0, .ref m_isKept, .ref m_first, .ref m_second, .int 0, .ref m_far, .ref m_wished, .ref m_wasState, .ref m_isHere, .ref m_round, .ref m_bestRound, .int 0, .int 0, .long 0, .long 0, .ref m_taken, .int 0])), (m_lines, .inl (k_lines, 5, .inl (fun _ => 0))), (m_has, .inl (k_has, 45, .inl (fun _ => 0)))] H.size) [] := i_nilD
  try dsimp only at hw_4
  obtain ⟨hP, hD⟩ := va_join (wr := []) (w1 := []) hP hD [0, 1, 2] [] rfl rfl (by decide) (by decide) hk1 hFc hP1 hD1
  generalize H1 = H at hP hS ⊢
  have hP : va_P (dC, dI) vwCl [] H := hP
  have hD : va_D A [] := hD
  obtain rfl : r_3 = -2 := hw_4
  refine lv_icmp_eq (tgt := 1569) hx hb dL_law_709 (by decide) (fun _ => ?_) (fun h => absurd (by decide) h)
  refine lv_iinc (v := 6) (lv' := [(3, .int 6), (2, .ref m0), (1, .ref x0), (0, .ref b)]) hx hb dL_law_1569 hl (k := 0) rfl (by decide) (by decide) rfl (fun ls hl => ?_)
  refine lv_goto (tgt := 18) hx hb dL_law_1572 (by decide) ?_
  exact law_exit C0 hA2 hS (lv_sub hl [0, 3] rfl) (by decide) (by omega) (by omega)

set_option maxHeartbeats 4000000 in
set_option maxRecDepth 100000 in
/-- the law, its call 18: gone -/
theorem law_18 {p : Program} {e : Env} {s : State} {m : MethodId} {below : List Frame} {meth : Method} {c : Code} (l : Launch) {b : Nat} {xs : Nat → Int32} (C0 : lw_At p s m meth c b 6 xs) {A : Nat → Prop} (hA : ∀ q, s.heap.size ≤ q → A q) (hA2 : ∀ q, A q → s.heap.size ≤ q) {x0 : Nat} {tp : Nat} {rd : Nat} {gd : Nat} {im : Nat} {rw : Nat} {gn : Nat} {ho : Nat} {sq : Nat} {pl : Nat} {gdt : Nat} {gdu : Nat} {gdn : Nat} {plf : Nat} {plo : Nat} {plb : Nat} {pla : Nat} {m0 : Nat} {m_width : Nat} {m_many : Nat} {m_cells : Nat} {m_moved : Nat} {m_tape : Nat} {m_lines : Nat} {m_has : Nat} {m_state : Nat} {m_gate : Nat} {m_guest : Nat} {m_gone : Nat} {m_isKept : Nat} {m_first : Nat} {m_second : Nat} {m_far : Nat} {m_wished : Nat} {m_wasState : Nat} {m_isHere : Nat} {m_round : Nat} {m_bestRound : Nat} {m_taken : Nat} {k_lines : ClassId} {k_has : ClassId} (hE0 : Kx s) {dC : Nat → ClassId} {dI : Nat → Nat → Nat} (hK : va_K (dC, dI) vwCl [(k_lines, .int), (k_has, .int)] s) {H : Heap} {locs : List Loc} (hP : va_P (dC, dI) vwCl [(x0, .inr (6, [.ref tp, .int 0, .int 0, .int (-1), .ref rd, .ref gd, .ref im, .ref rw, .ref gn, .ref ho, .ref sq])), (gd, .inr (0, [.ref pl, .int 0, .long 0, .long 0, .int 0, .int (-1), .int 0, .ref gdt, .int 0, .ref gdu, .int 0, .ref gdn])), (pl, .inr (3, [.int 0, .int 0, .int 0, .int 0, .long 0, .ref plf, .ref plo, .ref plb, .ref pla])), (m0, .inr (7, [.int 0, .ref m_width, .ref m_many, .ref m_cells, .ref m_moved, .ref m_tape, .int 0, .int 0, .int 0, .int 0, .int 0, .long 0, .int 0, .int 0, .int 0, .int (-1), .ref m_lines, .ref m_has, .ref m_state, .ref m_gate, .ref m_guest, .ref m_gone, .int 0, .ref m_isKept, .ref m_first, .ref m_second, .int 0, .ref m_far, .ref m_wished, .ref m_wasState, .ref m_isHere, .ref m_round, .ref m_bestRound, .int 0, .int 0, .long 0, .long 0, .ref m_taken, .int 0])), (m_lines, .inl (k_lines, 5, .inl (fun _ => 0))), (m_has, .inl (k_has, 45, .inl (fun _ => 0)))] H) (hD : va_D A [(x0, .inr (6, [.ref tp, .int 0, .int 0, .int (-1), .ref rd, .ref gd, .ref im, .ref rw, .ref gn, .ref ho, .ref sq])), (gd, .inr (0, [.ref pl, .int 0, .long 0, .long 0, .int 0, .int (-1), .int 0, .ref gdt, .int 0, .ref gdu, .int 0, .ref gdn])), (pl, .inr (3, [.int 0, .int 0, .int 0, .int 0, .long 0, .ref plf, .ref plo, .ref plb, .ref pla])), (m0, .inr (7, [.int 0, .ref m_width, .ref m_many, .ref m_cells, .ref m_moved, .ref m_tape, .int 0, .int 0, .int 0, .int 0, .int 0, .long 0, .int 0, .int 0, .int 0, .int (-1), .ref m_lines, .ref m_has, .ref m_state, .ref m_gate, .ref m_guest, .ref m_gone, .int 0, .ref m_isKept, .ref m_first, .ref m_second, .int 0, .ref m_far, .ref m_wished, .ref m_wasState, .ref m_isHere, .ref m_round, .ref m_bestRound, .int 0, .int 0, .long 0, .long 0, .ref m_taken, .int 0])), (m_lines, .inl (k_lines, 5, .inl (fun _ => 0))), (m_has, .inl (k_has, 45, .inl (fun _ => 0)))]) (hS : va_S A s.heap H locs) {ls : Array Slot} (hl : lv_has ls 4 [(3, .int 0), (2, .ref m0), (1, .ref x0), (0, .ref b)]) : W p l e room_1 s m #[Value.ref b] below meth c H locs 70 7203 (lw_Z below #[Value.ref b] s) (F0 m 714 ls []) := by
  obtain ⟨hx, hb, hr, hml, hown, hts, hX, hbl, hlocks, hgv⟩ := id C0
  have hown : s.vm.findClass RL = some m.cls := hown
  have hts := fun w (h : w ∈ wz_law) => hts w (wz_law_in w h)
  have hbA : ¬ A b := fun h => absurd (hA2 b h) (Nat.not_le.mpr hbl)
  obtain ⟨a0, ea0⟩ : ∃ y : Int32, y = xs (0 : Int32).toNatClampNeg := ⟨_, rfl⟩
  obtain ⟨a1, ea1⟩ : ∃ y : Int32, y = xs (1 : Int32).toNatClampNeg := ⟨_, rfl⟩
  obtain ⟨a2, ea2⟩ : ∃ y : Int32, y = xs (2 : Int32).toNatClampNeg := ⟨_, rfl⟩
  obtain ⟨a3, ea3⟩ : ∃ y : Int32, y = xs (3 : Int32).toNatClampNeg := ⟨_, rfl⟩
  obtain ⟨a4, ea4⟩ : ∃ y : Int32, y = xs (4 : Int32).toNatClampNeg := ⟨_, rfl⟩
  obtain ⟨a5, ea5⟩ : ∃ y : Int32, y = xs (5 : Int32).toNatClampNeg := ⟨_, rfl⟩
  refine lv_aload_n hx hb dL_law_714 rfl (lv_at hl 2 rfl) ?_
  refine lv_aload_n hx hb dL_law_715 rfl (lv_at hl 3 rfl) ?_
  refine lv_iload_n hx hb dL_law_716 rfl (lv_at hl 0 rfl) ?_
  refine lv_iconst (v := 1) hx hb dL_law_717 (by decide) ?_
  refine lv_iadd hx hb dL_law_718 ?_
  refine lv_topi (fun z_1 ez_1 => ?_)
  obtain rfl : z_1 = 1 := ez_1.trans (by decide)
  refine va_sld hx hb hX hbl hbA hS (vp_in_iff.mpr ⟨by decide, by decide⟩) dL_law_719 ?_
  refine lv_topi (fun z_2 ez_2 => ?_)
  obtain rfl : a1 = z_2 := ea1.trans ez_2.symm
  have hPc := hP.sub (ws' := [(x0, .inr (6, [.ref tp, .int 0, .int 0, .int (-1), .ref rd, .ref gd, .ref im, .ref rw, .ref gn, .ref ho, .ref sq])), (gd, .inr (0, [.ref pl, .int 0, .long 0, .long 0, .int 0, .int (-1), .int 0, .ref gdt, .int 0, .ref gdu, .int 0, .ref gdn])), (pl, .inr (3, [.int 0, .int 0, .int 0, .int 0, .long 0, .ref plf, .ref plo, .ref plb, .ref pla]))]) [0, 1, 2] rfl
  have hDc := hD.sub (ws' := [(x0, .inr (6, [.ref tp, .int 0, .int 0, .int (-1), .ref rd, .ref gd, .ref im, .ref rw, .ref gn, .ref ho, .ref sq])), (gd, .inr (0, [.ref pl, .int 0, .long 0, .long 0, .int 0, .int (-1), .int 0, .ref gdt, .int 0, .ref gdu, .int 0, .ref gdn])), (pl, .inr (3, [.int 0, .int 0, .int 0, .int 0, .long 0, .ref plf, .ref plo, .ref plb, .ref pla]))]) [0, 1, 2] (by decide) rfl
  have hKc := hK.sub (tys' := []) [] rfl
  have hFc := va_free (wc := [(x0, .inr (6, [.ref tp, .int 0, .int 0, .int (-1), .ref rd, .ref gd, .ref im, .ref rw, .ref gn, .ref ho, .ref sq])), (gd, .inr (0, [.ref pl, .int 0, .long 0, .long 0, .int 0, .int (-1), .int 0, .ref gdt, .int 0, .ref gdu, .int 0, .ref gdn])), (pl, .inr (3, [.int 0, .int 0, .int 0, .int 0, .long 0, .ref plf, .ref plo, .ref plb, .ref pla]))]) hD hS hA [0, 1, 2] rfl
  refine va_calli (va_runV (As := [.int a1]) (rest := []) ⟨hx, hb, hml, hown, hts⟩ (c_X6_gone l dC dI H.size x0 tp rd gd im rw gn ho sq pl gdt gdu gdn plf plo plb pla a1 ) (cwV 1 hts g_law_X6_gone rfl rfl rfl (by decide +kernel) ⟨Nat.le_of_ble_eq_true rfl, Nat.le_of_ble_eq_true rfl⟩) ⟨fun a U g mk q => by obtain ⟨q0, q1, qP, qK, qD⟩ := q; exact ⟨q0, q1, qP, va_K.moved (u := U) (U := U.calling g mk a) (Vm.Alike.refl U.vm) qK, qD⟩, va_recv hKc hPc (ci := 6) (q0 := 0) rfl rfl, fun U hU hW => ⟨rfl, by rw [hU], by rw [hU]; exact hPc, va_K.moved hW.alike hKc, hDc.weaken (fun _ _ _ _ => trivial)⟩⟩ rfl rfl hl.1 rfl (lv_room (Nat.le_of_ble_eq_true rfl)) dL_law_720 ⟨Nat.le_of_ble_eq_true rfl, Nat.le_of_ble_eq_true rfl⟩) hS (fun q _ h => hFc q h) hFc (fun r_3 u t H1 locs ht hvm hw_4 hB hz1 hk1 hS => ?_)
  have hP1 : va_P (dC, dI) vwCl [] H1 := i_nilP
  have hD1 : va_D (va_A [(x0, .inr (6, [.ref tp, .int 0, .int 0, .int (-1), .ref rd, .ref gd, .ref im, .ref rw, .ref gn, .ref ho, .ref sq])), (gd, .inr (0, [.ref pl, .int 0, .long 0, .long 0, .int 0, .int (-1), .int 0, .ref gdt, .int 0, .ref gdu, .int 0, .ref gdn])), (pl, .inr (3, [.int 0, .int 0, .int 0, .int 0, .long 0, .ref plf, .ref plo, .ref plb, .ref pla]))] H.size) [] := i_nilD
  try dsimp only at hw_4
  obtain ⟨hP, hD⟩ := va_join (wr := [(m0, .inr (7, [.int 0, .ref m_width, .ref m_many, .ref m_cells, .ref m_moved, .ref m_tape, .int 0, .int 0, .int 0, .int 0, .int 0, .long 0, .int 0, .int 0, .int 0, .int (-1), .ref m_lines, .ref m_has, .ref m_state, .ref m_gate, .ref m_guest, .ref m_gone, .int 0, .ref m_isKept, .ref m_first, .ref m_second, .int 0, .ref m_far, .ref m_wished, .ref m_wasState, .ref m_isHere, .ref m_round, .ref m_bestRound, .int 0, .int 0, .long 0, .long 0, .ref m_taken, .int 0])), (m_lines, .inl (k_lines, 5, .inl (fun _ => 0))), (m_has, .inl (k_has, 45, .inl (fun _ => 0)))]) (w1 := []) hP hD [0, 1, 2] [3, 4, 5] rfl rfl (by decide) (by decide) hk1 hFc hP1 hD1
  generalize H1 = H at hP hS ⊢
  have hP : va_P (dC, dI) vwCl [(m0, .inr (7, [.int 0, .ref m_width, .ref m_many, .ref m_cells, .ref m_moved, .ref m_tape, .int 0, .int 0, .int 0, .int 0, .int 0, .long 0, .int 0, .int 0, .int 0, .int (-1), .ref m_lines, .ref m_has, .ref m_state, .ref m_gate, .ref m_guest, .ref m_gone, .int 0, .ref m_isKept, .ref m_first, .ref m_second, .int 0, .ref m_far, .ref m_wished, .ref m_wasState, .ref m_isHere, .ref m_round, .ref m_bestRound, .int 0, .int 0, .long 0, .long 0, .ref m_taken, .int 0])), (m_lines, .inl (k_lines, 5, .inl (fun _ => 0))), (m_has, .inl (k_has, 45, .inl (fun _ => 0)))] H := hP
  have hD : va_D A [(m0, .inr (7, [.int 0, .ref m_width, .ref m_many, .ref m_cells, .ref m_moved, .ref m_tape, .int 0, .int 0, .int 0, .int 0, .int 0, .long 0, .int 0, .int 0, .int 0, .int (-1), .ref m_lines, .ref m_has, .ref m_state, .ref m_gate, .ref m_guest, .ref m_gone, .int 0, .ref m_isKept, .ref m_first, .ref m_second, .int 0, .ref m_far, .ref m_wished, .ref m_wasState, .ref m_isHere, .ref m_round, .ref m_bestRound, .int 0, .int 0, .long 0, .long 0, .ref m_taken, .int 0])), (m_lines, .inl (k_lines, 5, .inl (fun _ => 0))), (m_has, .inl (k_has, 45, .inl (fun _ => 0)))] := hD
  obtain rfl : r_3 = -2 := hw_4
  refine lv_aload_n hx hb dL_law_723 rfl (lv_at hl 1 rfl) ?_
  refine lv_aload_n hx hb dL_law_724 rfl (lv_at hl 3 rfl) ?_
  refine lv_iload_n hx hb dL_law_725 rfl (lv_at hl 0 rfl) ?_
  refine lv_iconst (v := 1) hx hb dL_law_726 (by decide) ?_
  refine lv_iadd hx hb dL_law_727 ?_
  refine lv_topi (fun z_5 ez_5 => ?_)
  obtain rfl : z_5 = 1 := ez_5.trans (by decide)
  refine va_sld hx hb hX hbl hbA hS (vp_in_iff.mpr ⟨by decide, by decide⟩) dL_law_728 ?_
  refine lv_topi (fun z_6 ez_6 => ?_)
  obtain rfl : a1 = z_6 := ea1.trans ez_6.symm
  have hPc := hP.sub (ws' := [(m0, .inr (7, [.int 0, .ref m_width, .ref m_many, .ref m_cells, .ref m_moved, .ref m_tape, .int 0, .int 0, .int 0, .int 0, .int 0, .long 0, .int 0, .int 0, .int 0, .int (-1), .ref m_lines, .ref m_has, .ref m_state, .ref m_gate, .ref m_guest, .ref m_gone, .int 0, .ref m_isKept, .ref m_first, .ref m_second, .int 0, .ref m_far, .ref m_wished, .ref m_wasState, .ref m_isHere, .ref m_round, .ref m_bestRound, .int 0, .int 0, .long 0, .long 0, .ref m_taken, .int 0])), (m_lines, .inl (k_lines, 5, .inl (fun _ => 0))), (m_has, .inl (k_has, 45, .inl (fun _ => 0)))]) [0, 1, 2] rfl
  have hDc := hD.sub (ws' := [(m0, .inr (7, [.int 0, .ref m_width, .ref m_many, .ref m_cells, .ref m_moved, .ref m_tape, .int 0, .int 0, .int 0, .int 0, .int 0, .long 0, .int 0, .int 0, .int 0, .int (-1), .ref m_lines, .ref m_has, .ref m_state, .ref m_gate, .ref m_guest, .ref m_gone, .int 0, .ref m_isKept, .ref m_first, .ref m_second, .int 0, .ref m_far, .ref m_wished, .ref m_wasState, .ref m_isHere, .ref m_round, .ref m_bestRound, .int 0, .int 0, .long 0, .long 0, .ref m_taken, .int 0])), (m_lines, .inl (k_lines, 5, .inl (fun _ => 0))), (m_has, .inl (k_has, 45, .inl (fun _ => 0)))]) [0, 1, 2] (by decide) rfl
  have hKc := hK.sub (tys' := [(k_lines, .int), (k_has, .int)]) [0, 1] rfl
  have hFc := va_free (wc := [(m0, .inr (7, [.int 0, .ref m_width, .ref m_many, .ref m_cells, .ref m_moved, .ref m_tape, .int 0, .int 0, .int 0, .int 0, .int 0, .long 0, .int 0, .int 0, .int 0, .int (-1), .ref m_lines, .ref m_has, .ref m_state, .ref m_gate, .ref m_guest, .ref m_gone, .int 0, .ref m_isKept, .ref m_first, .ref m_second, .int 0, .ref m_far, .ref m_wished, .ref m_wasState, .ref m_isHere, .ref m_round, .ref m_bestRound, .int 0, .int 0, .long 0, .long 0, .ref m_taken, .int 0])), (m_lines, .inl (k_lines, 5, .inl (fun _ => 0))), (m_has, .inl (k_has, 45, .inl (fun _ => 0)))]) hD hS hA [0, 1, 2] rfl
  refine va_calli (va_runV (As := [.int a1]) (rest := [.int (-2)]) ⟨hx, hb, hml, hown, hts⟩ (c_X7_gone l dC dI H.size m0 m_width m_many m_cells m_moved m_tape m_lines m_has m_state m_gate m_guest m_gone m_isKept m_first m_second m_far m_wished m_wasState m_isHere m_round m_bestRound m_taken k_lines k_has a1 ) (cwV 1 hts g_law_X7_gone rfl rfl rfl (by decide +kernel) ⟨Nat.le_of_ble_eq_true rfl, Nat.le_of_ble_eq_true rfl⟩) ⟨fun a U g mk q => by obtain ⟨q0, q1, qP, qK, qD⟩ := q; exact ⟨q0, q1, qP, va_K.moved (u := U) (U := U.calling g mk a) (Vm.Alike.refl U.vm) qK, qD⟩, va_recv hKc hPc (ci := 7) (q0 := 0) rfl rfl, fun U hU hW => ⟨rfl, by rw [hU], by rw [hU]; exact hPc, va_K.moved hW.alike hKc, hDc.weaken (fun _ _ _ _ => trivial)⟩⟩ rfl rfl hl.1 rfl (lv_room (Nat.le_of_ble_eq_true rfl)) dL_law_729 ⟨Nat.le_of_ble_eq_true rfl, Nat.le_of_ble_eq_true rfl⟩) hS (fun q _ h => hFc q h) hFc (fun r_7 u t H1 locs ht hvm hw_8 hB hz1 hk1 hS => ?_)
  have hP1 : va_P (dC, dI) vwCl [] H1 := i_nilP
  have hD1 : va_D (va_A [(m0, .inr (7, [.int 0, .ref m_width, .ref m_many, .ref m_cells, .ref m_moved, .ref m_tape, .int 0, .int 0, .int 0, .int 0, .int 0, .long 0, .int 0, .int 0, .int 0, .int (-1), .ref m_lines, .ref m_has, .ref m_state, .ref m_gate, .ref m_guest, .ref m_gone, .int 0, .ref m_isKept, .ref m_first, .ref m_second, .int 0, .ref m_far, .ref m_wished, .ref m_wasState, .ref m_isHere, .ref m_round, .ref m_bestRound, .int 0, .int 0, .long 0, .long 0, .ref m_taken, .int 0])), (m_lines, .inl (k_lines, 5, .inl (fun _ => 0))), (m_has, .inl (k_has, 45, .inl (fun _ => 0)))] H.size) [] := i_nilD
  try dsimp only at hw_8
  obtain ⟨hP, hD⟩ := va_join (wr := []) (w1 := []) hP hD [0, 1, 2] [] rfl rfl (by decide) (by decide) hk1 hFc hP1 hD1
  generalize H1 = H at hP hS ⊢
  have hP : va_P (dC, dI) vwCl [] H := hP
  have hD : va_D A [] := hD
  obtain rfl : r_7 = -2 := hw_8
  refine lv_icmp_eq (tgt := 1569) hx hb dL_law_732 (by decide) (fun _ => ?_) (fun h => absurd (by decide) h)
  refine lv_iinc (v := 6) (lv' := [(3, .int 6), (2, .ref m0), (1, .ref x0), (0, .ref b)]) hx hb dL_law_1569 hl (k := 0) rfl (by decide) (by decide) rfl (fun ls hl => ?_)
  refine lv_goto (tgt := 18) hx hb dL_law_1572 (by decide) ?_
  exact law_exit C0 hA2 hS (lv_sub hl [0, 3] rfl) (by decide) (by omega) (by omega)

set_option maxHeartbeats 4000000 in
set_option maxRecDepth 100000 in
/-- the law, its call 19: may -/
theorem law_19 {p : Program} {e : Env} {s : State} {m : MethodId} {below : List Frame} {meth : Method} {c : Code} (l : Launch) {b : Nat} {xs : Nat → Int32} (C0 : lw_At p s m meth c b 6 xs) {A : Nat → Prop} (hA : ∀ q, s.heap.size ≤ q → A q) (hA2 : ∀ q, A q → s.heap.size ≤ q) {x0 : Nat} {tp : Nat} {rd : Nat} {gd : Nat} {im : Nat} {rw : Nat} {gn : Nat} {ho : Nat} {sq : Nat} {pl : Nat} {gdt : Nat} {gdu : Nat} {gdn : Nat} {plf : Nat} {plo : Nat} {plb : Nat} {pla : Nat} {m0 : Nat} {m_width : Nat} {m_many : Nat} {m_cells : Nat} {m_moved : Nat} {m_tape : Nat} {m_lines : Nat} {m_has : Nat} {m_state : Nat} {m_gate : Nat} {m_guest : Nat} {m_gone : Nat} {m_isKept : Nat} {m_first : Nat} {m_second : Nat} {m_far : Nat} {m_wished : Nat} {m_wasState : Nat} {m_isHere : Nat} {m_round : Nat} {m_bestRound : Nat} {m_taken : Nat} {k_lines : ClassId} {k_has : ClassId} (hE0 : Kx s) {dC : Nat → ClassId} {dI : Nat → Nat → Nat} (hK : va_K (dC, dI) vwCl [(k_lines, .int), (k_has, .int)] s) {H : Heap} {locs : List Loc} (hP : va_P (dC, dI) vwCl [(x0, .inr (6, [.ref tp, .int 0, .int 0, .int (-1), .ref rd, .ref gd, .ref im, .ref rw, .ref gn, .ref ho, .ref sq])), (gd, .inr (0, [.ref pl, .int 0, .long 0, .long 0, .int 0, .int (-1), .int 0, .ref gdt, .int 0, .ref gdu, .int 0, .ref gdn])), (pl, .inr (3, [.int 0, .int 0, .int 0, .int 0, .long 0, .ref plf, .ref plo, .ref plb, .ref pla])), (m0, .inr (7, [.int 0, .ref m_width, .ref m_many, .ref m_cells, .ref m_moved, .ref m_tape, .int 0, .int 0, .int 0, .int 0, .int 0, .long 0, .int 0, .int 0, .int 0, .int (-1), .ref m_lines, .ref m_has, .ref m_state, .ref m_gate, .ref m_guest, .ref m_gone, .int 0, .ref m_isKept, .ref m_first, .ref m_second, .int 0, .ref m_far, .ref m_wished, .ref m_wasState, .ref m_isHere, .ref m_round, .ref m_bestRound, .int 0, .int 0, .long 0, .long 0, .ref m_taken, .int 0])), (m_lines, .inl (k_lines, 5, .inl (fun _ => 0))), (m_has, .inl (k_has, 45, .inl (fun _ => 0)))] H) (hD : va_D A [(x0, .inr (6, [.ref tp, .int 0, .int 0, .int (-1), .ref rd, .ref gd, .ref im, .ref rw, .ref gn, .ref ho, .ref sq])), (gd, .inr (0, [.ref pl, .int 0, .long 0, .long 0, .int 0, .int (-1), .int 0, .ref gdt, .int 0, .ref gdu, .int 0, .ref gdn])), (pl, .inr (3, [.int 0, .int 0, .int 0, .int 0, .long 0, .ref plf, .ref plo, .ref plb, .ref pla])), (m0, .inr (7, [.int 0, .ref m_width, .ref m_many, .ref m_cells, .ref m_moved, .ref m_tape, .int 0, .int 0, .int 0, .int 0, .int 0, .long 0, .int 0, .int 0, .int 0, .int (-1), .ref m_lines, .ref m_has, .ref m_state, .ref m_gate, .ref m_guest, .ref m_gone, .int 0, .ref m_isKept, .ref m_first, .ref m_second, .int 0, .ref m_far, .ref m_wished, .ref m_wasState, .ref m_isHere, .ref m_round, .ref m_bestRound, .int 0, .int 0, .long 0, .long 0, .ref m_taken, .int 0])), (m_lines, .inl (k_lines, 5, .inl (fun _ => 0))), (m_has, .inl (k_has, 45, .inl (fun _ => 0)))]) (hS : va_S A s.heap H locs) {ls : Array Slot} (hl : lv_has ls 4 [(3, .int 0), (2, .ref m0), (1, .ref x0), (0, .ref b)]) : W p l e room_1 s m #[Value.ref b] below meth c H locs 70 7203 (lw_Z below #[Value.ref b] s) (F0 m 737 ls []) := by
  obtain ⟨hx, hb, hr, hml, hown, hts, hX, hbl, hlocks, hgv⟩ := id C0
  have hown : s.vm.findClass RL = some m.cls := hown
  have hts := fun w (h : w ∈ wz_law) => hts w (wz_law_in w h)
  have hbA : ¬ A b := fun h => absurd (hA2 b h) (Nat.not_le.mpr hbl)
  obtain ⟨a0, ea0⟩ : ∃ y : Int32, y = xs (0 : Int32).toNatClampNeg := ⟨_, rfl⟩
  obtain ⟨a1, ea1⟩ : ∃ y : Int32, y = xs (1 : Int32).toNatClampNeg := ⟨_, rfl⟩
  obtain ⟨a2, ea2⟩ : ∃ y : Int32, y = xs (2 : Int32).toNatClampNeg := ⟨_, rfl⟩
  obtain ⟨a3, ea3⟩ : ∃ y : Int32, y = xs (3 : Int32).toNatClampNeg := ⟨_, rfl⟩
  obtain ⟨a4, ea4⟩ : ∃ y : Int32, y = xs (4 : Int32).toNatClampNeg := ⟨_, rfl⟩
  obtain ⟨a5, ea5⟩ : ∃ y : Int32, y = xs (5 : Int32).toNatClampNeg := ⟨_, rfl⟩
  refine lv_aload_n hx hb dL_law_737 rfl (lv_at hl 2 rfl) ?_
  refine lv_aload_n hx hb dL_law_738 rfl (lv_at hl 3 rfl) ?_
  refine lv_iload_n hx hb dL_law_739 rfl (lv_at hl 0 rfl) ?_
  refine lv_iconst (v := 1) hx hb dL_law_740 (by decide) ?_
  refine lv_iadd hx hb dL_law_741 ?_
  refine lv_topi (fun z_1 ez_1 => ?_)
  obtain rfl : z_1 = 1 := ez_1.trans (by decide)
  refine va_sld hx hb hX hbl hbA hS (vp_in_iff.mpr ⟨by decide, by decide⟩) dL_law_742 ?_
  refine lv_topi (fun z_2 ez_2 => ?_)
  obtain rfl : a1 = z_2 := ea1.trans ez_2.symm
  refine lv_aload_n hx hb dL_law_743 rfl (lv_at hl 3 rfl) ?_
  refine lv_iload_n hx hb dL_law_744 rfl (lv_at hl 0 rfl) ?_
  refine lv_iconst (v := 2) hx hb dL_law_745 (by decide) ?_
  refine lv_iadd hx hb dL_law_746 ?_
  refine lv_topi (fun z_3 ez_3 => ?_)
  obtain rfl : z_3 = 2 := ez_3.trans (by decide)
  refine va_sld hx hb hX hbl hbA hS (vp_in_iff.mpr ⟨by decide, by decide⟩) dL_law_747 ?_
  refine lv_topi (fun z_4 ez_4 => ?_)
  obtain rfl : a2 = z_4 := ea2.trans ez_4.symm
  have hPc := hP.sub (ws' := [(x0, .inr (6, [.ref tp, .int 0, .int 0, .int (-1), .ref rd, .ref gd, .ref im, .ref rw, .ref gn, .ref ho, .ref sq])), (gd, .inr (0, [.ref pl, .int 0, .long 0, .long 0, .int 0, .int (-1), .int 0, .ref gdt, .int 0, .ref gdu, .int 0, .ref gdn])), (pl, .inr (3, [.int 0, .int 0, .int 0, .int 0, .long 0, .ref plf, .ref plo, .ref plb, .ref pla]))]) [0, 1, 2] rfl
  have hDc := hD.sub (ws' := [(x0, .inr (6, [.ref tp, .int 0, .int 0, .int (-1), .ref rd, .ref gd, .ref im, .ref rw, .ref gn, .ref ho, .ref sq])), (gd, .inr (0, [.ref pl, .int 0, .long 0, .long 0, .int 0, .int (-1), .int 0, .ref gdt, .int 0, .ref gdu, .int 0, .ref gdn])), (pl, .inr (3, [.int 0, .int 0, .int 0, .int 0, .long 0, .ref plf, .ref plo, .ref plb, .ref pla]))]) [0, 1, 2] (by decide) rfl
  have hKc := hK.sub (tys' := []) [] rfl
  have hFc := va_free (wc := [(x0, .inr (6, [.ref tp, .int 0, .int 0, .int (-1), .ref rd, .ref gd, .ref im, .ref rw, .ref gn, .ref ho, .ref sq])), (gd, .inr (0, [.ref pl, .int 0, .long 0, .long 0, .int 0, .int (-1), .int 0, .ref gdt, .int 0, .ref gdu, .int 0, .ref gdn])), (pl, .inr (3, [.int 0, .int 0, .int 0, .int 0, .long 0, .ref plf, .ref plo, .ref plb, .ref pla]))]) hD hS hA [0, 1, 2] rfl
  refine va_calli (va_runV (As := [.int a1, .int a2]) (rest := []) ⟨hx, hb, hml, hown, hts⟩ (c_X6_may l dC dI H.size x0 tp rd gd im rw gn ho sq pl gdt gdu gdn plf plo plb pla a1 a2 ) (cwV 2 hts g_law_X6_may rfl rfl rfl (by decide +kernel) ⟨Nat.le_of_ble_eq_true rfl, Nat.le_of_ble_eq_true rfl⟩) ⟨fun a U g mk q => by obtain ⟨q0, q1, qP, qK, qD⟩ := q; exact ⟨q0, q1, qP, va_K.moved (u := U) (U := U.calling g mk a) (Vm.Alike.refl U.vm) qK, qD⟩, va_recv hKc hPc (ci := 6) (q0 := 0) rfl rfl, fun U hU hW => ⟨rfl, by rw [hU], by rw [hU]; exact hPc, va_K.moved hW.alike hKc, hDc.weaken (fun _ _ _ _ => trivial)⟩⟩ rfl rfl hl.1 rfl (lv_room (Nat.le_of_ble_eq_true rfl)) dL_law_748 ⟨Nat.le_of_ble_eq_true rfl, Nat.le_of_ble_eq_true rfl⟩) hS (fun q _ h => hFc q h) hFc (fun r_5 u t H1 locs ht hvm hw_6 hB hz1 hk1 hS => ?_)
  have hP1 : va_P (dC, dI) vwCl [] H1 := i_nilP
  have hD1 : va_D (va_A [(x0, .inr (6, [.ref tp, .int 0, .int 0, .int (-1), .ref rd, .ref gd, .ref im, .ref rw, .ref gn, .ref ho, .ref sq])), (gd, .inr (0, [.ref pl, .int 0, .long 0, .long 0, .int 0, .int (-1), .int 0, .ref gdt, .int 0, .ref gdu, .int 0, .ref gdn])), (pl, .inr (3, [.int 0, .int 0, .int 0, .int 0, .long 0, .ref plf, .ref plo, .ref plb, .ref pla]))] H.size) [] := i_nilD
  try dsimp only at hw_6
  obtain ⟨hP, hD⟩ := va_join (wr := [(m0, .inr (7, [.int 0, .ref m_width, .ref m_many, .ref m_cells, .ref m_moved, .ref m_tape, .int 0, .int 0, .int 0, .int 0, .int 0, .long 0, .int 0, .int 0, .int 0, .int (-1), .ref m_lines, .ref m_has, .ref m_state, .ref m_gate, .ref m_guest, .ref m_gone, .int 0, .ref m_isKept, .ref m_first, .ref m_second, .int 0, .ref m_far, .ref m_wished, .ref m_wasState, .ref m_isHere, .ref m_round, .ref m_bestRound, .int 0, .int 0, .long 0, .long 0, .ref m_taken, .int 0])), (m_lines, .inl (k_lines, 5, .inl (fun _ => 0))), (m_has, .inl (k_has, 45, .inl (fun _ => 0)))]) (w1 := []) hP hD [0, 1, 2] [3, 4, 5] rfl rfl (by decide) (by decide) hk1 hFc hP1 hD1
  generalize H1 = H at hP hS ⊢
  have hP : va_P (dC, dI) vwCl [(m0, .inr (7, [.int 0, .ref m_width, .ref m_many, .ref m_cells, .ref m_moved, .ref m_tape, .int 0, .int 0, .int 0, .int 0, .int 0, .long 0, .int 0, .int 0, .int 0, .int (-1), .ref m_lines, .ref m_has, .ref m_state, .ref m_gate, .ref m_guest, .ref m_gone, .int 0, .ref m_isKept, .ref m_first, .ref m_second, .int 0, .ref m_far, .ref m_wished, .ref m_wasState, .ref m_isHere, .ref m_round, .ref m_bestRound, .int 0, .int 0, .long 0, .long 0, .ref m_taken, .int 0])), (m_lines, .inl (k_lines, 5, .inl (fun _ => 0))), (m_has, .inl (k_has, 45, .inl (fun _ => 0)))] H := hP
  have hD : va_D A [(m0, .inr (7, [.int 0, .ref m_width, .ref m_many, .ref m_cells, .ref m_moved, .ref m_tape, .int 0, .int 0, .int 0, .int 0, .int 0, .long 0, .int 0, .int 0, .int 0, .int (-1), .ref m_lines, .ref m_has, .ref m_state, .ref m_gate, .ref m_guest, .ref m_gone, .int 0, .ref m_isKept, .ref m_first, .ref m_second, .int 0, .ref m_far, .ref m_wished, .ref m_wasState, .ref m_isHere, .ref m_round, .ref m_bestRound, .int 0, .int 0, .long 0, .long 0, .ref m_taken, .int 0])), (m_lines, .inl (k_lines, 5, .inl (fun _ => 0))), (m_has, .inl (k_has, 45, .inl (fun _ => 0)))] := hD
  obtain rfl : r_5 = -2 := hw_6
  refine lv_aload_n hx hb dL_law_751 rfl (lv_at hl 1 rfl) ?_
  refine lv_aload_n hx hb dL_law_752 rfl (lv_at hl 3 rfl) ?_
  refine lv_iload_n hx hb dL_law_753 rfl (lv_at hl 0 rfl) ?_
  refine lv_iconst (v := 1) hx hb dL_law_754 (by decide) ?_
  refine lv_iadd hx hb dL_law_755 ?_
  refine lv_topi (fun z_7 ez_7 => ?_)
  obtain rfl : z_7 = 1 := ez_7.trans (by decide)
  refine va_sld hx hb hX hbl hbA hS (vp_in_iff.mpr ⟨by decide, by decide⟩) dL_law_756 ?_
  refine lv_topi (fun z_8 ez_8 => ?_)
  obtain rfl : a1 = z_8 := ea1.trans ez_8.symm
  refine lv_aload_n hx hb dL_law_757 rfl (lv_at hl 3 rfl) ?_
  refine lv_iload_n hx hb dL_law_758 rfl (lv_at hl 0 rfl) ?_
  refine lv_iconst (v := 2) hx hb dL_law_759 (by decide) ?_
  refine lv_iadd hx hb dL_law_760 ?_
  refine lv_topi (fun z_9 ez_9 => ?_)
  obtain rfl : z_9 = 2 := ez_9.trans (by decide)
  refine va_sld hx hb hX hbl hbA hS (vp_in_iff.mpr ⟨by decide, by decide⟩) dL_law_761 ?_
  refine lv_topi (fun z_10 ez_10 => ?_)
  obtain rfl : a2 = z_10 := ea2.trans ez_10.symm
  have hPc := hP.sub (ws' := [(m0, .inr (7, [.int 0, .ref m_width, .ref m_many, .ref m_cells, .ref m_moved, .ref m_tape, .int 0, .int 0, .int 0, .int 0, .int 0, .long 0, .int 0, .int 0, .int 0, .int (-1), .ref m_lines, .ref m_has, .ref m_state, .ref m_gate, .ref m_guest, .ref m_gone, .int 0, .ref m_isKept, .ref m_first, .ref m_second, .int 0, .ref m_far, .ref m_wished, .ref m_wasState, .ref m_isHere, .ref m_round, .ref m_bestRound, .int 0, .int 0, .long 0, .long 0, .ref m_taken, .int 0])), (m_lines, .inl (k_lines, 5, .inl (fun _ => 0))), (m_has, .inl (k_has, 45, .inl (fun _ => 0)))]) [0, 1, 2] rfl
  have hDc := hD.sub (ws' := [(m0, .inr (7, [.int 0, .ref m_width, .ref m_many, .ref m_cells, .ref m_moved, .ref m_tape, .int 0, .int 0, .int 0, .int 0, .int 0, .long 0, .int 0, .int 0, .int 0, .int (-1), .ref m_lines, .ref m_has, .ref m_state, .ref m_gate, .ref m_guest, .ref m_gone, .int 0, .ref m_isKept, .ref m_first, .ref m_second, .int 0, .ref m_far, .ref m_wished, .ref m_wasState, .ref m_isHere, .ref m_round, .ref m_bestRound, .int 0, .int 0, .long 0, .long 0, .ref m_taken, .int 0])), (m_lines, .inl (k_lines, 5, .inl (fun _ => 0))), (m_has, .inl (k_has, 45, .inl (fun _ => 0)))]) [0, 1, 2] (by decide) rfl
  have hKc := hK.sub (tys' := [(k_lines, .int), (k_has, .int)]) [0, 1] rfl
  have hFc := va_free (wc := [(m0, .inr (7, [.int 0, .ref m_width, .ref m_many, .ref m_cells, .ref m_moved, .ref m_tape, .int 0, .int 0, .int 0, .int 0, .int 0, .long 0, .int 0, .int 0, .int 0, .int (-1), .ref m_lines, .ref m_has, .ref m_state, .ref m_gate, .ref m_guest, .ref m_gone, .int 0, .ref m_isKept, .ref m_first, .ref m_second, .int 0, .ref m_far, .ref m_wished, .ref m_wasState, .ref m_isHere, .ref m_round, .ref m_bestRound, .int 0, .int 0, .long 0, .long 0, .ref m_taken, .int 0])), (m_lines, .inl (k_lines, 5, .inl (fun _ => 0))), (m_has, .inl (k_has, 45, .inl (fun _ => 0)))]) hD hS hA [0, 1, 2] rfl
  refine va_calli (va_runV (As := [.int a1, .int a2]) (rest := [.int (-2)]) ⟨hx, hb, hml, hown, hts⟩ (c_X7_may l dC dI H.size m0 m_width m_many m_cells m_moved m_tape m_lines m_has m_state m_gate m_guest m_gone m_isKept m_first m_second m_far m_wished m_wasState m_isHere m_round m_bestRound m_taken k_lines k_has a1 a2 ) (cwV 2 hts g_law_X7_may rfl rfl rfl (by decide +kernel) ⟨Nat.le_of_ble_eq_true rfl, Nat.le_of_ble_eq_true rfl⟩) ⟨fun a U g mk q => by obtain ⟨q0, q1, qP, qK, qD⟩ := q; exact ⟨q0, q1, qP, va_K.moved (u := U) (U := U.calling g mk a) (Vm.Alike.refl U.vm) qK, qD⟩, va_recv hKc hPc (ci := 7) (q0 := 0) rfl rfl, fun U hU hW => ⟨rfl, by rw [hU], by rw [hU]; exact hPc, va_K.moved hW.alike hKc, hDc.weaken (fun _ _ _ _ => trivial)⟩⟩ rfl rfl hl.1 rfl (lv_room (Nat.le_of_ble_eq_true rfl)) dL_law_762 ⟨Nat.le_of_ble_eq_true rfl, Nat.le_of_ble_eq_true rfl⟩) hS (fun q _ h => hFc q h) hFc (fun r_11 u t H1 locs ht hvm hw_12 hB hz1 hk1 hS => ?_)
  have hP1 : va_P (dC, dI) vwCl [] H1 := i_nilP
  have hD1 : va_D (va_A [(m0, .inr (7, [.int 0, .ref m_width, .ref m_many, .ref m_cells, .ref m_moved, .ref m_tape, .int 0, .int 0, .int 0, .int 0, .int 0, .long 0, .int 0, .int 0, .int 0, .int (-1), .ref m_lines, .ref m_has, .ref m_state, .ref m_gate, .ref m_guest, .ref m_gone, .int 0, .ref m_isKept, .ref m_first, .ref m_second, .int 0, .ref m_far, .ref m_wished, .ref m_wasState, .ref m_isHere, .ref m_round, .ref m_bestRound, .int 0, .int 0, .long 0, .long 0, .ref m_taken, .int 0])), (m_lines, .inl (k_lines, 5, .inl (fun _ => 0))), (m_has, .inl (k_has, 45, .inl (fun _ => 0)))] H.size) [] := i_nilD
  try dsimp only at hw_12
  obtain ⟨hP, hD⟩ := va_join (wr := []) (w1 := []) hP hD [0, 1, 2] [] rfl rfl (by decide) (by decide) hk1 hFc hP1 hD1
  generalize H1 = H at hP hS ⊢
  have hP : va_P (dC, dI) vwCl [] H := hP
  have hD : va_D A [] := hD
  obtain rfl : r_11 = -2 := hw_12
  refine lv_icmp_eq (tgt := 1569) hx hb dL_law_765 (by decide) (fun _ => ?_) (fun h => absurd (by decide) h)
  refine lv_iinc (v := 6) (lv' := [(3, .int 6), (2, .ref m0), (1, .ref x0), (0, .ref b)]) hx hb dL_law_1569 hl (k := 0) rfl (by decide) (by decide) rfl (fun ls hl => ?_)
  refine lv_goto (tgt := 18) hx hb dL_law_1572 (by decide) ?_
  exact law_exit C0 hA2 hS (lv_sub hl [0, 3] rfl) (by decide) (by omega) (by omega)

set_option maxHeartbeats 4000000 in
set_option maxRecDepth 100000 in
/-- the law, its call 20: nights -/
theorem law_20 {p : Program} {e : Env} {s : State} {m : MethodId} {below : List Frame} {meth : Method} {c : Code} (l : Launch) {b : Nat} {xs : Nat → Int32} (C0 : lw_At p s m meth c b 6 xs) {A : Nat → Prop} (hA : ∀ q, s.heap.size ≤ q → A q) (hA2 : ∀ q, A q → s.heap.size ≤ q) {x0 : Nat} {tp : Nat} {rd : Nat} {gd : Nat} {im : Nat} {rw : Nat} {gn : Nat} {ho : Nat} {sq : Nat} {pl : Nat} {gdt : Nat} {gdu : Nat} {gdn : Nat} {plf : Nat} {plo : Nat} {plb : Nat} {pla : Nat} {m0 : Nat} {m_width : Nat} {m_many : Nat} {m_cells : Nat} {m_moved : Nat} {m_tape : Nat} {m_lines : Nat} {m_has : Nat} {m_state : Nat} {m_gate : Nat} {m_guest : Nat} {m_gone : Nat} {m_isKept : Nat} {m_first : Nat} {m_second : Nat} {m_far : Nat} {m_wished : Nat} {m_wasState : Nat} {m_isHere : Nat} {m_round : Nat} {m_bestRound : Nat} {m_taken : Nat} {k_lines : ClassId} {k_has : ClassId} (hE0 : Kx s) {dC : Nat → ClassId} {dI : Nat → Nat → Nat} (hK : va_K (dC, dI) vwCl [(k_lines, .int), (k_has, .int)] s) {H : Heap} {locs : List Loc} (hP : va_P (dC, dI) vwCl [(x0, .inr (6, [.ref tp, .int 0, .int 0, .int (-1), .ref rd, .ref gd, .ref im, .ref rw, .ref gn, .ref ho, .ref sq])), (gd, .inr (0, [.ref pl, .int 0, .long 0, .long 0, .int 0, .int (-1), .int 0, .ref gdt, .int 0, .ref gdu, .int 0, .ref gdn])), (pl, .inr (3, [.int 0, .int 0, .int 0, .int 0, .long 0, .ref plf, .ref plo, .ref plb, .ref pla])), (m0, .inr (7, [.int 0, .ref m_width, .ref m_many, .ref m_cells, .ref m_moved, .ref m_tape, .int 0, .int 0, .int 0, .int 0, .int 0, .long 0, .int 0, .int 0, .int 0, .int (-1), .ref m_lines, .ref m_has, .ref m_state, .ref m_gate, .ref m_guest, .ref m_gone, .int 0, .ref m_isKept, .ref m_first, .ref m_second, .int 0, .ref m_far, .ref m_wished, .ref m_wasState, .ref m_isHere, .ref m_round, .ref m_bestRound, .int 0, .int 0, .long 0, .long 0, .ref m_taken, .int 0])), (m_lines, .inl (k_lines, 5, .inl (fun _ => 0))), (m_has, .inl (k_has, 45, .inl (fun _ => 0)))] H) (hD : va_D A [(x0, .inr (6, [.ref tp, .int 0, .int 0, .int (-1), .ref rd, .ref gd, .ref im, .ref rw, .ref gn, .ref ho, .ref sq])), (gd, .inr (0, [.ref pl, .int 0, .long 0, .long 0, .int 0, .int (-1), .int 0, .ref gdt, .int 0, .ref gdu, .int 0, .ref gdn])), (pl, .inr (3, [.int 0, .int 0, .int 0, .int 0, .long 0, .ref plf, .ref plo, .ref plb, .ref pla])), (m0, .inr (7, [.int 0, .ref m_width, .ref m_many, .ref m_cells, .ref m_moved, .ref m_tape, .int 0, .int 0, .int 0, .int 0, .int 0, .long 0, .int 0, .int 0, .int 0, .int (-1), .ref m_lines, .ref m_has, .ref m_state, .ref m_gate, .ref m_guest, .ref m_gone, .int 0, .ref m_isKept, .ref m_first, .ref m_second, .int 0, .ref m_far, .ref m_wished, .ref m_wasState, .ref m_isHere, .ref m_round, .ref m_bestRound, .int 0, .int 0, .long 0, .long 0, .ref m_taken, .int 0])), (m_lines, .inl (k_lines, 5, .inl (fun _ => 0))), (m_has, .inl (k_has, 45, .inl (fun _ => 0)))]) (hS : va_S A s.heap H locs) {ls : Array Slot} (hl : lv_has ls 4 [(3, .int 0), (2, .ref m0), (1, .ref x0), (0, .ref b)]) : W p l e room_1 s m #[Value.ref b] below meth c H locs 70 7203 (lw_Z below #[Value.ref b] s) (F0 m 770 ls []) := by
  obtain ⟨hx, hb, hr, hml, hown, hts, hX, hbl, hlocks, hgv⟩ := id C0
  have hown : s.vm.findClass RL = some m.cls := hown
  have hts := fun w (h : w ∈ wz_law) => hts w (wz_law_in w h)
  have hbA : ¬ A b := fun h => absurd (hA2 b h) (Nat.not_le.mpr hbl)
  obtain ⟨a0, ea0⟩ : ∃ y : Int32, y = xs (0 : Int32).toNatClampNeg := ⟨_, rfl⟩
  obtain ⟨a1, ea1⟩ : ∃ y : Int32, y = xs (1 : Int32).toNatClampNeg := ⟨_, rfl⟩
  obtain ⟨a2, ea2⟩ : ∃ y : Int32, y = xs (2 : Int32).toNatClampNeg := ⟨_, rfl⟩
  obtain ⟨a3, ea3⟩ : ∃ y : Int32, y = xs (3 : Int32).toNatClampNeg := ⟨_, rfl⟩
  obtain ⟨a4, ea4⟩ : ∃ y : Int32, y = xs (4 : Int32).toNatClampNeg := ⟨_, rfl⟩
  obtain ⟨a5, ea5⟩ : ∃ y : Int32, y = xs (5 : Int32).toNatClampNeg := ⟨_, rfl⟩
  refine lv_aload_n hx hb dL_law_770 rfl (lv_at hl 2 rfl) ?_
  refine lv_aload_n hx hb dL_law_771 rfl (lv_at hl 3 rfl) ?_
  refine lv_iload_n hx hb dL_law_772 rfl (lv_at hl 0 rfl) ?_
  refine lv_iconst (v := 1) hx hb dL_law_773 (by decide) ?_
  refine lv_iadd hx hb dL_law_774 ?_
  refine lv_topi (fun z_1 ez_1 => ?_)
  obtain rfl : z_1 = 1 := ez_1.trans (by decide)
  refine va_sld hx hb hX hbl hbA hS (vp_in_iff.mpr ⟨by decide, by decide⟩) dL_law_775 ?_
  refine lv_topi (fun z_2 ez_2 => ?_)
  obtain rfl : a1 = z_2 := ea1.trans ez_2.symm
  have hPc := hP.sub (ws' := [(x0, .inr (6, [.ref tp, .int 0, .int 0, .int (-1), .ref rd, .ref gd, .ref im, .ref rw, .ref gn, .ref ho, .ref sq])), (gd, .inr (0, [.ref pl, .int 0, .long 0, .long 0, .int 0, .int (-1), .int 0, .ref gdt, .int 0, .ref gdu, .int 0, .ref gdn])), (pl, .inr (3, [.int 0, .int 0, .int 0, .int 0, .long 0, .ref plf, .ref plo, .ref plb, .ref pla]))]) [0, 1, 2] rfl
  have hDc := hD.sub (ws' := [(x0, .inr (6, [.ref tp, .int 0, .int 0, .int (-1), .ref rd, .ref gd, .ref im, .ref rw, .ref gn, .ref ho, .ref sq])), (gd, .inr (0, [.ref pl, .int 0, .long 0, .long 0, .int 0, .int (-1), .int 0, .ref gdt, .int 0, .ref gdu, .int 0, .ref gdn])), (pl, .inr (3, [.int 0, .int 0, .int 0, .int 0, .long 0, .ref plf, .ref plo, .ref plb, .ref pla]))]) [0, 1, 2] (by decide) rfl
  have hKc := hK.sub (tys' := []) [] rfl
  have hFc := va_free (wc := [(x0, .inr (6, [.ref tp, .int 0, .int 0, .int (-1), .ref rd, .ref gd, .ref im, .ref rw, .ref gn, .ref ho, .ref sq])), (gd, .inr (0, [.ref pl, .int 0, .long 0, .long 0, .int 0, .int (-1), .int 0, .ref gdt, .int 0, .ref gdu, .int 0, .ref gdn])), (pl, .inr (3, [.int 0, .int 0, .int 0, .int 0, .long 0, .ref plf, .ref plo, .ref plb, .ref pla]))]) hD hS hA [0, 1, 2] rfl
  refine va_calli (va_runV (As := [.int a1]) (rest := []) ⟨hx, hb, hml, hown, hts⟩ (c_X6_nights l dC dI H.size x0 tp rd gd im rw gn ho sq pl gdt gdu gdn plf plo plb pla a1 ) (cwV 1 hts g_law_X6_nights rfl rfl rfl (by decide +kernel) ⟨Nat.le_of_ble_eq_true rfl, Nat.le_of_ble_eq_true rfl⟩) ⟨fun a U g mk q => by obtain ⟨q0, q1, qP, qK, qD⟩ := q; exact ⟨q0, q1, qP, va_K.moved (u := U) (U := U.calling g mk a) (Vm.Alike.refl U.vm) qK, qD⟩, va_recv hKc hPc (ci := 6) (q0 := 0) rfl rfl, fun U hU hW => ⟨rfl, by rw [hU], by rw [hU]; exact hPc, va_K.moved hW.alike hKc, hDc.weaken (fun _ _ _ _ => trivial)⟩⟩ rfl rfl hl.1 rfl (lv_room (Nat.le_of_ble_eq_true rfl)) dL_law_776 ⟨Nat.le_of_ble_eq_true rfl, Nat.le_of_ble_eq_true rfl⟩) hS (fun q _ h => hFc q h) hFc (fun r_3 u t H1 locs ht hvm hw_4 hB hz1 hk1 hS => ?_)
  have hP1 : va_P (dC, dI) vwCl [] H1 := i_nilP
  have hD1 : va_D (va_A [(x0, .inr (6, [.ref tp, .int 0, .int 0, .int (-1), .ref rd, .ref gd, .ref im, .ref rw, .ref gn, .ref ho, .ref sq])), (gd, .inr (0, [.ref pl, .int 0, .long 0, .long 0, .int 0, .int (-1), .int 0, .ref gdt, .int 0, .ref gdu, .int 0, .ref gdn])), (pl, .inr (3, [.int 0, .int 0, .int 0, .int 0, .long 0, .ref plf, .ref plo, .ref plb, .ref pla]))] H.size) [] := i_nilD
  try dsimp only at hw_4
  obtain ⟨hP, hD⟩ := va_join (wr := [(m0, .inr (7, [.int 0, .ref m_width, .ref m_many, .ref m_cells, .ref m_moved, .ref m_tape, .int 0, .int 0, .int 0, .int 0, .int 0, .long 0, .int 0, .int 0, .int 0, .int (-1), .ref m_lines, .ref m_has, .ref m_state, .ref m_gate, .ref m_guest, .ref m_gone, .int 0, .ref m_isKept, .ref m_first, .ref m_second, .int 0, .ref m_far, .ref m_wished, .ref m_wasState, .ref m_isHere, .ref m_round, .ref m_bestRound, .int 0, .int 0, .long 0, .long 0, .ref m_taken, .int 0])), (m_lines, .inl (k_lines, 5, .inl (fun _ => 0))), (m_has, .inl (k_has, 45, .inl (fun _ => 0)))]) (w1 := []) hP hD [0, 1, 2] [3, 4, 5] rfl rfl (by decide) (by decide) hk1 hFc hP1 hD1
  generalize H1 = H at hP hS ⊢
  have hP : va_P (dC, dI) vwCl [(m0, .inr (7, [.int 0, .ref m_width, .ref m_many, .ref m_cells, .ref m_moved, .ref m_tape, .int 0, .int 0, .int 0, .int 0, .int 0, .long 0, .int 0, .int 0, .int 0, .int (-1), .ref m_lines, .ref m_has, .ref m_state, .ref m_gate, .ref m_guest, .ref m_gone, .int 0, .ref m_isKept, .ref m_first, .ref m_second, .int 0, .ref m_far, .ref m_wished, .ref m_wasState, .ref m_isHere, .ref m_round, .ref m_bestRound, .int 0, .int 0, .long 0, .long 0, .ref m_taken, .int 0])), (m_lines, .inl (k_lines, 5, .inl (fun _ => 0))), (m_has, .inl (k_has, 45, .inl (fun _ => 0)))] H := hP
  have hD : va_D A [(m0, .inr (7, [.int 0, .ref m_width, .ref m_many, .ref m_cells, .ref m_moved, .ref m_tape, .int 0, .int 0, .int 0, .int 0, .int 0, .long 0, .int 0, .int 0, .int 0, .int (-1), .ref m_lines, .ref m_has, .ref m_state, .ref m_gate, .ref m_guest, .ref m_gone, .int 0, .ref m_isKept, .ref m_first, .ref m_second, .int 0, .ref m_far, .ref m_wished, .ref m_wasState, .ref m_isHere, .ref m_round, .ref m_bestRound, .int 0, .int 0, .long 0, .long 0, .ref m_taken, .int 0])), (m_lines, .inl (k_lines, 5, .inl (fun _ => 0))), (m_has, .inl (k_has, 45, .inl (fun _ => 0)))] := hD
  obtain rfl : r_3 = -2 := hw_4
  refine lv_aload_n hx hb dL_law_779 rfl (lv_at hl 1 rfl) ?_
  refine lv_aload_n hx hb dL_law_780 rfl (lv_at hl 3 rfl) ?_
  refine lv_iload_n hx hb dL_law_781 rfl (lv_at hl 0 rfl) ?_
  refine lv_iconst (v := 1) hx hb dL_law_782 (by decide) ?_
  refine lv_iadd hx hb dL_law_783 ?_
  refine lv_topi (fun z_5 ez_5 => ?_)
  obtain rfl : z_5 = 1 := ez_5.trans (by decide)
  refine va_sld hx hb hX hbl hbA hS (vp_in_iff.mpr ⟨by decide, by decide⟩) dL_law_784 ?_
  refine lv_topi (fun z_6 ez_6 => ?_)
  obtain rfl : a1 = z_6 := ea1.trans ez_6.symm
  have hPc := hP.sub (ws' := [(m0, .inr (7, [.int 0, .ref m_width, .ref m_many, .ref m_cells, .ref m_moved, .ref m_tape, .int 0, .int 0, .int 0, .int 0, .int 0, .long 0, .int 0, .int 0, .int 0, .int (-1), .ref m_lines, .ref m_has, .ref m_state, .ref m_gate, .ref m_guest, .ref m_gone, .int 0, .ref m_isKept, .ref m_first, .ref m_second, .int 0, .ref m_far, .ref m_wished, .ref m_wasState, .ref m_isHere, .ref m_round, .ref m_bestRound, .int 0, .int 0, .long 0, .long 0, .ref m_taken, .int 0])), (m_lines, .inl (k_lines, 5, .inl (fun _ => 0))), (m_has, .inl (k_has, 45, .inl (fun _ => 0)))]) [0, 1, 2] rfl
  have hDc := hD.sub (ws' := [(m0, .inr (7, [.int 0, .ref m_width, .ref m_many, .ref m_cells, .ref m_moved, .ref m_tape, .int 0, .int 0, .int 0, .int 0, .int 0, .long 0, .int 0, .int 0, .int 0, .int (-1), .ref m_lines, .ref m_has, .ref m_state, .ref m_gate, .ref m_guest, .ref m_gone, .int 0, .ref m_isKept, .ref m_first, .ref m_second, .int 0, .ref m_far, .ref m_wished, .ref m_wasState, .ref m_isHere, .ref m_round, .ref m_bestRound, .int 0, .int 0, .long 0, .long 0, .ref m_taken, .int 0])), (m_lines, .inl (k_lines, 5, .inl (fun _ => 0))), (m_has, .inl (k_has, 45, .inl (fun _ => 0)))]) [0, 1, 2] (by decide) rfl
  have hKc := hK.sub (tys' := [(k_lines, .int), (k_has, .int)]) [0, 1] rfl
  have hFc := va_free (wc := [(m0, .inr (7, [.int 0, .ref m_width, .ref m_many, .ref m_cells, .ref m_moved, .ref m_tape, .int 0, .int 0, .int 0, .int 0, .int 0, .long 0, .int 0, .int 0, .int 0, .int (-1), .ref m_lines, .ref m_has, .ref m_state, .ref m_gate, .ref m_guest, .ref m_gone, .int 0, .ref m_isKept, .ref m_first, .ref m_second, .int 0, .ref m_far, .ref m_wished, .ref m_wasState, .ref m_isHere, .ref m_round, .ref m_bestRound, .int 0, .int 0, .long 0, .long 0, .ref m_taken, .int 0])), (m_lines, .inl (k_lines, 5, .inl (fun _ => 0))), (m_has, .inl (k_has, 45, .inl (fun _ => 0)))]) hD hS hA [0, 1, 2] rfl
  refine va_calli (va_runV (As := [.int a1]) (rest := [.int (-2)]) ⟨hx, hb, hml, hown, hts⟩ (c_X7_nights l dC dI H.size m0 m_width m_many m_cells m_moved m_tape m_lines m_has m_state m_gate m_guest m_gone m_isKept m_first m_second m_far m_wished m_wasState m_isHere m_round m_bestRound m_taken k_lines k_has a1 ) (cwV 1 hts g_law_X7_nights rfl rfl rfl (by decide +kernel) ⟨Nat.le_of_ble_eq_true rfl, Nat.le_of_ble_eq_true rfl⟩) ⟨fun a U g mk q => by obtain ⟨q0, q1, qP, qK, qD⟩ := q; exact ⟨q0, q1, qP, va_K.moved (u := U) (U := U.calling g mk a) (Vm.Alike.refl U.vm) qK, qD⟩, va_recv hKc hPc (ci := 7) (q0 := 0) rfl rfl, fun U hU hW => ⟨rfl, by rw [hU], by rw [hU]; exact hPc, va_K.moved hW.alike hKc, hDc.weaken (fun _ _ _ _ => trivial)⟩⟩ rfl rfl hl.1 rfl (lv_room (Nat.le_of_ble_eq_true rfl)) dL_law_785 ⟨Nat.le_of_ble_eq_true rfl, Nat.le_of_ble_eq_true rfl⟩) hS (fun q _ h => hFc q h) hFc (fun r_7 u t H1 locs ht hvm hw_8 hB hz1 hk1 hS => ?_)
  have hP1 : va_P (dC, dI) vwCl [] H1 := i_nilP
  have hD1 : va_D (va_A [(m0, .inr (7, [.int 0, .ref m_width, .ref m_many, .ref m_cells, .ref m_moved, .ref m_tape, .int 0, .int 0, .int 0, .int 0, .int 0, .long 0, .int 0, .int 0, .int 0, .int (-1), .ref m_lines, .ref m_has, .ref m_state, .ref m_gate, .ref m_guest, .ref m_gone, .int 0, .ref m_isKept, .ref m_first, .ref m_second, .int 0, .ref m_far, .ref m_wished, .ref m_wasState, .ref m_isHere, .ref m_round, .ref m_bestRound, .int 0, .int 0, .long 0, .long 0, .ref m_taken, .int 0])), (m_lines, .inl (k_lines, 5, .inl (fun _ => 0))), (m_has, .inl (k_has, 45, .inl (fun _ => 0)))] H.size) [] := i_nilD
  try dsimp only at hw_8
  obtain ⟨hP, hD⟩ := va_join (wr := []) (w1 := []) hP hD [0, 1, 2] [] rfl rfl (by decide) (by decide) hk1 hFc hP1 hD1
  generalize H1 = H at hP hS ⊢
  have hP : va_P (dC, dI) vwCl [] H := hP
  have hD : va_D A [] := hD
  obtain rfl : r_7 = -2 := hw_8
  refine lv_icmp_eq (tgt := 1569) hx hb dL_law_788 (by decide) (fun _ => ?_) (fun h => absurd (by decide) h)
  refine lv_iinc (v := 6) (lv' := [(3, .int 6), (2, .ref m0), (1, .ref x0), (0, .ref b)]) hx hb dL_law_1569 hl (k := 0) rfl (by decide) (by decide) rfl (fun ls hl => ?_)
  refine lv_goto (tgt := 18) hx hb dL_law_1572 (by decide) ?_
  exact law_exit C0 hA2 hS (lv_sub hl [0, 3] rfl) (by decide) (by omega) (by omega)

set_option maxHeartbeats 4000000 in
set_option maxRecDepth 100000 in
/-- the law, its call 21: out -/
theorem law_21 {p : Program} {e : Env} {s : State} {m : MethodId} {below : List Frame} {meth : Method} {c : Code} (l : Launch) {b : Nat} {xs : Nat → Int32} (C0 : lw_At p s m meth c b 6 xs) {A : Nat → Prop} (hA : ∀ q, s.heap.size ≤ q → A q) (hA2 : ∀ q, A q → s.heap.size ≤ q) {x0 : Nat} {tp : Nat} {rd : Nat} {gd : Nat} {im : Nat} {rw : Nat} {gn : Nat} {ho : Nat} {sq : Nat} {pl : Nat} {gdt : Nat} {gdu : Nat} {gdn : Nat} {plf : Nat} {plo : Nat} {plb : Nat} {pla : Nat} {m0 : Nat} {m_width : Nat} {m_many : Nat} {m_cells : Nat} {m_moved : Nat} {m_tape : Nat} {m_lines : Nat} {m_has : Nat} {m_state : Nat} {m_gate : Nat} {m_guest : Nat} {m_gone : Nat} {m_isKept : Nat} {m_first : Nat} {m_second : Nat} {m_far : Nat} {m_wished : Nat} {m_wasState : Nat} {m_isHere : Nat} {m_round : Nat} {m_bestRound : Nat} {m_taken : Nat} {k_lines : ClassId} {k_has : ClassId} (hE0 : Kx s) {dC : Nat → ClassId} {dI : Nat → Nat → Nat} (hK : va_K (dC, dI) vwCl [(k_lines, .int), (k_has, .int)] s) {H : Heap} {locs : List Loc} (hP : va_P (dC, dI) vwCl [(x0, .inr (6, [.ref tp, .int 0, .int 0, .int (-1), .ref rd, .ref gd, .ref im, .ref rw, .ref gn, .ref ho, .ref sq])), (gd, .inr (0, [.ref pl, .int 0, .long 0, .long 0, .int 0, .int (-1), .int 0, .ref gdt, .int 0, .ref gdu, .int 0, .ref gdn])), (pl, .inr (3, [.int 0, .int 0, .int 0, .int 0, .long 0, .ref plf, .ref plo, .ref plb, .ref pla])), (m0, .inr (7, [.int 0, .ref m_width, .ref m_many, .ref m_cells, .ref m_moved, .ref m_tape, .int 0, .int 0, .int 0, .int 0, .int 0, .long 0, .int 0, .int 0, .int 0, .int (-1), .ref m_lines, .ref m_has, .ref m_state, .ref m_gate, .ref m_guest, .ref m_gone, .int 0, .ref m_isKept, .ref m_first, .ref m_second, .int 0, .ref m_far, .ref m_wished, .ref m_wasState, .ref m_isHere, .ref m_round, .ref m_bestRound, .int 0, .int 0, .long 0, .long 0, .ref m_taken, .int 0])), (m_lines, .inl (k_lines, 5, .inl (fun _ => 0))), (m_has, .inl (k_has, 45, .inl (fun _ => 0)))] H) (hD : va_D A [(x0, .inr (6, [.ref tp, .int 0, .int 0, .int (-1), .ref rd, .ref gd, .ref im, .ref rw, .ref gn, .ref ho, .ref sq])), (gd, .inr (0, [.ref pl, .int 0, .long 0, .long 0, .int 0, .int (-1), .int 0, .ref gdt, .int 0, .ref gdu, .int 0, .ref gdn])), (pl, .inr (3, [.int 0, .int 0, .int 0, .int 0, .long 0, .ref plf, .ref plo, .ref plb, .ref pla])), (m0, .inr (7, [.int 0, .ref m_width, .ref m_many, .ref m_cells, .ref m_moved, .ref m_tape, .int 0, .int 0, .int 0, .int 0, .int 0, .long 0, .int 0, .int 0, .int 0, .int (-1), .ref m_lines, .ref m_has, .ref m_state, .ref m_gate, .ref m_guest, .ref m_gone, .int 0, .ref m_isKept, .ref m_first, .ref m_second, .int 0, .ref m_far, .ref m_wished, .ref m_wasState, .ref m_isHere, .ref m_round, .ref m_bestRound, .int 0, .int 0, .long 0, .long 0, .ref m_taken, .int 0])), (m_lines, .inl (k_lines, 5, .inl (fun _ => 0))), (m_has, .inl (k_has, 45, .inl (fun _ => 0)))]) (hS : va_S A s.heap H locs) {ls : Array Slot} (hl : lv_has ls 4 [(3, .int 0), (2, .ref m0), (1, .ref x0), (0, .ref b)]) : W p l e room_1 s m #[Value.ref b] below meth c H locs 70 7203 (lw_Z below #[Value.ref b] s) (F0 m 793 ls []) := by
  obtain ⟨hx, hb, hr, hml, hown, hts, hX, hbl, hlocks, hgv⟩ := id C0
  have hown : s.vm.findClass RL = some m.cls := hown
  have hts := fun w (h : w ∈ wz_law) => hts w (wz_law_in w h)
  have hbA : ¬ A b := fun h => absurd (hA2 b h) (Nat.not_le.mpr hbl)
  obtain ⟨a0, ea0⟩ : ∃ y : Int32, y = xs (0 : Int32).toNatClampNeg := ⟨_, rfl⟩
  obtain ⟨a1, ea1⟩ : ∃ y : Int32, y = xs (1 : Int32).toNatClampNeg := ⟨_, rfl⟩
  obtain ⟨a2, ea2⟩ : ∃ y : Int32, y = xs (2 : Int32).toNatClampNeg := ⟨_, rfl⟩
  obtain ⟨a3, ea3⟩ : ∃ y : Int32, y = xs (3 : Int32).toNatClampNeg := ⟨_, rfl⟩
  obtain ⟨a4, ea4⟩ : ∃ y : Int32, y = xs (4 : Int32).toNatClampNeg := ⟨_, rfl⟩
  obtain ⟨a5, ea5⟩ : ∃ y : Int32, y = xs (5 : Int32).toNatClampNeg := ⟨_, rfl⟩
  refine lv_aload_n hx hb dL_law_793 rfl (lv_at hl 2 rfl) ?_
  refine lv_aload_n hx hb dL_law_794 rfl (lv_at hl 3 rfl) ?_
  refine lv_iload_n hx hb dL_law_795 rfl (lv_at hl 0 rfl) ?_
  refine lv_iconst (v := 1) hx hb dL_law_796 (by decide) ?_
  refine lv_iadd hx hb dL_law_797 ?_
  refine lv_topi (fun z_1 ez_1 => ?_)
  obtain rfl : z_1 = 1 := ez_1.trans (by decide)
  refine va_sld hx hb hX hbl hbA hS (vp_in_iff.mpr ⟨by decide, by decide⟩) dL_law_798 ?_
  refine lv_topi (fun z_2 ez_2 => ?_)
  obtain rfl : a1 = z_2 := ea1.trans ez_2.symm
  refine lv_aload_n hx hb dL_law_799 rfl (lv_at hl 3 rfl) ?_
  refine lv_iload_n hx hb dL_law_800 rfl (lv_at hl 0 rfl) ?_
  refine lv_iconst (v := 2) hx hb dL_law_801 (by decide) ?_
  refine lv_iadd hx hb dL_law_802 ?_
  refine lv_topi (fun z_3 ez_3 => ?_)
  obtain rfl : z_3 = 2 := ez_3.trans (by decide)
  refine va_sld hx hb hX hbl hbA hS (vp_in_iff.mpr ⟨by decide, by decide⟩) dL_law_803 ?_
  refine lv_topi (fun z_4 ez_4 => ?_)
  obtain rfl : a2 = z_4 := ea2.trans ez_4.symm
  refine lv_aload_n hx hb dL_law_804 rfl (lv_at hl 3 rfl) ?_
  refine lv_iload_n hx hb dL_law_805 rfl (lv_at hl 0 rfl) ?_
  refine lv_iconst (v := 3) hx hb dL_law_806 (by decide) ?_
  refine lv_iadd hx hb dL_law_807 ?_
  refine lv_topi (fun z_5 ez_5 => ?_)
  obtain rfl : z_5 = 3 := ez_5.trans (by decide)
  refine va_sld hx hb hX hbl hbA hS (vp_in_iff.mpr ⟨by decide, by decide⟩) dL_law_808 ?_
  refine lv_topi (fun z_6 ez_6 => ?_)
  obtain rfl : a3 = z_6 := ea3.trans ez_6.symm
  have hPc := hP.sub (ws' := [(x0, .inr (6, [.ref tp, .int 0, .int 0, .int (-1), .ref rd, .ref gd, .ref im, .ref rw, .ref gn, .ref ho, .ref sq])), (gd, .inr (0, [.ref pl, .int 0, .long 0, .long 0, .int 0, .int (-1), .int 0, .ref gdt, .int 0, .ref gdu, .int 0, .ref gdn])), (pl, .inr (3, [.int 0, .int 0, .int 0, .int 0, .long 0, .ref plf, .ref plo, .ref plb, .ref pla]))]) [0, 1, 2] rfl
  have hDc := hD.sub (ws' := [(x0, .inr (6, [.ref tp, .int 0, .int 0, .int (-1), .ref rd, .ref gd, .ref im, .ref rw, .ref gn, .ref ho, .ref sq])), (gd, .inr (0, [.ref pl, .int 0, .long 0, .long 0, .int 0, .int (-1), .int 0, .ref gdt, .int 0, .ref gdu, .int 0, .ref gdn])), (pl, .inr (3, [.int 0, .int 0, .int 0, .int 0, .long 0, .ref plf, .ref plo, .ref plb, .ref pla]))]) [0, 1, 2] (by decide) rfl
  have hKc := hK.sub (tys' := []) [] rfl
  have hFc := va_free (wc := [(x0, .inr (6, [.ref tp, .int 0, .int 0, .int (-1), .ref rd, .ref gd, .ref im, .ref rw, .ref gn, .ref ho, .ref sq])), (gd, .inr (0, [.ref pl, .int 0, .long 0, .long 0, .int 0, .int (-1), .int 0, .ref gdt, .int 0, .ref gdu, .int 0, .ref gdn])), (pl, .inr (3, [.int 0, .int 0, .int 0, .int 0, .long 0, .ref plf, .ref plo, .ref plb, .ref pla]))]) hD hS hA [0, 1, 2] rfl
  refine va_calli (va_runV (As := [.int a1, .int a2, .int a3]) (rest := []) ⟨hx, hb, hml, hown, hts⟩ (c_X6_out l dC dI H.size x0 tp rd gd im rw gn ho sq pl gdt gdu gdn plf plo plb pla a1 a2 a3 ) (cwV 3 hts g_law_X6_out rfl rfl rfl (by decide +kernel) ⟨Nat.le_of_ble_eq_true rfl, Nat.le_of_ble_eq_true rfl⟩) ⟨fun a U g mk q => by obtain ⟨q0, q1, qP, qK, qD⟩ := q; exact ⟨q0, q1, qP, va_K.moved (u := U) (U := U.calling g mk a) (Vm.Alike.refl U.vm) qK, qD⟩, va_recv hKc hPc (ci := 6) (q0 := 0) rfl rfl, fun U hU hW => ⟨rfl, by rw [hU], by rw [hU]; exact hPc, va_K.moved hW.alike hKc, hDc.weaken (fun _ _ _ _ => trivial)⟩⟩ rfl rfl hl.1 rfl (lv_room (Nat.le_of_ble_eq_true rfl)) dL_law_809 ⟨Nat.le_of_ble_eq_true rfl, Nat.le_of_ble_eq_true rfl⟩) hS (fun q _ h => hFc q h) hFc (fun r_7 u t H1 locs ht hvm hw_8 hB hz1 hk1 hS => ?_)
  have hP1 : va_P (dC, dI) vwCl [] H1 := i_nilP
  have hD1 : va_D (va_A [(x0, .inr (6, [.ref tp, .int 0, .int 0, .int (-1), .ref rd, .ref gd, .ref im, .ref rw, .ref gn, .ref ho, .ref sq])), (gd, .inr (0, [.ref pl, .int 0, .long 0, .long 0, .int 0, .int (-1), .int 0, .ref gdt, .int 0, .ref gdu, .int 0, .ref gdn])), (pl, .inr (3, [.int 0, .int 0, .int 0, .int 0, .long 0, .ref plf, .ref plo, .ref plb, .ref pla]))] H.size) [] := i_nilD
  try dsimp only at hw_8
  obtain ⟨hP, hD⟩ := va_join (wr := [(m0, .inr (7, [.int 0, .ref m_width, .ref m_many, .ref m_cells, .ref m_moved, .ref m_tape, .int 0, .int 0, .int 0, .int 0, .int 0, .long 0, .int 0, .int 0, .int 0, .int (-1), .ref m_lines, .ref m_has, .ref m_state, .ref m_gate, .ref m_guest, .ref m_gone, .int 0, .ref m_isKept, .ref m_first, .ref m_second, .int 0, .ref m_far, .ref m_wished, .ref m_wasState, .ref m_isHere, .ref m_round, .ref m_bestRound, .int 0, .int 0, .long 0, .long 0, .ref m_taken, .int 0])), (m_lines, .inl (k_lines, 5, .inl (fun _ => 0))), (m_has, .inl (k_has, 45, .inl (fun _ => 0)))]) (w1 := []) hP hD [0, 1, 2] [3, 4, 5] rfl rfl (by decide) (by decide) hk1 hFc hP1 hD1
  generalize H1 = H at hP hS ⊢
  have hP : va_P (dC, dI) vwCl [(m0, .inr (7, [.int 0, .ref m_width, .ref m_many, .ref m_cells, .ref m_moved, .ref m_tape, .int 0, .int 0, .int 0, .int 0, .int 0, .long 0, .int 0, .int 0, .int 0, .int (-1), .ref m_lines, .ref m_has, .ref m_state, .ref m_gate, .ref m_guest, .ref m_gone, .int 0, .ref m_isKept, .ref m_first, .ref m_second, .int 0, .ref m_far, .ref m_wished, .ref m_wasState, .ref m_isHere, .ref m_round, .ref m_bestRound, .int 0, .int 0, .long 0, .long 0, .ref m_taken, .int 0])), (m_lines, .inl (k_lines, 5, .inl (fun _ => 0))), (m_has, .inl (k_has, 45, .inl (fun _ => 0)))] H := hP
  have hD : va_D A [(m0, .inr (7, [.int 0, .ref m_width, .ref m_many, .ref m_cells, .ref m_moved, .ref m_tape, .int 0, .int 0, .int 0, .int 0, .int 0, .long 0, .int 0, .int 0, .int 0, .int (-1), .ref m_lines, .ref m_has, .ref m_state, .ref m_gate, .ref m_guest, .ref m_gone, .int 0, .ref m_isKept, .ref m_first, .ref m_second, .int 0, .ref m_far, .ref m_wished, .ref m_wasState, .ref m_isHere, .ref m_round, .ref m_bestRound, .int 0, .int 0, .long 0, .long 0, .ref m_taken, .int 0])), (m_lines, .inl (k_lines, 5, .inl (fun _ => 0))), (m_has, .inl (k_has, 45, .inl (fun _ => 0)))] := hD
  obtain rfl : r_7 = -2 := hw_8
  refine lv_aload_n hx hb dL_law_812 rfl (lv_at hl 1 rfl) ?_
  refine lv_aload_n hx hb dL_law_813 rfl (lv_at hl 3 rfl) ?_
  refine lv_iload_n hx hb dL_law_814 rfl (lv_at hl 0 rfl) ?_
  refine lv_iconst (v := 1) hx hb dL_law_815 (by decide) ?_
  refine lv_iadd hx hb dL_law_816 ?_
  refine lv_topi (fun z_9 ez_9 => ?_)
  obtain rfl : z_9 = 1 := ez_9.trans (by decide)
  refine va_sld hx hb hX hbl hbA hS (vp_in_iff.mpr ⟨by decide, by decide⟩) dL_law_817 ?_
  refine lv_topi (fun z_10 ez_10 => ?_)
  obtain rfl : a1 = z_10 := ea1.trans ez_10.symm
  refine lv_aload_n hx hb dL_law_818 rfl (lv_at hl 3 rfl) ?_
  refine lv_iload_n hx hb dL_law_819 rfl (lv_at hl 0 rfl) ?_
  refine lv_iconst (v := 2) hx hb dL_law_820 (by decide) ?_
  refine lv_iadd hx hb dL_law_821 ?_
  refine lv_topi (fun z_11 ez_11 => ?_)
  obtain rfl : z_11 = 2 := ez_11.trans (by decide)
  refine va_sld hx hb hX hbl hbA hS (vp_in_iff.mpr ⟨by decide, by decide⟩) dL_law_822 ?_
  refine lv_topi (fun z_12 ez_12 => ?_)
  obtain rfl : a2 = z_12 := ea2.trans ez_12.symm
  refine lv_aload_n hx hb dL_law_823 rfl (lv_at hl 3 rfl) ?_
  refine lv_iload_n hx hb dL_law_824 rfl (lv_at hl 0 rfl) ?_
  refine lv_iconst (v := 3) hx hb dL_law_825 (by decide) ?_
  refine lv_iadd hx hb dL_law_826 ?_
  refine lv_topi (fun z_13 ez_13 => ?_)
  obtain rfl : z_13 = 3 := ez_13.trans (by decide)
  refine va_sld hx hb hX hbl hbA hS (vp_in_iff.mpr ⟨by decide, by decide⟩) dL_law_827 ?_
  refine lv_topi (fun z_14 ez_14 => ?_)
  obtain rfl : a3 = z_14 := ea3.trans ez_14.symm
  have hPc := hP.sub (ws' := [(m0, .inr (7, [.int 0, .ref m_width, .ref m_many, .ref m_cells, .ref m_moved, .ref m_tape, .int 0, .int 0, .int 0, .int 0, .int 0, .long 0, .int 0, .int 0, .int 0, .int (-1), .ref m_lines, .ref m_has, .ref m_state, .ref m_gate, .ref m_guest, .ref m_gone, .int 0, .ref m_isKept, .ref m_first, .ref m_second, .int 0, .ref m_far, .ref m_wished, .ref m_wasState, .ref m_isHere, .ref m_round, .ref m_bestRound, .int 0, .int 0, .long 0, .long 0, .ref m_taken, .int 0])), (m_lines, .inl (k_lines, 5, .inl (fun _ => 0))), (m_has, .inl (k_has, 45, .inl (fun _ => 0)))]) [0, 1, 2] rfl
  have hDc := hD.sub (ws' := [(m0, .inr (7, [.int 0, .ref m_width, .ref m_many, .ref m_cells, .ref m_moved, .ref m_tape, .int 0, .int 0, .int 0, .int 0, .int 0, .long 0, .int 0, .int 0, .int 0, .int (-1), .ref m_lines, .ref m_has, .ref m_state, .ref m_gate, .ref m_guest, .ref m_gone, .int 0, .ref m_isKept, .ref m_first, .ref m_second, .int 0, .ref m_far, .ref m_wished, .ref m_wasState, .ref m_isHere, .ref m_round, .ref m_bestRound, .int 0, .int 0, .long 0, .long 0, .ref m_taken, .int 0])), (m_lines, .inl (k_lines, 5, .inl (fun _ => 0))), (m_has, .inl (k_has, 45, .inl (fun _ => 0)))]) [0, 1, 2] (by decide) rfl
  have hKc := hK.sub (tys' := [(k_lines, .int), (k_has, .int)]) [0, 1] rfl
  have hFc := va_free (wc := [(m0, .inr (7, [.int 0, .ref m_width, .ref m_many, .ref m_cells, .ref m_moved, .ref m_tape, .int 0, .int 0, .int 0, .int 0, .int 0, .long 0, .int 0, .int 0, .int 0, .int (-1), .ref m_lines, .ref m_has, .ref m_state, .ref m_gate, .ref m_guest, .ref m_gone, .int 0, .ref m_isKept, .ref m_first, .ref m_second, .int 0, .ref m_far, .ref m_wished, .ref m_wasState, .ref m_isHere, .ref m_round, .ref m_bestRound, .int 0, .int 0, .long 0, .long 0, .ref m_taken, .int 0])), (m_lines, .inl (k_lines, 5, .inl (fun _ => 0))), (m_has, .inl (k_has, 45, .inl (fun _ => 0)))]) hD hS hA [0, 1, 2] rfl
  refine va_calli (va_runV (As := [.int a1, .int a2, .int a3]) (rest := [.int (-2)]) ⟨hx, hb, hml, hown, hts⟩ (c_X7_out l dC dI H.size m0 m_width m_many m_cells m_moved m_tape m_lines m_has m_state m_gate m_guest m_gone m_isKept m_first m_second m_far m_wished m_wasState m_isHere m_round m_bestRound m_taken k_lines k_has a1 a2 a3 ) (cwV 3 hts g_law_X7_out rfl rfl rfl (by decide +kernel) ⟨Nat.le_of_ble_eq_true rfl, Nat.le_of_ble_eq_true rfl⟩) ⟨fun a U g mk q => by obtain ⟨q0, q1, qP, qK, qD⟩ := q; exact ⟨q0, q1, qP, va_K.moved (u := U) (U := U.calling g mk a) (Vm.Alike.refl U.vm) qK, qD⟩, va_recv hKc hPc (ci := 7) (q0 := 0) rfl rfl, fun U hU hW => ⟨rfl, by rw [hU], by rw [hU]; exact hPc, va_K.moved hW.alike hKc, hDc.weaken (fun _ _ _ _ => trivial)⟩⟩ rfl rfl hl.1 rfl (lv_room (Nat.le_of_ble_eq_true rfl)) dL_law_828 ⟨Nat.le_of_ble_eq_true rfl, Nat.le_of_ble_eq_true rfl⟩) hS (fun q _ h => hFc q h) hFc (fun r_15 u t H1 locs ht hvm hw_16 hB hz1 hk1 hS => ?_)
  have hP1 : va_P (dC, dI) vwCl [] H1 := i_nilP
  have hD1 : va_D (va_A [(m0, .inr (7, [.int 0, .ref m_width, .ref m_many, .ref m_cells, .ref m_moved, .ref m_tape, .int 0, .int 0, .int 0, .int 0, .int 0, .long 0, .int 0, .int 0, .int 0, .int (-1), .ref m_lines, .ref m_has, .ref m_state, .ref m_gate, .ref m_guest, .ref m_gone, .int 0, .ref m_isKept, .ref m_first, .ref m_second, .int 0, .ref m_far, .ref m_wished, .ref m_wasState, .ref m_isHere, .ref m_round, .ref m_bestRound, .int 0, .int 0, .long 0, .long 0, .ref m_taken, .int 0])), (m_lines, .inl (k_lines, 5, .inl (fun _ => 0))), (m_has, .inl (k_has, 45, .inl (fun _ => 0)))] H.size) [] := i_nilD
  try dsimp only at hw_16
  obtain ⟨hP, hD⟩ := va_join (wr := []) (w1 := []) hP hD [0, 1, 2] [] rfl rfl (by decide) (by decide) hk1 hFc hP1 hD1
  generalize H1 = H at hP hS ⊢
  have hP : va_P (dC, dI) vwCl [] H := hP
  have hD : va_D A [] := hD
  obtain rfl : r_15 = -2 := hw_16
  refine lv_icmp_eq (tgt := 1569) hx hb dL_law_831 (by decide) (fun _ => ?_) (fun h => absurd (by decide) h)
  refine lv_iinc (v := 6) (lv' := [(3, .int 6), (2, .ref m0), (1, .ref x0), (0, .ref b)]) hx hb dL_law_1569 hl (k := 0) rfl (by decide) (by decide) rfl (fun ls hl => ?_)
  refine lv_goto (tgt := 18) hx hb dL_law_1572 (by decide) ?_
  exact law_exit C0 hA2 hS (lv_sub hl [0, 3] rfl) (by decide) (by omega) (by omega)

