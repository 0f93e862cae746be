set_option maxHeartbeats 4000000 in
set_option maxRecDepth 100000 in
/-- the law, its call 0: feed -/
theorem lc_0 {p : Program} {e : Env} {s : State} {m : MethodId} {below : List Frame} {meth : Method} {c : Code} (l : Launch) {b L : Nat} {xs : Nat → Int32} (hL : L ≤ 3072) (C0 : lw_At p s m meth c b L xs) {A : Nat → Prop} (hA : ∀ q, s.heap.size ≤ q → A q) (hA2 : ∀ q, A q → s.heap.size ≤ q) (hE0 : Kx s) {sa sv sn : Nat → Nat} (hE9 : sx sa sv sn A s) {dC : Nat → ClassId} {dI : Nat → Nat → Nat} {ad : Nat → Nat} {kc : Nat → ClassId} {fr gnS wS : Nat → Option Nat} {bd : Nat → Nat} {kd : Nat → ClassId} (hFX : FX ad fr gnS wS) (hK : va_K (dC, dI) vwCl (XT kc) s) (hK2 : va_K (dC, dI) vwCl (MT kd) s) {k : Nat} (hk : 6 * k + 6 ≤ L) {H : Heap} {locs : List Loc} {ls : Array Slot} (hW : LW (dC, dI) A s b ad kc fr gnS wS bd kd k H locs ls) (ih : ∀ (H : Heap) (locs : List Loc) (ls : Array Slot), LW (dC, dI) A s b ad kc fr gnS wS bd kd (k + 1) H locs ls → W p l e room_1 s m #[Value.ref b] below meth c H locs (70 + 9 * (k + 1)) (7203 + 400 * (k + 1)) (lw_Z below #[Value.ref b] s) (F0 m 18 ls [])) : W p l e room_1 s m #[Value.ref b] below meth c H locs (70 + 9 * k) (7203 + 400 * k) (lw_Z below #[Value.ref b] s) (F0 m 220 ls []) := by
  obtain ⟨hx, hb, hr, hml, hown, hts, hX, hbl, hlocks, hgv⟩ := id C0
  have hown : s.vm.findClass RL = some m.cls := hown
  have hts := fun w (h : w ∈ wz_law) => hts w (wz_law_in w h)
  have hbA : ¬ A b := fun h => absurd (hA2 b h) (Nat.not_le.mpr hbl)
  obtain ⟨Wx, Wm, iv, fI, ja, hREL, hKR, hXI, hMN, hP, hD, hS, hl⟩ := hW
  refine lv_aload_n hx hb dL_law_220 rfl (lv_at hl 2 rfl) ?_
  refine lv_aload_n hx hb dL_law_221 rfl (lv_at hl 3 rfl) ?_
  refine lv_iload_n hx hb dL_law_222 rfl (lv_at hl 0 rfl) ?_
  refine lv_iconst (v := 1) hx hb dL_law_223 (by decide) ?_
  refine lv_iadd hx hb dL_law_224 ?_
  refine lv_topi (fun z_1 ez_1 => ?_)
  obtain rfl : z_1 = nI ((6 * k) + 1) := ez_1.trans (nI_add ((6 * k)) 1)
  refine va_sld hx hb hX hbl hbA hS (vp_in_nI (by omega) (by omega)) dL_law_225 ?_
  refine lv_topi (fun a_2 ea_2 => ?_)
  refine lv_aload_n hx hb dL_law_226 rfl (lv_at hl 3 rfl) ?_
  refine lv_iload_n hx hb dL_law_227 rfl (lv_at hl 0 rfl) ?_
  refine lv_iconst (v := 2) hx hb dL_law_228 (by decide) ?_
  refine lv_iadd hx hb dL_law_229 ?_
  refine lv_topi (fun z_3 ez_3 => ?_)
  obtain rfl : z_3 = nI ((6 * k) + 2) := ez_3.trans (nI_add ((6 * k)) 2)
  refine va_sld hx hb hX hbl hbA hS (vp_in_nI (by omega) (by omega)) dL_law_230 ?_
  refine lv_topi (fun a_4 ea_4 => ?_)
  refine lv_aload_n hx hb dL_law_231 rfl (lv_at hl 3 rfl) ?_
  refine lv_iload_n hx hb dL_law_232 rfl (lv_at hl 0 rfl) ?_
  refine lv_iconst (v := 3) hx hb dL_law_233 (by decide) ?_
  refine lv_iadd hx hb dL_law_234 ?_
  refine lv_topi (fun z_5 ez_5 => ?_)
  obtain rfl : z_5 = nI ((6 * k) + 3) := ez_5.trans (nI_add ((6 * k)) 3)
  refine va_sld hx hb hX hbl hbA hS (vp_in_nI (by omega) (by omega)) dL_law_235 ?_
  refine lv_topi (fun a_6 ea_6 => ?_)
  refine lv_aload_n hx hb dL_law_236 rfl (lv_at hl 3 rfl) ?_
  refine lv_iload_n hx hb dL_law_237 rfl (lv_at hl 0 rfl) ?_
  refine lv_iconst (v := 4) hx hb dL_law_238 (by decide) ?_
  refine lv_iadd hx hb dL_law_239 ?_
  refine lv_topi (fun z_7 ez_7 => ?_)
  obtain rfl : z_7 = nI ((6 * k) + 4) := ez_7.trans (nI_add ((6 * k)) 4)
  refine va_sld hx hb hX hbl hbA hS (vp_in_nI (by omega) (by omega)) dL_law_240 ?_
  refine lv_topi (fun a_8 ea_8 => ?_)
  refine lv_aload_n hx hb dL_law_241 rfl (lv_at hl 3 rfl) ?_
  refine lv_iload_n hx hb dL_law_242 rfl (lv_at hl 0 rfl) ?_
  refine lv_iconst (v := 5) hx hb dL_law_243 (by decide) ?_
  refine lv_iadd hx hb dL_law_244 ?_
  refine lv_topi (fun z_9 ez_9 => ?_)
  obtain rfl : z_9 = nI ((6 * k) + 5) := ez_9.trans (nI_add ((6 * k)) 5)
  refine va_sld hx hb hX hbl hbA hS (vp_in_nI (by omega) (by omega)) dL_law_245 ?_
  refine lv_topi (fun a_10 ea_10 => ?_)
  obtain ⟨lv, ia, la, ot, t0, t1, t2, hR, i0, i1, i2, rfl⟩ := hXI
  have hFx := free_of hD.left hS hA
  refine va_calli (va_runV (As := [.int a_2, .int a_4, .int a_6, .int a_8, .int a_10]) (rest := []) ⟨hx, hb, hml, hown, hts⟩ (Met_xi (kx_feed l dC dI H.size ad kc fr gnS wS iv lv ia la ot fI hFX hR a_2 a_4 a_6 a_8 a_10) i0 i1 i2 (EY := fun _ => True) (fun _ _ h => h)) (cwV 5 hts g_law_X6_feed rfl rfl rfl (by decide +kernel) ⟨Nat.le_of_ble_eq_true rfl, Nat.le_of_ble_eq_true rfl⟩) ⟨fun a U g mk q => by obtain ⟨q0, q1, qP, qK, qD, qE⟩ := q; exact ⟨q0, q1, qP, va_K.moved (u := U) (U := U.calling g mk a) (Vm.Alike.refl U.vm) qK, qD, trivial⟩, va_recv hK hP.left (ci := 6) (q0 := 0) rfl rfl, fun U hU hW => ⟨rfl, by rw [hU], by rw [hU]; exact hP.left, va_K.moved hW.alike hK, hD.left.weaken (fun _ _ _ _ => trivial), trivial⟩⟩ rfl rfl hl.1 rfl (lv_room (Nat.le_of_ble_eq_true rfl)) dL_law_246 ⟨by show 70 + 9 * k + 0 + 0 ≤ 600000; omega, by show 7203 + 400 * k + 0 + 0 ≤ 7302250; omega⟩) hS (fun q _ h => hFx q h) hFx (fun r_11 V_13 t H1 locs ht hvm hw_12 hB hz1 hk1 hS => ?_)
  obtain ⟨hP, hD⟩ := va_joinA hP hD hk1 hFx (by rw [← ht]; exact hB.1) hB.2
  generalize H1 = H at hP hS ⊢
  obtain ⟨hp9, iv2, fI2, hch, hXJ⟩ := hw_12
  refine lv_pop hx hb dL_law_249 rfl ?_
  refine lv_aload_n hx hb dL_law_250 rfl (lv_at hl 1 rfl) ?_
  refine lv_aload_n hx hb dL_law_251 rfl (lv_at hl 3 rfl) ?_
  refine lv_iload_n hx hb dL_law_252 rfl (lv_at hl 0 rfl) ?_
  refine lv_iconst (v := 1) hx hb dL_law_253 (by decide) ?_
  refine lv_iadd hx hb dL_law_254 ?_
  refine lv_topi (fun z_14 ez_14 => ?_)
  obtain rfl : z_14 = nI ((6 * k) + 1) := ez_14.trans (nI_add ((6 * k)) 1)
  refine va_sld hx hb hX hbl hbA hS (vp_in_nI (by omega) (by omega)) dL_law_255 ?_
  refine lv_topi (fun a_15 ea_15 => ?_)
  obtain rfl : a_2 = a_15 := ea_2.trans ea_15.symm
  refine lv_aload_n hx hb dL_law_256 rfl (lv_at hl 3 rfl) ?_
  refine lv_iload_n hx hb dL_law_257 rfl (lv_at hl 0 rfl) ?_
  refine lv_iconst (v := 2) hx hb dL_law_258 (by decide) ?_
  refine lv_iadd hx hb dL_law_259 ?_
  refine lv_topi (fun z_16 ez_16 => ?_)
  obtain rfl : z_16 = nI ((6 * k) + 2) := ez_16.trans (nI_add ((6 * k)) 2)
  refine va_sld hx hb hX hbl hbA hS (vp_in_nI (by omega) (by omega)) dL_law_260 ?_
  refine lv_topi (fun a_17 ea_17 => ?_)
  obtain rfl : a_4 = a_17 := ea_4.trans ea_17.symm
  refine lv_aload_n hx hb dL_law_261 rfl (lv_at hl 3 rfl) ?_
  refine lv_iload_n hx hb dL_law_262 rfl (lv_at hl 0 rfl) ?_
  refine lv_iconst (v := 3) hx hb dL_law_263 (by decide) ?_
  refine lv_iadd hx hb dL_law_264 ?_
  refine lv_topi (fun z_18 ez_18 => ?_)
  obtain rfl : z_18 = nI ((6 * k) + 3) := ez_18.trans (nI_add ((6 * k)) 3)
  refine va_sld hx hb hX hbl hbA hS (vp_in_nI (by omega) (by omega)) dL_law_265 ?_
  refine lv_topi (fun a_19 ea_19 => ?_)
  obtain rfl : a_6 = a_19 := ea_6.trans ea_19.symm
  refine lv_aload_n hx hb dL_law_266 rfl (lv_at hl 3 rfl) ?_
  refine lv_iload_n hx hb dL_law_267 rfl (lv_at hl 0 rfl) ?_
  refine lv_iconst (v := 4) hx hb dL_law_268 (by decide) ?_
  refine lv_iadd hx hb dL_law_269 ?_
  refine lv_topi (fun z_20 ez_20 => ?_)
  obtain rfl : z_20 = nI ((6 * k) + 4) := ez_20.trans (nI_add ((6 * k)) 4)
  refine va_sld hx hb hX hbl hbA hS (vp_in_nI (by omega) (by omega)) dL_law_270 ?_
  refine lv_topi (fun a_21 ea_21 => ?_)
  obtain rfl : a_8 = a_21 := ea_8.trans ea_21.symm
  refine lv_aload_n hx hb dL_law_271 rfl (lv_at hl 3 rfl) ?_
  refine lv_iload_n hx hb dL_law_272 rfl (lv_at hl 0 rfl) ?_
  refine lv_iconst (v := 5) hx hb dL_law_273 (by decide) ?_
  refine lv_iadd hx hb dL_law_274 ?_
  refine lv_topi (fun z_22 ez_22 => ?_)
  obtain rfl : z_22 = nI ((6 * k) + 5) := ez_22.trans (nI_add ((6 * k)) 5)
  refine va_sld hx hb hX hbl hbA hS (vp_in_nI (by omega) (by omega)) dL_law_275 ?_
  refine lv_topi (fun a_23 ea_23 => ?_)
  obtain rfl : a_10 = a_23 := ea_10.trans ea_23.symm
  obtain ⟨jv, jl, jb, hR2, rfl⟩ := hMN
  obtain ⟨hP, hD⟩ := va_swap hP hD
  have hFx := free_of hD.left hS hA
  refine va_calli (va_runV (As := [.int a_2, .int a_4, .int a_6, .int a_8, .int a_10]) (rest := []) ⟨hx, hb, hml, hown, hts⟩ (km_feed l dC dI H.size bd kd jv jl ja jb hR2 a_2 a_4 a_6 a_8 a_10) (cwV 5 hts g_law_X7_feed rfl rfl rfl (by decide +kernel) ⟨Nat.le_of_ble_eq_true rfl, Nat.le_of_ble_eq_true rfl⟩) ⟨fun a U g mk q => by obtain ⟨q0, q1, qP, qK, qD, qE⟩ := q; exact ⟨q0, q1, qP, va_K.moved (u := U) (U := U.calling g mk a) (Vm.Alike.refl U.vm) qK, qD, trivial⟩, va_recv hK2 hP.left (ci := 7) (q0 := 0) rfl rfl, fun U hU hW => ⟨rfl, by rw [hU], by rw [hU]; exact hP.left, va_K.moved hW.alike hK2, hD.left.weaken (fun _ _ _ _ => trivial), trivial⟩⟩ rfl rfl hl.1 rfl (lv_room (Nat.le_of_ble_eq_true rfl)) dL_law_276 ⟨by show 70 + 9 * k + 0 + 0 ≤ 600000; omega, by show 7203 + 400 * k + 0 + 0 ≤ 7302250; omega⟩) hS (fun q _ h => hFx q h) hFx (fun r_24 V_26 t H1 locs ht hvm hw_25 hB hz1 hk1 hS => ?_)
  obtain ⟨hP, hD⟩ := va_joinA hP hD hk1 hFx (by rw [← ht]; exact hB.1) hB.2
  generalize H1 = H at hP hS ⊢
  obtain ⟨hP, hD⟩ := va_swap hP hD
  obtain ⟨hq9, jv2, jl2, ja2, jb2, hcm, hMR, rfl⟩ := hw_25
  refine lv_pop hx hb dL_law_279 rfl ?_
  refine lv_goto (tgt := 1569) hx hb dL_law_280 (by decide) ?_
  refine lv_iinc (v := nI (6 * (k + 1))) (lv' := [(3, .int (nI (6 * (k + 1)))), (2, .ref (bd 0)), (1, .ref (ad 0)), (0, .ref b)]) hx hb dL_law_1569 hl (k := 0) rfl (show nI (6 * k) + nI 6 = nI (6 * (k + 1)) from nI_add (6 * k) 6) (by decide) rfl (fun ls hl => ?_)
  refine lv_goto (tgt := 18) hx hb dL_law_1572 (by decide) ?_
  refine W.widen (k := 70 + 9 * (k + 1)) (n := 7203 + 400 * (k + 1)) (by omega) (by omega) ?_
  exact ih _ _ _ ⟨V_13, _, iv2, fI2, ja2, hREL.same hch.1 hcm.1 hcm.2.1, hKR.same hch.2 hcm.2.2, hXJ, ⟨jv2, jl2, jb2, hMR, rfl⟩, hP, hD, hS, lv_sub hl [0, 1, 2, 3] rfl⟩

set_option maxHeartbeats 4000000 in
set_option maxRecDepth 100000 in
/-- the law, its call 1: end -/
theorem lc_1 {p : Program} {e : Env} {s : State} {m : MethodId} {below : List Frame} {meth : Method} {c : Code} (l : Launch) {b L : Nat} {xs : Nat → Int32} (hL : L ≤ 3072) (C0 : lw_At p s m meth c b L xs) {A : Nat → Prop} (hA : ∀ q, s.heap.size ≤ q → A q) (hA2 : ∀ q, A q → s.heap.size ≤ q) (hE0 : Kx s) {sa sv sn : Nat → Nat} (hE9 : sx sa sv sn A s) {dC : Nat → ClassId} {dI : Nat → Nat → Nat} {ad : Nat → Nat} {kc : Nat → ClassId} {fr gnS wS : Nat → Option Nat} {bd : Nat → Nat} {kd : Nat → ClassId} (hFX : FX ad fr gnS wS) (hK : va_K (dC, dI) vwCl (XT kc) s) (hK2 : va_K (dC, dI) vwCl (MT kd) s) {k : Nat} (hk : 6 * k + 6 ≤ L) {H : Heap} {locs : List Loc} {ls : Array Slot} (hW : LW (dC, dI) A s b ad kc fr gnS wS bd kd k H locs ls) (ih : ∀ (H : Heap) (locs : List Loc) (ls : Array Slot), LW (dC, dI) A s b ad kc fr gnS wS bd kd (k + 1) H locs ls → W p l e room_1 s m #[Value.ref b] below meth c H locs (70 + 9 * (k + 1)) (7203 + 400 * (k + 1)) (lw_Z below #[Value.ref b] s) (F0 m 18 ls [])) : W p l e room_1 s m #[Value.ref b] below meth c H locs (70 + 9 * k) (7203 + 400 * k) (lw_Z below #[Value.ref b] s) (F0 m 283 ls []) := by
  obtain ⟨hx, hb, hr, hml, hown, hts, hX, hbl, hlocks, hgv⟩ := id C0
  have hown : s.vm.findClass RL = some m.cls := hown
  have hts := fun w (h : w ∈ wz_law) => hts w (wz_law_in w h)
  have hbA : ¬ A b := fun h => absurd (hA2 b h) (Nat.not_le.mpr hbl)
  obtain ⟨Wx, Wm, iv, fI, ja, hREL, hKR, hXI, hMN, hP, hD, hS, hl⟩ := hW
  refine lv_aload_n hx hb dL_law_283 rfl (lv_at hl 2 rfl) ?_
  refine lv_aload_n hx hb dL_law_284 rfl (lv_at hl 3 rfl) ?_
  refine lv_iload_n hx hb dL_law_285 rfl (lv_at hl 0 rfl) ?_
  refine lv_iconst (v := 1) hx hb dL_law_286 (by decide) ?_
  refine lv_iadd hx hb dL_law_287 ?_
  refine lv_topi (fun z_1 ez_1 => ?_)
  obtain rfl : z_1 = nI ((6 * k) + 1) := ez_1.trans (nI_add ((6 * k)) 1)
  refine va_sld hx hb hX hbl hbA hS (vp_in_nI (by omega) (by omega)) dL_law_288 ?_
  refine lv_topi (fun a_2 ea_2 => ?_)
  obtain ⟨lv, ia, la, ot, t0, t1, t2, hR, i0, i1, i2, rfl⟩ := hXI
  have hFx := free_of hD.left hS hA
  refine va_calli (va_runV (As := [.int a_2]) (rest := []) ⟨hx, hb, hml, hown, hts⟩ (Met_xi (kx_end l dC dI H.size ad kc fr gnS wS iv lv ia la ot fI hFX hR a_2) i0 i1 i2 (EY := fun _ => True) (fun _ _ h => h)) (cwV 1 hts g_law_X6_end rfl rfl rfl (by decide +kernel) ⟨Nat.le_of_ble_eq_true rfl, Nat.le_of_ble_eq_true rfl⟩) ⟨fun a U g mk q => by obtain ⟨q0, q1, qP, qK, qD, qE⟩ := q; exact ⟨q0, q1, qP, va_K.moved (u := U) (U := U.calling g mk a) (Vm.Alike.refl U.vm) qK, qD, trivial⟩, va_recv hK hP.left (ci := 6) (q0 := 0) rfl rfl, fun U hU hW => ⟨rfl, by rw [hU], by rw [hU]; exact hP.left, va_K.moved hW.alike hK, hD.left.weaken (fun _ _ _ _ => trivial), trivial⟩⟩ rfl rfl hl.1 rfl (lv_room (Nat.le_of_ble_eq_true rfl)) dL_law_289 ⟨by show 70 + 9 * k + 0 + 0 ≤ 600000; omega, by show 7203 + 400 * k + 0 + 0 ≤ 7302250; omega⟩) hS (fun q _ h => hFx q h) hFx (fun r_3 V_5 t H1 locs ht hvm hw_4 hB hz1 hk1 hS => ?_)
  obtain ⟨hP, hD⟩ := va_joinA hP hD hk1 hFx (by rw [← ht]; exact hB.1) hB.2
  generalize H1 = H at hP hS ⊢
  obtain ⟨hp9, iv2, fI2, hch, hXJ⟩ := hw_4
  refine lv_pop hx hb dL_law_292 rfl ?_
  refine lv_aload_n hx hb dL_law_293 rfl (lv_at hl 1 rfl) ?_
  refine lv_aload_n hx hb dL_law_294 rfl (lv_at hl 3 rfl) ?_
  refine lv_iload_n hx hb dL_law_295 rfl (lv_at hl 0 rfl) ?_
  refine lv_iconst (v := 1) hx hb dL_law_296 (by decide) ?_
  refine lv_iadd hx hb dL_law_297 ?_
  refine lv_topi (fun z_6 ez_6 => ?_)
  obtain rfl : z_6 = nI ((6 * k) + 1) := ez_6.trans (nI_add ((6 * k)) 1)
  refine va_sld hx hb hX hbl hbA hS (vp_in_nI (by omega) (by omega)) dL_law_298 ?_
  refine lv_topi (fun a_7 ea_7 => ?_)
  obtain rfl : a_2 = a_7 := ea_2.trans ea_7.symm
  obtain ⟨jv, jl, jb, hR2, rfl⟩ := hMN
  obtain ⟨hP, hD⟩ := va_swap hP hD
  have hFx := free_of hD.left hS hA
  refine va_calli (va_runV (As := [.int a_2]) (rest := []) ⟨hx, hb, hml, hown, hts⟩ (km_end l dC dI H.size bd kd jv jl ja jb hR2 a_2) (cwV 1 hts g_law_X7_end rfl rfl rfl (by decide +kernel) ⟨Nat.le_of_ble_eq_true rfl, Nat.le_of_ble_eq_true rfl⟩) ⟨fun a U g mk q => by obtain ⟨q0, q1, qP, qK, qD, qE⟩ := q; exact ⟨q0, q1, qP, va_K.moved (u := U) (U := U.calling g mk a) (Vm.Alike.refl U.vm) qK, qD, trivial⟩, va_recv hK2 hP.left (ci := 7) (q0 := 0) rfl rfl, fun U hU hW => ⟨rfl, by rw [hU], by rw [hU]; exact hP.left, va_K.moved hW.alike hK2, hD.left.weaken (fun _ _ _ _ => trivial), trivial⟩⟩ rfl rfl hl.1 rfl (lv_room (Nat.le_of_ble_eq_true rfl)) dL_law_299 ⟨by show 70 + 9 * k + 0 + 0 ≤ 600000; omega, by show 7203 + 400 * k + 0 + 0 ≤ 7302250; omega⟩) hS (fun q _ h => hFx q h) hFx (fun r_8 V_10 t H1 locs ht hvm hw_9 hB hz1 hk1 hS => ?_)
  obtain ⟨hP, hD⟩ := va_joinA hP hD hk1 hFx (by rw [← ht]; exact hB.1) hB.2
  generalize H1 = H at hP hS ⊢
  obtain ⟨hP, hD⟩ := va_swap hP hD
  obtain ⟨hq9, jv2, jl2, ja2, jb2, hcm, hMR, rfl⟩ := hw_9
  refine lv_pop hx hb dL_law_302 rfl ?_
  refine lv_goto (tgt := 1569) hx hb dL_law_303 (by decide) ?_
  refine lv_iinc (v := nI (6 * (k + 1))) (lv' := [(3, .int (nI (6 * (k + 1)))), (2, .ref (bd 0)), (1, .ref (ad 0)), (0, .ref b)]) hx hb dL_law_1569 hl (k := 0) rfl (show nI (6 * k) + nI 6 = nI (6 * (k + 1)) from nI_add (6 * k) 6) (by decide) rfl (fun ls hl => ?_)
  refine lv_goto (tgt := 18) hx hb dL_law_1572 (by decide) ?_
  refine W.widen (k := 70 + 9 * (k + 1)) (n := 7203 + 400 * (k + 1)) (by omega) (by omega) ?_
  exact ih _ _ _ ⟨V_5, _, iv2, fI2, ja2, hREL.same hch.1 hcm.1 hcm.2.1, hKR.same hch.2 hcm.2.2, hXJ, ⟨jv2, jl2, jb2, hMR, rfl⟩, hP, hD, hS, lv_sub hl [0, 1, 2, 3] rfl⟩

set_option maxHeartbeats 4000000 in
set_option maxRecDepth 100000 in
/-- the law, its call 2: maze -/
theorem lc_2 {p : Program} {e : Env} {s : State} {m : MethodId} {below : List Frame} {meth : Method} {c : Code} (l : Launch) {b L : Nat} {xs : Nat → Int32} (hL : L ≤ 3072) (C0 : lw_At p s m meth c b L xs) {A : Nat → Prop} (hA : ∀ q, s.heap.size ≤ q → A q) (hA2 : ∀ q, A q → s.heap.size ≤ q) (hE0 : Kx s) {sa sv sn : Nat → Nat} (hE9 : sx sa sv sn A s) {dC : Nat → ClassId} {dI : Nat → Nat → Nat} {ad : Nat → Nat} {kc : Nat → ClassId} {fr gnS wS : Nat → Option Nat} {bd : Nat → Nat} {kd : Nat → ClassId} (hFX : FX ad fr gnS wS) (hK : va_K (dC, dI) vwCl (XT kc) s) (hK2 : va_K (dC, dI) vwCl (MT kd) s) {k : Nat} (hk : 6 * k + 6 ≤ L) {H : Heap} {locs : List Loc} {ls : Array Slot} (hW : LW (dC, dI) A s b ad kc fr gnS wS bd kd k H locs ls) (ih : ∀ (H : Heap) (locs : List Loc) (ls : Array Slot), LW (dC, dI) A s b ad kc fr gnS wS bd kd (k + 1) H locs ls → W p l e room_1 s m #[Value.ref b] below meth c H locs (70 + 9 * (k + 1)) (7203 + 400 * (k + 1)) (lw_Z below #[Value.ref b] s) (F0 m 18 ls [])) : W p l e room_1 s m #[Value.ref b] below meth c H locs (70 + 9 * k) (7203 + 400 * k) (lw_Z below #[Value.ref b] s) (F0 m 306 ls []) := by
  obtain ⟨hx, hb, hr, hml, hown, hts, hX, hbl, hlocks, hgv⟩ := id C0
  have hown : s.vm.findClass RL = some m.cls := hown
  have hts := fun w (h : w ∈ wz_law) => hts w (wz_law_in w h)
  have hbA : ¬ A b := fun h => absurd (hA2 b h) (Nat.not_le.mpr hbl)
  obtain ⟨Wx, Wm, iv, fI, ja, hREL, hKR, hXI, hMN, hP, hD, hS, hl⟩ := hW
  refine lv_aload_n hx hb dL_law_306 rfl (lv_at hl 2 rfl) ?_
  obtain ⟨lv, ia, la, ot, t0, t1, t2, hR, i0, i1, i2, rfl⟩ := hXI
  have hFx := free_of hD.left hS hA
  refine va_calli (va_runV (As := []) (rest := []) ⟨hx, hb, hml, hown, hts⟩ (Met_xi (kx_maze l dC dI H.size ad kc fr gnS wS iv lv ia la ot fI hFX hR  sa sv sn) i0 i1 i2 (EY := fun U => sx sa sv sn (va_A (XC ad kc fr gnS wS iv lv ia la ot fI ++ (t0 ++ (t1 ++ t2))) H.size) U) (fun U _ h => h.mono (fun q hq => va_A.mono (fun k q hk => ⟨k, by have hl : k < (XC ad kc fr gnS wS iv lv ia la ot fI).length := (List.getElem?_eq_some_iff.mp hk).1; rw [List.getElem?_append_left hl]; exact hk⟩) hq))) (cwV 0 hts g_law_X6_maze rfl rfl rfl (by decide +kernel) ⟨Nat.le_of_ble_eq_true rfl, Nat.le_of_ble_eq_true rfl⟩) ⟨fun a U g mk q => by obtain ⟨q0, q1, qP, qK, qD, qE⟩ := q; exact ⟨q0, q1, qP, va_K.moved (u := U) (U := U.calling g mk a) (Vm.Alike.refl U.vm) qK, qD, qE.same rfl rfl⟩, va_recv hK hP.left (ci := 6) (q0 := 0) rfl rfl, fun U hU hW => ⟨rfl, by rw [hU], by rw [hU]; exact hP.left, va_K.moved hW.alike hK, hD.left.weaken (fun _ _ _ _ => trivial), hE9.into hS hU hW (fun q h => hFx q h)⟩⟩ rfl rfl hl.1 rfl (lv_room (Nat.le_of_ble_eq_true rfl)) dL_law_307 ⟨by show 70 + 9 * k + 0 + 0 ≤ 600000; omega, by show 7203 + 400 * k + 0 + 0 ≤ 7302250; omega⟩) hS (fun q _ h => hFx q h) hFx (fun r_1 V_3 t H1 locs ht hvm hw_2 hB hz1 hk1 hS => ?_)
  obtain ⟨hP, hD⟩ := va_joinA hP hD hk1 hFx (by rw [← ht]; exact hB.1) hB.2
  generalize H1 = H at hP hS ⊢
  obtain ⟨hp9, iv2, fI2, hch, hXJ⟩ := hw_2
  refine lv_pop hx hb dL_law_310 rfl ?_
  refine lv_aload_n hx hb dL_law_311 rfl (lv_at hl 1 rfl) ?_
  obtain ⟨jv, jl, jb, hR2, rfl⟩ := hMN
  obtain ⟨hP, hD⟩ := va_swap hP hD
  have hFx := free_of hD.left hS hA
  refine va_calli (va_runV (As := []) (rest := []) ⟨hx, hb, hml, hown, hts⟩ (km_maze l dC dI H.size bd kd jv jl ja jb hR2 ) (cwV 0 hts g_law_X7_maze rfl rfl rfl (by decide +kernel) ⟨Nat.le_of_ble_eq_true rfl, Nat.le_of_ble_eq_true rfl⟩) ⟨fun a U g mk q => by obtain ⟨q0, q1, qP, qK, qD, qE⟩ := q; exact ⟨q0, q1, qP, va_K.moved (u := U) (U := U.calling g mk a) (Vm.Alike.refl U.vm) qK, qD, trivial⟩, va_recv hK2 hP.left (ci := 7) (q0 := 0) rfl rfl, fun U hU hW => ⟨rfl, by rw [hU], by rw [hU]; exact hP.left, va_K.moved hW.alike hK2, hD.left.weaken (fun _ _ _ _ => trivial), trivial⟩⟩ rfl rfl hl.1 rfl (lv_room (Nat.le_of_ble_eq_true rfl)) dL_law_312 ⟨by show 70 + 9 * k + 0 + 0 ≤ 600000; omega, by show 7203 + 400 * k + 0 + 0 ≤ 7302250; omega⟩) hS (fun q _ h => hFx q h) hFx (fun r_4 V_6 t H1 locs ht hvm hw_5 hB hz1 hk1 hS => ?_)
  obtain ⟨hP, hD⟩ := va_joinA hP hD hk1 hFx (by rw [← ht]; exact hB.1) hB.2
  generalize H1 = H at hP hS ⊢
  obtain ⟨hP, hD⟩ := va_swap hP hD
  obtain ⟨hq9, jv2, jl2, ja2, jb2, hcm, hMR, rfl⟩ := hw_5
  refine lv_pop hx hb dL_law_315 rfl ?_
  refine lv_goto (tgt := 1569) hx hb dL_law_316 (by decide) ?_
  refine lv_iinc (v := nI (6 * (k + 1))) (lv' := [(3, .int (nI (6 * (k + 1)))), (2, .ref (bd 0)), (1, .ref (ad 0)), (0, .ref b)]) hx hb dL_law_1569 hl (k := 0) rfl (show nI (6 * k) + nI 6 = nI (6 * (k + 1)) from nI_add (6 * k) 6) (by decide) rfl (fun ls hl => ?_)
  refine lv_goto (tgt := 18) hx hb dL_law_1572 (by decide) ?_
  refine W.widen (k := 70 + 9 * (k + 1)) (n := 7203 + 400 * (k + 1)) (by omega) (by omega) ?_
  exact ih _ _ _ ⟨V_3, _, iv2, fI2, ja2, hREL.same hch.1 hcm.1 hcm.2.1, hKR.same hch.2 hcm.2.2, hXJ, ⟨jv2, jl2, jb2, hMR, rfl⟩, hP, hD, hS, lv_sub hl [0, 1, 2, 3] rfl⟩

set_option maxHeartbeats 4000000 in
set_option maxRecDepth 100000 in
/-- the law, its call 3: fault -/
theorem lc_3 {p : Program} {e : Env} {s : State} {m : MethodId} {below : List Frame} {meth : Method} {c : Code} (l : Launch) {b L : Nat} {xs : Nat → Int32} (hL : L ≤ 3072) (C0 : lw_At p s m meth c b L xs) {A : Nat → Prop} (hA : ∀ q, s.heap.size ≤ q → A q) (hA2 : ∀ q, A q → s.heap.size ≤ q) (hE0 : Kx s) {sa sv sn : Nat → Nat} (hE9 : sx sa sv sn A s) {dC : Nat → ClassId} {dI : Nat → Nat → Nat} {ad : Nat → Nat} {kc : Nat → ClassId} {fr gnS wS : Nat → Option Nat} {bd : Nat → Nat} {kd : Nat → ClassId} (hFX : FX ad fr gnS wS) (hK : va_K (dC, dI) vwCl (XT kc) s) (hK2 : va_K (dC, dI) vwCl (MT kd) s) {k : Nat} (hk : 6 * k + 6 ≤ L) {H : Heap} {locs : List Loc} {ls : Array Slot} (hW : LW (dC, dI) A s b ad kc fr gnS wS bd kd k H locs ls) (ih : ∀ (H : Heap) (locs : List Loc) (ls : Array Slot), LW (dC, dI) A s b ad kc fr gnS wS bd kd (k + 1) H locs ls → W p l e room_1 s m #[Value.ref b] below meth c H locs (70 + 9 * (k + 1)) (7203 + 400 * (k + 1)) (lw_Z below #[Value.ref b] s) (F0 m 18 ls [])) : W p l e room_1 s m #[Value.ref b] below meth c H locs (70 + 9 * k) (7203 + 400 * k) (lw_Z below #[Value.ref b] s) (F0 m 319 ls []) := by
  obtain ⟨hx, hb, hr, hml, hown, hts, hX, hbl, hlocks, hgv⟩ := id C0
  have hown : s.vm.findClass RL = some m.cls := hown
  have hts := fun w (h : w ∈ wz_law) => hts w (wz_law_in w h)
  have hbA : ¬ A b := fun h => absurd (hA2 b h) (Nat.not_le.mpr hbl)
  obtain ⟨Wx, Wm, iv, fI, ja, hREL, hKR, hXI, hMN, hP, hD, hS, hl⟩ := hW
  refine lv_aload_n hx hb dL_law_319 rfl (lv_at hl 2 rfl) ?_
  refine lv_aload_n hx hb dL_law_320 rfl (lv_at hl 3 rfl) ?_
  refine lv_iload_n hx hb dL_law_321 rfl (lv_at hl 0 rfl) ?_
  refine lv_iconst (v := 1) hx hb dL_law_322 (by decide) ?_
  refine lv_iadd hx hb dL_law_323 ?_
  refine lv_topi (fun z_1 ez_1 => ?_)
  obtain rfl : z_1 = nI ((6 * k) + 1) := ez_1.trans (nI_add ((6 * k)) 1)
  refine va_sld hx hb hX hbl hbA hS (vp_in_nI (by omega) (by omega)) dL_law_324 ?_
  refine lv_topi (fun a_2 ea_2 => ?_)
  obtain ⟨lv, ia, la, ot, t0, t1, t2, hR, i0, i1, i2, rfl⟩ := hXI
  have hFx := free_of hD.left hS hA
  refine va_calli (va_runV (As := [.int a_2]) (rest := []) ⟨hx, hb, hml, hown, hts⟩ (Met_xi (kx_fault l dC dI H.size ad kc fr gnS wS iv lv ia la ot fI hFX hR a_2) i0 i1 i2 (EY := fun _ => True) (fun _ _ h => h)) (cwV 1 hts g_law_X6_fault rfl rfl rfl (by decide +kernel) ⟨Nat.le_of_ble_eq_true rfl, Nat.le_of_ble_eq_true rfl⟩) ⟨fun a U g mk q => by obtain ⟨q0, q1, qP, qK, qD, qE⟩ := q; exact ⟨q0, q1, qP, va_K.moved (u := U) (U := U.calling g mk a) (Vm.Alike.refl U.vm) qK, qD, trivial⟩, va_recv hK hP.left (ci := 6) (q0 := 0) rfl rfl, fun U hU hW => ⟨rfl, by rw [hU], by rw [hU]; exact hP.left, va_K.moved hW.alike hK, hD.left.weaken (fun _ _ _ _ => trivial), trivial⟩⟩ rfl rfl hl.1 rfl (lv_room (Nat.le_of_ble_eq_true rfl)) dL_law_325 ⟨by show 70 + 9 * k + 0 + 0 ≤ 600000; omega, by show 7203 + 400 * k + 0 + 0 ≤ 7302250; omega⟩) hS (fun q _ h => hFx q h) hFx (fun r_3 V_5 t H1 locs ht hvm hw_4 hB hz1 hk1 hS => ?_)
  obtain ⟨hP, hD⟩ := va_joinA hP hD hk1 hFx (by rw [← ht]; exact hB.1) hB.2
  generalize H1 = H at hP hS ⊢
  obtain ⟨hp9, iv2, fI2, hch, hXJ⟩ := hw_4
  refine lv_pop hx hb dL_law_328 rfl ?_
  refine lv_aload_n hx hb dL_law_329 rfl (lv_at hl 1 rfl) ?_
  refine lv_aload_n hx hb dL_law_330 rfl (lv_at hl 3 rfl) ?_
  refine lv_iload_n hx hb dL_law_331 rfl (lv_at hl 0 rfl) ?_
  refine lv_iconst (v := 1) hx hb dL_law_332 (by decide) ?_
  refine lv_iadd hx hb dL_law_333 ?_
  refine lv_topi (fun z_6 ez_6 => ?_)
  obtain rfl : z_6 = nI ((6 * k) + 1) := ez_6.trans (nI_add ((6 * k)) 1)
  refine va_sld hx hb hX hbl hbA hS (vp_in_nI (by omega) (by omega)) dL_law_334 ?_
  refine lv_topi (fun a_7 ea_7 => ?_)
  obtain rfl : a_2 = a_7 := ea_2.trans ea_7.symm
  obtain ⟨jv, jl, jb, hR2, rfl⟩ := hMN
  obtain ⟨hP, hD⟩ := va_swap hP hD
  have hFx := free_of hD.left hS hA
  refine va_calli (va_runV (As := [.int a_2]) (rest := []) ⟨hx, hb, hml, hown, hts⟩ (km_fault l dC dI H.size bd kd jv jl ja jb hR2 a_2) (cwV 1 hts g_law_X7_fault rfl rfl rfl (by decide +kernel) ⟨Nat.le_of_ble_eq_true rfl, Nat.le_of_ble_eq_true rfl⟩) ⟨fun a U g mk q => by obtain ⟨q0, q1, qP, qK, qD, qE⟩ := q; exact ⟨q0, q1, qP, va_K.moved (u := U) (U := U.calling g mk a) (Vm.Alike.refl U.vm) qK, qD, trivial⟩, va_recv hK2 hP.left (ci := 7) (q0 := 0) rfl rfl, fun U hU hW => ⟨rfl, by rw [hU], by rw [hU]; exact hP.left, va_K.moved hW.alike hK2, hD.left.weaken (fun _ _ _ _ => trivial), trivial⟩⟩ rfl rfl hl.1 rfl (lv_room (Nat.le_of_ble_eq_true rfl)) dL_law_335 ⟨by show 70 + 9 * k + 0 + 0 ≤ 600000; omega, by show 7203 + 400 * k + 0 + 0 ≤ 7302250; omega⟩) hS (fun q _ h => hFx q h) hFx (fun r_8 V_10 t H1 locs ht hvm hw_9 hB hz1 hk1 hS => ?_)
  obtain ⟨hP, hD⟩ := va_joinA hP hD hk1 hFx (by rw [← ht]; exact hB.1) hB.2
  generalize H1 = H at hP hS ⊢
  obtain ⟨hP, hD⟩ := va_swap hP hD
  obtain ⟨hq9, jv2, jl2, ja2, jb2, hcm, hMR, rfl⟩ := hw_9
  refine lv_pop hx hb dL_law_338 rfl ?_
  refine lv_goto (tgt := 1569) hx hb dL_law_339 (by decide) ?_
  refine lv_iinc (v := nI (6 * (k + 1))) (lv' := [(3, .int (nI (6 * (k + 1)))), (2, .ref (bd 0)), (1, .ref (ad 0)), (0, .ref b)]) hx hb dL_law_1569 hl (k := 0) rfl (show nI (6 * k) + nI 6 = nI (6 * (k + 1)) from nI_add (6 * k) 6) (by decide) rfl (fun ls hl => ?_)
  refine lv_goto (tgt := 18) hx hb dL_law_1572 (by decide) ?_
  refine W.widen (k := 70 + 9 * (k + 1)) (n := 7203 + 400 * (k + 1)) (by omega) (by omega) ?_
  exact ih _ _ _ ⟨V_5, _, iv2, fI2, ja2, hREL.same hch.1 hcm.1 hcm.2.1, hKR.same hch.2 hcm.2.2, hXJ, ⟨jv2, jl2, jb2, hMR, rfl⟩, hP, hD, hS, lv_sub hl [0, 1, 2, 3] rfl⟩

set_option maxHeartbeats 4000000 in
set_option maxRecDepth 100000 in
/-- the law, its call 4: sides -/
theorem lc_4 {p : Program} {e : Env} {s : State} {m : MethodId} {below : List Frame} {meth : Method} {c : Code} (l : Launch) {b L : Nat} {xs : Nat → Int32} (hL : L ≤ 3072) (C0 : lw_At p s m meth c b L xs) {A : Nat → Prop} (hA : ∀ q, s.heap.size ≤ q → A q) (hA2 : ∀ q, A q → s.heap.size ≤ q) (hE0 : Kx s) {sa sv sn : Nat → Nat} (hE9 : sx sa sv sn A s) {dC : Nat → ClassId} {dI : Nat → Nat → Nat} {ad : Nat → Nat} {kc : Nat → ClassId} {fr gnS wS : Nat → Option Nat} {bd : Nat → Nat} {kd : Nat → ClassId} (hFX : FX ad fr gnS wS) (hK : va_K (dC, dI) vwCl (XT kc) s) (hK2 : va_K (dC, dI) vwCl (MT kd) s) {k : Nat} (hk : 6 * k + 6 ≤ L) {H : Heap} {locs : List Loc} {ls : Array Slot} (hW : LW (dC, dI) A s b ad kc fr gnS wS bd kd k H locs ls) (ih : ∀ (H : Heap) (locs : List Loc) (ls : Array Slot), LW (dC, dI) A s b ad kc fr gnS wS bd kd (k + 1) H locs ls → W p l e room_1 s m #[Value.ref b] below meth c H locs (70 + 9 * (k + 1)) (7203 + 400 * (k + 1)) (lw_Z below #[Value.ref b] s) (F0 m 18 ls [])) : W p l e room_1 s m #[Value.ref b] below meth c H locs (70 + 9 * k) (7203 + 400 * k) (lw_Z below #[Value.ref b] s) (F0 m 342 ls []) := by
  obtain ⟨hx, hb, hr, hml, hown, hts, hX, hbl, hlocks, hgv⟩ := id C0
  have hown : s.vm.findClass RL = some m.cls := hown
  have hts := fun w (h : w ∈ wz_law) => hts w (wz_law_in w h)
  have hbA : ¬ A b := fun h => absurd (hA2 b h) (Nat.not_le.mpr hbl)
  obtain ⟨Wx, Wm, iv, fI, ja, hREL, hKR, hXI, hMN, hP, hD, hS, hl⟩ := hW
  refine lv_aload_n hx hb dL_law_342 rfl (lv_at hl 2 rfl) ?_
  obtain ⟨lv, ia, la, ot, t0, t1, t2, hR, i0, i1, i2, rfl⟩ := hXI
  have hFx := free_of hD.left hS hA
  refine va_calli (va_runV (As := []) (rest := []) ⟨hx, hb, hml, hown, hts⟩ (Met_xi (kx_sides l dC dI H.size ad kc fr gnS wS iv lv ia la ot fI hFX hR ) i0 i1 i2 (EY := fun _ => True) (fun _ _ h => h)) (cwV 0 hts g_law_X6_sides rfl rfl rfl (by decide +kernel) ⟨Nat.le_of_ble_eq_true rfl, Nat.le_of_ble_eq_true rfl⟩) ⟨fun a U g mk q => by obtain ⟨q0, q1, qP, qK, qD, qE⟩ := q; exact ⟨q0, q1, qP, va_K.moved (u := U) (U := U.calling g mk a) (Vm.Alike.refl U.vm) qK, qD, trivial⟩, va_recv hK hP.left (ci := 6) (q0 := 0) rfl rfl, fun U hU hW => ⟨rfl, by rw [hU], by rw [hU]; exact hP.left, va_K.moved hW.alike hK, hD.left.weaken (fun _ _ _ _ => trivial), trivial⟩⟩ rfl rfl hl.1 rfl (lv_room (Nat.le_of_ble_eq_true rfl)) dL_law_343 ⟨by show 70 + 9 * k + 0 + 0 ≤ 600000; omega, by show 7203 + 400 * k + 0 + 0 ≤ 7302250; omega⟩) hS (fun q _ h => hFx q h) hFx (fun r_1 V_3 t H1 locs ht hvm hw_2 hB hz1 hk1 hS => ?_)
  obtain ⟨hP, hD⟩ := va_joinA hP hD hk1 hFx (by rw [← ht]; exact hB.1) hB.2
  generalize H1 = H at hP hS ⊢
  obtain ⟨hp9, iv2, fI2, hch, hXJ⟩ := hw_2
  refine lv_pop hx hb dL_law_346 rfl ?_
  refine lv_aload_n hx hb dL_law_347 rfl (lv_at hl 1 rfl) ?_
  obtain ⟨jv, jl, jb, hR2, rfl⟩ := hMN
  obtain ⟨hP, hD⟩ := va_swap hP hD
  have hFx := free_of hD.left hS hA
  refine va_calli (va_runV (As := []) (rest := []) ⟨hx, hb, hml, hown, hts⟩ (km_sides l dC dI H.size bd kd jv jl ja jb hR2 ) (cwV 0 hts g_law_X7_sides rfl rfl rfl (by decide +kernel) ⟨Nat.le_of_ble_eq_true rfl, Nat.le_of_ble_eq_true rfl⟩) ⟨fun a U g mk q => by obtain ⟨q0, q1, qP, qK, qD, qE⟩ := q; exact ⟨q0, q1, qP, va_K.moved (u := U) (U := U.calling g mk a) (Vm.Alike.refl U.vm) qK, qD, trivial⟩, va_recv hK2 hP.left (ci := 7) (q0 := 0) rfl rfl, fun U hU hW => ⟨rfl, by rw [hU], by rw [hU]; exact hP.left, va_K.moved hW.alike hK2, hD.left.weaken (fun _ _ _ _ => trivial), trivial⟩⟩ rfl rfl hl.1 rfl (lv_room (Nat.le_of_ble_eq_true rfl)) dL_law_348 ⟨by show 70 + 9 * k + 0 + 0 ≤ 600000; omega, by show 7203 + 400 * k + 0 + 0 ≤ 7302250; omega⟩) hS (fun q _ h => hFx q h) hFx (fun r_4 V_6 t H1 locs ht hvm hw_5 hB hz1 hk1 hS => ?_)
  obtain ⟨hP, hD⟩ := va_joinA hP hD hk1 hFx (by rw [← ht]; exact hB.1) hB.2
  generalize H1 = H at hP hS ⊢
  obtain ⟨hP, hD⟩ := va_swap hP hD
  obtain ⟨hq9, jv2, jl2, ja2, jb2, hcm, hMR, rfl⟩ := hw_5
  refine lv_pop hx hb dL_law_351 rfl ?_
  refine lv_goto (tgt := 1569) hx hb dL_law_352 (by decide) ?_
  refine lv_iinc (v := nI (6 * (k + 1))) (lv' := [(3, .int (nI (6 * (k + 1)))), (2, .ref (bd 0)), (1, .ref (ad 0)), (0, .ref b)]) hx hb dL_law_1569 hl (k := 0) rfl (show nI (6 * k) + nI 6 = nI (6 * (k + 1)) from nI_add (6 * k) 6) (by decide) rfl (fun ls hl => ?_)
  refine lv_goto (tgt := 18) hx hb dL_law_1572 (by decide) ?_
  refine W.widen (k := 70 + 9 * (k + 1)) (n := 7203 + 400 * (k + 1)) (by omega) (by omega) ?_
  exact ih _ _ _ ⟨V_3, _, iv2, fI2, ja2, hREL.same hch.1 hcm.1 hcm.2.1, hKR.same hch.2 hcm.2.2, hXJ, ⟨jv2, jl2, jb2, hMR, rfl⟩, hP, hD, hS, lv_sub hl [0, 1, 2, 3] rfl⟩

set_option maxHeartbeats 4000000 in
set_option maxRecDepth 100000 in
/-- the law, its call 5: side -/
theorem lc_5 {p : Program} {e : Env} {s : State} {m : MethodId} {below : List Frame} {meth : Method} {c : Code} (l : Launch) {b L : Nat} {xs : Nat → Int32} (hL : L ≤ 3072) (C0 : lw_At p s m meth c b L xs) {A : Nat → Prop} (hA : ∀ q, s.heap.size ≤ q → A q) (hA2 : ∀ q, A q → s.heap.size ≤ q) (hE0 : Kx s) {sa sv sn : Nat → Nat} (hE9 : sx sa sv sn A s) {dC : Nat → ClassId} {dI : Nat → Nat → Nat} {ad : Nat → Nat} {kc : Nat → ClassId} {fr gnS wS : Nat → Option Nat} {bd : Nat → Nat} {kd : Nat → ClassId} (hFX : FX ad fr gnS wS) (hK : va_K (dC, dI) vwCl (XT kc) s) (hK2 : va_K (dC, dI) vwCl (MT kd) s) {k : Nat} (hk : 6 * k + 6 ≤ L) {H : Heap} {locs : List Loc} {ls : Array Slot} (hW : LW (dC, dI) A s b ad kc fr gnS wS bd kd k H locs ls) (ih : ∀ (H : Heap) (locs : List Loc) (ls : Array Slot), LW (dC, dI) A s b ad kc fr gnS wS bd kd (k + 1) H locs ls → W p l e room_1 s m #[Value.ref b] below meth c H locs (70 + 9 * (k + 1)) (7203 + 400 * (k + 1)) (lw_Z below #[Value.ref b] s) (F0 m 18 ls [])) : W p l e room_1 s m #[Value.ref b] below meth c H locs (70 + 9 * k) (7203 + 400 * k) (lw_Z below #[Value.ref b] s) (F0 m 355 ls []) := by
  obtain ⟨hx, hb, hr, hml, hown, hts, hX, hbl, hlocks, hgv⟩ := id C0
  have hown : s.vm.findClass RL = some m.cls := hown
  have hts := fun w (h : w ∈ wz_law) => hts w (wz_law_in w h)
  have hbA : ¬ A b := fun h => absurd (hA2 b h) (Nat.not_le.mpr hbl)
  obtain ⟨Wx, Wm, iv, fI, ja, hREL, hKR, hXI, hMN, hP, hD, hS, hl⟩ := hW
  refine lv_aload_n hx hb dL_law_355 rfl (lv_at hl 2 rfl) ?_
  refine lv_aload_n hx hb dL_law_356 rfl (lv_at hl 3 rfl) ?_
  refine lv_iload_n hx hb dL_law_357 rfl (lv_at hl 0 rfl) ?_
  refine lv_iconst (v := 1) hx hb dL_law_358 (by decide) ?_
  refine lv_iadd hx hb dL_law_359 ?_
  refine lv_topi (fun z_1 ez_1 => ?_)
  obtain rfl : z_1 = nI ((6 * k) + 1) := ez_1.trans (nI_add ((6 * k)) 1)
  refine va_sld hx hb hX hbl hbA hS (vp_in_nI (by omega) (by omega)) dL_law_360 ?_
  refine lv_topi (fun a_2 ea_2 => ?_)
  refine lv_aload_n hx hb dL_law_361 rfl (lv_at hl 3 rfl) ?_
  refine lv_iload_n hx hb dL_law_362 rfl (lv_at hl 0 rfl) ?_
  refine lv_iconst (v := 2) hx hb dL_law_363 (by decide) ?_
  refine lv_iadd hx hb dL_law_364 ?_
  refine lv_topi (fun z_3 ez_3 => ?_)
  obtain rfl : z_3 = nI ((6 * k) + 2) := ez_3.trans (nI_add ((6 * k)) 2)
  refine va_sld hx hb hX hbl hbA hS (vp_in_nI (by omega) (by omega)) dL_law_365 ?_
  refine lv_topi (fun a_4 ea_4 => ?_)
  obtain ⟨lv, ia, la, ot, t0, t1, t2, hR, i0, i1, i2, rfl⟩ := hXI
  have hFx := free_of hD.left hS hA
  refine va_calli (va_runV (As := [.int a_2, .int a_4]) (rest := []) ⟨hx, hb, hml, hown, hts⟩ (Met_xi (kx_side l dC dI H.size ad kc fr gnS wS iv lv ia la ot fI hFX hR a_2 a_4) i0 i1 i2 (EY := fun _ => True) (fun _ _ h => h)) (cwV 2 hts g_law_X6_side rfl rfl rfl (by decide +kernel) ⟨Nat.le_of_ble_eq_true rfl, Nat.le_of_ble_eq_true rfl⟩) ⟨fun a U g mk q => by obtain ⟨q0, q1, qP, qK, qD, qE⟩ := q; exact ⟨q0, q1, qP, va_K.moved (u := U) (U := U.calling g mk a) (Vm.Alike.refl U.vm) qK, qD, trivial⟩, va_recv hK hP.left (ci := 6) (q0 := 0) rfl rfl, fun U hU hW => ⟨rfl, by rw [hU], by rw [hU]; exact hP.left, va_K.moved hW.alike hK, hD.left.weaken (fun _ _ _ _ => trivial), trivial⟩⟩ rfl rfl hl.1 rfl (lv_room (Nat.le_of_ble_eq_true rfl)) dL_law_366 ⟨by show 70 + 9 * k + 0 + 0 ≤ 600000; omega, by show 7203 + 400 * k + 0 + 0 ≤ 7302250; omega⟩) hS (fun q _ h => hFx q h) hFx (fun r_5 V_7 t H1 locs ht hvm hw_6 hB hz1 hk1 hS => ?_)
  obtain ⟨hP, hD⟩ := va_joinA hP hD hk1 hFx (by rw [← ht]; exact hB.1) hB.2
  generalize H1 = H at hP hS ⊢
  obtain ⟨hp9, iv2, fI2, hch, hXJ⟩ := hw_6
  refine lv_pop hx hb dL_law_369 rfl ?_
  refine lv_aload_n hx hb dL_law_370 rfl (lv_at hl 1 rfl) ?_
  refine lv_aload_n hx hb dL_law_371 rfl (lv_at hl 3 rfl) ?_
  refine lv_iload_n hx hb dL_law_372 rfl (lv_at hl 0 rfl) ?_
  refine lv_iconst (v := 1) hx hb dL_law_373 (by decide) ?_
  refine lv_iadd hx hb dL_law_374 ?_
  refine lv_topi (fun z_8 ez_8 => ?_)
  obtain rfl : z_8 = nI ((6 * k) + 1) := ez_8.trans (nI_add ((6 * k)) 1)
  refine va_sld hx hb hX hbl hbA hS (vp_in_nI (by omega) (by omega)) dL_law_375 ?_
  refine lv_topi (fun a_9 ea_9 => ?_)
  obtain rfl : a_2 = a_9 := ea_2.trans ea_9.symm
  refine lv_aload_n hx hb dL_law_376 rfl (lv_at hl 3 rfl) ?_
  refine lv_iload_n hx hb dL_law_377 rfl (lv_at hl 0 rfl) ?_
  refine lv_iconst (v := 2) hx hb dL_law_378 (by decide) ?_
  refine lv_iadd hx hb dL_law_379 ?_
  refine lv_topi (fun z_10 ez_10 => ?_)
  obtain rfl : z_10 = nI ((6 * k) + 2) := ez_10.trans (nI_add ((6 * k)) 2)
  refine va_sld hx hb hX hbl hbA hS (vp_in_nI (by omega) (by omega)) dL_law_380 ?_
  refine lv_topi (fun a_11 ea_11 => ?_)
  obtain rfl : a_4 = a_11 := ea_4.trans ea_11.symm
  obtain ⟨jv, jl, jb, hR2, rfl⟩ := hMN
  obtain ⟨hP, hD⟩ := va_swap hP hD
  have hFx := free_of hD.left hS hA
  refine va_calli (va_runV (As := [.int a_2, .int a_4]) (rest := []) ⟨hx, hb, hml, hown, hts⟩ (km_side l dC dI H.size bd kd jv jl ja jb hR2 a_2 a_4) (cwV 2 hts g_law_X7_side rfl rfl rfl (by decide +kernel) ⟨Nat.le_of_ble_eq_true rfl, Nat.le_of_ble_eq_true rfl⟩) ⟨fun a U g mk q => by obtain ⟨q0, q1, qP, qK, qD, qE⟩ := q; exact ⟨q0, q1, qP, va_K.moved (u := U) (U := U.calling g mk a) (Vm.Alike.refl U.vm) qK, qD, trivial⟩, va_recv hK2 hP.left (ci := 7) (q0 := 0) rfl rfl, fun U hU hW => ⟨rfl, by rw [hU], by rw [hU]; exact hP.left, va_K.moved hW.alike hK2, hD.left.weaken (fun _ _ _ _ => trivial), trivial⟩⟩ rfl rfl hl.1 rfl (lv_room (Nat.le_of_ble_eq_true rfl)) dL_law_381 ⟨by show 70 + 9 * k + 0 + 0 ≤ 600000; omega, by show 7203 + 400 * k + 0 + 0 ≤ 7302250; omega⟩) hS (fun q _ h => hFx q h) hFx (fun r_12 V_14 t H1 locs ht hvm hw_13 hB hz1 hk1 hS => ?_)
  obtain ⟨hP, hD⟩ := va_joinA hP hD hk1 hFx (by rw [← ht]; exact hB.1) hB.2
  generalize H1 = H at hP hS ⊢
  obtain ⟨hP, hD⟩ := va_swap hP hD
  obtain ⟨hq9, jv2, jl2, ja2, jb2, hcm, hMR, rfl⟩ := hw_13
  refine lv_pop hx hb dL_law_384 rfl ?_
  refine lv_goto (tgt := 1569) hx hb dL_law_385 (by decide) ?_
  refine lv_iinc (v := nI (6 * (k + 1))) (lv' := [(3, .int (nI (6 * (k + 1)))), (2, .ref (bd 0)), (1, .ref (ad 0)), (0, .ref b)]) hx hb dL_law_1569 hl (k := 0) rfl (show nI (6 * k) + nI 6 = nI (6 * (k + 1)) from nI_add (6 * k) 6) (by decide) rfl (fun ls hl => ?_)
  refine lv_goto (tgt := 18) hx hb dL_law_1572 (by decide) ?_
  refine W.widen (k := 70 + 9 * (k + 1)) (n := 7203 + 400 * (k + 1)) (by omega) (by omega) ?_
  exact ih _ _ _ ⟨V_7, _, iv2, fI2, ja2, hREL.same hch.1 hcm.1 hcm.2.1, hKR.same hch.2 hcm.2.2, hXJ, ⟨jv2, jl2, jb2, hMR, rfl⟩, hP, hD, hS, lv_sub hl [0, 1, 2, 3] rfl⟩

set_option maxHeartbeats 4000000 in
set_option maxRecDepth 100000 in
/-- the law, its call 6: what -/
theorem lc_6 {p : Program} {e : Env} {s : State} {m : MethodId} {below : List Frame} {meth : Method} {c : Code} (l : Launch) {b L : Nat} {xs : Nat → Int32} (hL : L ≤ 3072) (C0 : lw_At p s m meth c b L xs) {A : Nat → Prop} (hA : ∀ q, s.heap.size ≤ q → A q) (hA2 : ∀ q, A q → s.heap.size ≤ q) (hE0 : Kx s) {sa sv sn : Nat → Nat} (hE9 : sx sa sv sn A s) {dC : Nat → ClassId} {dI : Nat → Nat → Nat} {ad : Nat → Nat} {kc : Nat → ClassId} {fr gnS wS : Nat → Option Nat} {bd : Nat → Nat} {kd : Nat → ClassId} (hFX : FX ad fr gnS wS) (hK : va_K (dC, dI) vwCl (XT kc) s) (hK2 : va_K (dC, dI) vwCl (MT kd) s) {k : Nat} (hk : 6 * k + 6 ≤ L) {H : Heap} {locs : List Loc} {ls : Array Slot} (hW : LW (dC, dI) A s b ad kc fr gnS wS bd kd k H locs ls) (ih : ∀ (H : Heap) (locs : List Loc) (ls : Array Slot), LW (dC, dI) A s b ad kc fr gnS wS bd kd (k + 1) H locs ls → W p l e room_1 s m #[Value.ref b] below meth c H locs (70 + 9 * (k + 1)) (7203 + 400 * (k + 1)) (lw_Z below #[Value.ref b] s) (F0 m 18 ls [])) : W p l e room_1 s m #[Value.ref b] below meth c H locs (70 + 9 * k) (7203 + 400 * k) (lw_Z below #[Value.ref b] s) (F0 m 388 ls []) := by
  obtain ⟨hx, hb, hr, hml, hown, hts, hX, hbl, hlocks, hgv⟩ := id C0
  have hown : s.vm.findClass RL = some m.cls := hown
  have hts := fun w (h : w ∈ wz_law) => hts w (wz_law_in w h)
  have hbA : ¬ A b := fun h => absurd (hA2 b h) (Nat.not_le.mpr hbl)
  obtain ⟨Wx, Wm, iv, fI, ja, hREL, hKR, hXI, hMN, hP, hD, hS, hl⟩ := hW
  refine lv_aload_n hx hb dL_law_388 rfl (lv_at hl 2 rfl) ?_
  refine lv_aload_n hx hb dL_law_389 rfl (lv_at hl 3 rfl) ?_
  refine lv_iload_n hx hb dL_law_390 rfl (lv_at hl 0 rfl) ?_
  refine lv_iconst (v := 1) hx hb dL_law_391 (by decide) ?_
  refine lv_iadd hx hb dL_law_392 ?_
  refine lv_topi (fun z_1 ez_1 => ?_)
  obtain rfl : z_1 = nI ((6 * k) + 1) := ez_1.trans (nI_add ((6 * k)) 1)
  refine va_sld hx hb hX hbl hbA hS (vp_in_nI (by omega) (by omega)) dL_law_393 ?_
  refine lv_topi (fun a_2 ea_2 => ?_)
  refine lv_aload_n hx hb dL_law_394 rfl (lv_at hl 3 rfl) ?_
  refine lv_iload_n hx hb dL_law_395 rfl (lv_at hl 0 rfl) ?_
  refine lv_iconst (v := 2) hx hb dL_law_396 (by decide) ?_
  refine lv_iadd hx hb dL_law_397 ?_
  refine lv_topi (fun z_3 ez_3 => ?_)
  obtain rfl : z_3 = nI ((6 * k) + 2) := ez_3.trans (nI_add ((6 * k)) 2)
  refine va_sld hx hb hX hbl hbA hS (vp_in_nI (by omega) (by omega)) dL_law_398 ?_
  refine lv_topi (fun a_4 ea_4 => ?_)
  obtain ⟨lv, ia, la, ot, t0, t1, t2, hR, i0, i1, i2, rfl⟩ := hXI
  have hFx := free_of hD.left hS hA
  refine va_calli (va_runV (As := [.int a_2, .int a_4]) (rest := []) ⟨hx, hb, hml, hown, hts⟩ (Met_xi (kx_what l dC dI H.size ad kc fr gnS wS iv lv ia la ot fI hFX hR a_2 a_4) i0 i1 i2 (EY := fun _ => True) (fun _ _ h => h)) (cwV 2 hts g_law_X6_what rfl rfl rfl (by decide +kernel) ⟨Nat.le_of_ble_eq_true rfl, Nat.le_of_ble_eq_true rfl⟩) ⟨fun a U g mk q => by obtain ⟨q0, q1, qP, qK, qD, qE⟩ := q; exact ⟨q0, q1, qP, va_K.moved (u := U) (U := U.calling g mk a) (Vm.Alike.refl U.vm) qK, qD, trivial⟩, va_recv hK hP.left (ci := 6) (q0 := 0) rfl rfl, fun U hU hW => ⟨rfl, by rw [hU], by rw [hU]; exact hP.left, va_K.moved hW.alike hK, hD.left.weaken (fun _ _ _ _ => trivial), trivial⟩⟩ rfl rfl hl.1 rfl (lv_room (Nat.le_of_ble_eq_true rfl)) dL_law_399 ⟨by show 70 + 9 * k + 0 + 0 ≤ 600000; omega, by show 7203 + 400 * k + 0 + 0 ≤ 7302250; omega⟩) hS (fun q _ h => hFx q h) hFx (fun r_5 V_7 t H1 locs ht hvm hw_6 hB hz1 hk1 hS => ?_)
  obtain ⟨hP, hD⟩ := va_joinA hP hD hk1 hFx (by rw [← ht]; exact hB.1) hB.2
  generalize H1 = H at hP hS ⊢
  obtain ⟨hp9, iv2, fI2, hch, hXJ⟩ := hw_6
  refine lv_pop hx hb dL_law_402 rfl ?_
  refine lv_aload_n hx hb dL_law_403 rfl (lv_at hl 1 rfl) ?_
  refine lv_aload_n hx hb dL_law_404 rfl (lv_at hl 3 rfl) ?_
  refine lv_iload_n hx hb dL_law_405 rfl (lv_at hl 0 rfl) ?_
  refine lv_iconst (v := 1) hx hb dL_law_406 (by decide) ?_
  refine lv_iadd hx hb dL_law_407 ?_
  refine lv_topi (fun z_8 ez_8 => ?_)
  obtain rfl : z_8 = nI ((6 * k) + 1) := ez_8.trans (nI_add ((6 * k)) 1)
  refine va_sld hx hb hX hbl hbA hS (vp_in_nI (by omega) (by omega)) dL_law_408 ?_
  refine lv_topi (fun a_9 ea_9 => ?_)
  obtain rfl : a_2 = a_9 := ea_2.trans ea_9.symm
  refine lv_aload_n hx hb dL_law_409 rfl (lv_at hl 3 rfl) ?_
  refine lv_iload_n hx hb dL_law_410 rfl (lv_at hl 0 rfl) ?_
  refine lv_iconst (v := 2) hx hb dL_law_411 (by decide) ?_
  refine lv_iadd hx hb dL_law_412 ?_
  refine lv_topi (fun z_10 ez_10 => ?_)
  obtain rfl : z_10 = nI ((6 * k) + 2) := ez_10.trans (nI_add ((6 * k)) 2)
  refine va_sld hx hb hX hbl hbA hS (vp_in_nI (by omega) (by omega)) dL_law_413 ?_
  refine lv_topi (fun a_11 ea_11 => ?_)
  obtain rfl : a_4 = a_11 := ea_4.trans ea_11.symm
  obtain ⟨jv, jl, jb, hR2, rfl⟩ := hMN
  obtain ⟨hP, hD⟩ := va_swap hP hD
  have hFx := free_of hD.left hS hA
  refine va_calli (va_runV (As := [.int a_2, .int a_4]) (rest := []) ⟨hx, hb, hml, hown, hts⟩ (km_what l dC dI H.size bd kd jv jl ja jb hR2 a_2 a_4) (cwV 2 hts g_law_X7_what rfl rfl rfl (by decide +kernel) ⟨Nat.le_of_ble_eq_true rfl, Nat.le_of_ble_eq_true rfl⟩) ⟨fun a U g mk q => by obtain ⟨q0, q1, qP, qK, qD, qE⟩ := q; exact ⟨q0, q1, qP, va_K.moved (u := U) (U := U.calling g mk a) (Vm.Alike.refl U.vm) qK, qD, trivial⟩, va_recv hK2 hP.left (ci := 7) (q0 := 0) rfl rfl, fun U hU hW => ⟨rfl, by rw [hU], by rw [hU]; exact hP.left, va_K.moved hW.alike hK2, hD.left.weaken (fun _ _ _ _ => trivial), trivial⟩⟩ rfl rfl hl.1 rfl (lv_room (Nat.le_of_ble_eq_true rfl)) dL_law_414 ⟨by show 70 + 9 * k + 0 + 0 ≤ 600000; omega, by show 7203 + 400 * k + 0 + 0 ≤ 7302250; omega⟩) hS (fun q _ h => hFx q h) hFx (fun r_12 V_14 t H1 locs ht hvm hw_13 hB hz1 hk1 hS => ?_)
  obtain ⟨hP, hD⟩ := va_joinA hP hD hk1 hFx (by rw [← ht]; exact hB.1) hB.2
  generalize H1 = H at hP hS ⊢
  obtain ⟨hP, hD⟩ := va_swap hP hD
  obtain ⟨hq9, jv2, jl2, ja2, jb2, hcm, hMR, rfl⟩ := hw_13
  refine lv_pop hx hb dL_law_417 rfl ?_
  refine lv_goto (tgt := 1569) hx hb dL_law_418 (by decide) ?_
  refine lv_iinc (v := nI (6 * (k + 1))) (lv' := [(3, .int (nI (6 * (k + 1)))), (2, .ref (bd 0)), (1, .ref (ad 0)), (0, .ref b)]) hx hb dL_law_1569 hl (k := 0) rfl (show nI (6 * k) + nI 6 = nI (6 * (k + 1)) from nI_add (6 * k) 6) (by decide) rfl (fun ls hl => ?_)
  refine lv_goto (tgt := 18) hx hb dL_law_1572 (by decide) ?_
  refine W.widen (k := 70 + 9 * (k + 1)) (n := 7203 + 400 * (k + 1)) (by omega) (by omega) ?_
  exact ih _ _ _ ⟨V_7, _, iv2, fI2, ja2, hREL.same hch.1 hcm.1 hcm.2.1, hKR.same hch.2 hcm.2.2, hXJ, ⟨jv2, jl2, jb2, hMR, rfl⟩, hP, hD, hS, lv_sub hl [0, 1, 2, 3] rfl⟩

set_option maxHeartbeats 4000000 in
set_option maxRecDepth 100000 in
/-- the law, its call 7: far -/
theorem lc_7 {p : Program} {e : Env} {s : State} {m : MethodId} {below : List Frame} {meth : Method} {c : Code} (l : Launch) {b L : Nat} {xs : Nat → Int32} (hL : L ≤ 3072) (C0 : lw_At p s m meth c b L xs) {A : Nat → Prop} (hA : ∀ q, s.heap.size ≤ q → A q) (hA2 : ∀ q, A q → s.heap.size ≤ q) (hE0 : Kx s) {sa sv sn : Nat → Nat} (hE9 : sx sa sv sn A s) {dC : Nat → ClassId} {dI : Nat → Nat → Nat} {ad : Nat → Nat} {kc : Nat → ClassId} {fr gnS wS : Nat → Option Nat} {bd : Nat → Nat} {kd : Nat → ClassId} (hFX : FX ad fr gnS wS) (hK : va_K (dC, dI) vwCl (XT kc) s) (hK2 : va_K (dC, dI) vwCl (MT kd) s) {k : Nat} (hk : 6 * k + 6 ≤ L) {H : Heap} {locs : List Loc} {ls : Array Slot} (hW : LW (dC, dI) A s b ad kc fr gnS wS bd kd k H locs ls) (ih : ∀ (H : Heap) (locs : List Loc) (ls : Array Slot), LW (dC, dI) A s b ad kc fr gnS wS bd kd (k + 1) H locs ls → W p l e room_1 s m #[Value.ref b] below meth c H locs (70 + 9 * (k + 1)) (7203 + 400 * (k + 1)) (lw_Z below #[Value.ref b] s) (F0 m 18 ls [])) : W p l e room_1 s m #[Value.ref b] below meth c H locs (70 + 9 * k) (7203 + 400 * k) (lw_Z below #[Value.ref b] s) (F0 m 421 ls []) := by
  obtain ⟨hx, hb, hr, hml, hown, hts, hX, hbl, hlocks, hgv⟩ := id C0
  have hown : s.vm.findClass RL = some m.cls := hown
  have hts := fun w (h : w ∈ wz_law) => hts w (wz_law_in w h)
  have hbA : ¬ A b := fun h => absurd (hA2 b h) (Nat.not_le.mpr hbl)
  obtain ⟨Wx, Wm, iv, fI, ja, hREL, hKR, hXI, hMN, hP, hD, hS, hl⟩ := hW
  refine lv_aload_n hx hb dL_law_421 rfl (lv_at hl 2 rfl) ?_
  refine lv_aload_n hx hb dL_law_422 rfl (lv_at hl 3 rfl) ?_
  refine lv_iload_n hx hb dL_law_423 rfl (lv_at hl 0 rfl) ?_
  refine lv_iconst (v := 1) hx hb dL_law_424 (by decide) ?_
  refine lv_iadd hx hb dL_law_425 ?_
  refine lv_topi (fun z_1 ez_1 => ?_)
  obtain rfl : z_1 = nI ((6 * k) + 1) := ez_1.trans (nI_add ((6 * k)) 1)
  refine va_sld hx hb hX hbl hbA hS (vp_in_nI (by omega) (by omega)) dL_law_426 ?_
  refine lv_topi (fun a_2 ea_2 => ?_)
  refine lv_aload_n hx hb dL_law_427 rfl (lv_at hl 3 rfl) ?_
  refine lv_iload_n hx hb dL_law_428 rfl (lv_at hl 0 rfl) ?_
  refine lv_iconst (v := 2) hx hb dL_law_429 (by decide) ?_
  refine lv_iadd hx hb dL_law_430 ?_
  refine lv_topi (fun z_3 ez_3 => ?_)
  obtain rfl : z_3 = nI ((6 * k) + 2) := ez_3.trans (nI_add ((6 * k)) 2)
  refine va_sld hx hb hX hbl hbA hS (vp_in_nI (by omega) (by omega)) dL_law_431 ?_
  refine lv_topi (fun a_4 ea_4 => ?_)
  obtain ⟨lv, ia, la, ot, t0, t1, t2, hR, i0, i1, i2, rfl⟩ := hXI
  have hFx := free_of hD.left hS hA
  refine va_calli (va_runV (As := [.int a_2, .int a_4]) (rest := []) ⟨hx, hb, hml, hown, hts⟩ (Met_xi (kx_far l dC dI H.size ad kc fr gnS wS iv lv ia la ot fI hFX hR a_2 a_4) i0 i1 i2 (EY := fun _ => True) (fun _ _ h => h)) (cwV 2 hts g_law_X6_far rfl rfl rfl (by decide +kernel) ⟨Nat.le_of_ble_eq_true rfl, Nat.le_of_ble_eq_true rfl⟩) ⟨fun a U g mk q => by obtain ⟨q0, q1, qP, qK, qD, qE⟩ := q; exact ⟨q0, q1, qP, va_K.moved (u := U) (U := U.calling g mk a) (Vm.Alike.refl U.vm) qK, qD, trivial⟩, va_recv hK hP.left (ci := 6) (q0 := 0) rfl rfl, fun U hU hW => ⟨rfl, by rw [hU], by rw [hU]; exact hP.left, va_K.moved hW.alike hK, hD.left.weaken (fun _ _ _ _ => trivial), trivial⟩⟩ rfl rfl hl.1 rfl (lv_room (Nat.le_of_ble_eq_true rfl)) dL_law_432 ⟨by show 70 + 9 * k + 0 + 0 ≤ 600000; omega, by show 7203 + 400 * k + 0 + 0 ≤ 7302250; omega⟩) hS (fun q _ h => hFx q h) hFx (fun r_5 V_7 t H1 locs ht hvm hw_6 hB hz1 hk1 hS => ?_)
  obtain ⟨hP, hD⟩ := va_joinA hP hD hk1 hFx (by rw [← ht]; exact hB.1) hB.2
  generalize H1 = H at hP hS ⊢
  obtain ⟨hp9, iv2, fI2, hch, hXJ⟩ := hw_6
  refine lv_pop hx hb dL_law_435 rfl ?_
  refine lv_aload_n hx hb dL_law_436 rfl (lv_at hl 1 rfl) ?_
  refine lv_aload_n hx hb dL_law_437 rfl (lv_at hl 3 rfl) ?_
  refine lv_iload_n hx hb dL_law_438 rfl (lv_at hl 0 rfl) ?_
  refine lv_iconst (v := 1) hx hb dL_law_439 (by decide) ?_
  refine lv_iadd hx hb dL_law_440 ?_
  refine lv_topi (fun z_8 ez_8 => ?_)
  obtain rfl : z_8 = nI ((6 * k) + 1) := ez_8.trans (nI_add ((6 * k)) 1)
  refine va_sld hx hb hX hbl hbA hS (vp_in_nI (by omega) (by omega)) dL_law_441 ?_
  refine lv_topi (fun a_9 ea_9 => ?_)
  obtain rfl : a_2 = a_9 := ea_2.trans ea_9.symm
  refine lv_aload_n hx hb dL_law_442 rfl (lv_at hl 3 rfl) ?_
  refine lv_iload_n hx hb dL_law_443 rfl (lv_at hl 0 rfl) ?_
  refine lv_iconst (v := 2) hx hb dL_law_444 (by decide) ?_
  refine lv_iadd hx hb dL_law_445 ?_
  refine lv_topi (fun z_10 ez_10 => ?_)
  obtain rfl : z_10 = nI ((6 * k) + 2) := ez_10.trans (nI_add ((6 * k)) 2)
  refine va_sld hx hb hX hbl hbA hS (vp_in_nI (by omega) (by omega)) dL_law_446 ?_
  refine lv_topi (fun a_11 ea_11 => ?_)
  obtain rfl : a_4 = a_11 := ea_4.trans ea_11.symm
  obtain ⟨jv, jl, jb, hR2, rfl⟩ := hMN
  obtain ⟨hP, hD⟩ := va_swap hP hD
  have hFx := free_of hD.left hS hA
  refine va_calli (va_runV (As := [.int a_2, .int a_4]) (rest := []) ⟨hx, hb, hml, hown, hts⟩ (km_far l dC dI H.size bd kd jv jl ja jb hR2 a_2 a_4) (cwV 2 hts g_law_X7_far rfl rfl rfl (by decide +kernel) ⟨Nat.le_of_ble_eq_true rfl, Nat.le_of_ble_eq_true rfl⟩) ⟨fun a U g mk q => by obtain ⟨q0, q1, qP, qK, qD, qE⟩ := q; exact ⟨q0, q1, qP, va_K.moved (u := U) (U := U.calling g mk a) (Vm.Alike.refl U.vm) qK, qD, trivial⟩, va_recv hK2 hP.left (ci := 7) (q0 := 0) rfl rfl, fun U hU hW => ⟨rfl, by rw [hU], by rw [hU]; exact hP.left, va_K.moved hW.alike hK2, hD.left.weaken (fun _ _ _ _ => trivial), trivial⟩⟩ rfl rfl hl.1 rfl (lv_room (Nat.le_of_ble_eq_true rfl)) dL_law_447 ⟨by show 70 + 9 * k + 0 + 0 ≤ 600000; omega, by show 7203 + 400 * k + 0 + 0 ≤ 7302250; omega⟩) hS (fun q _ h => hFx q h) hFx (fun r_12 V_14 t H1 locs ht hvm hw_13 hB hz1 hk1 hS => ?_)
  obtain ⟨hP, hD⟩ := va_joinA hP hD hk1 hFx (by rw [← ht]; exact hB.1) hB.2
  generalize H1 = H at hP hS ⊢
  obtain ⟨hP, hD⟩ := va_swap hP hD
  obtain ⟨hq9, jv2, jl2, ja2, jb2, hcm, hMR, rfl⟩ := hw_13
  refine lv_pop hx hb dL_law_450 rfl ?_
  refine lv_goto (tgt := 1569) hx hb dL_law_451 (by decide) ?_
  refine lv_iinc (v := nI (6 * (k + 1))) (lv' := [(3, .int (nI (6 * (k + 1)))), (2, .ref (bd 0)), (1, .ref (ad 0)), (0, .ref b)]) hx hb dL_law_1569 hl (k := 0) rfl (show nI (6 * k) + nI 6 = nI (6 * (k + 1)) from nI_add (6 * k) 6) (by decide) rfl (fun ls hl => ?_)
  refine lv_goto (tgt := 18) hx hb dL_law_1572 (by decide) ?_
  refine W.widen (k := 70 + 9 * (k + 1)) (n := 7203 + 400 * (k + 1)) (by omega) (by omega) ?_
  exact ih _ _ _ ⟨V_7, _, iv2, fI2, ja2, hREL.same hch.1 hcm.1 hcm.2.1, hKR.same hch.2 hcm.2.2, hXJ, ⟨jv2, jl2, jb2, hMR, rfl⟩, hP, hD, hS, lv_sub hl [0, 1, 2, 3] rfl⟩

set_option maxHeartbeats 4000000 in
set_option maxRecDepth 100000 in
/-- the law, its call 8: way -/
theorem lc_8 {p : Program} {e : Env} {s : State} {m : MethodId} {below : List Frame} {meth : Method} {c : Code} (l : Launch) {b L : Nat} {xs : Nat → Int32} (hL : L ≤ 3072) (C0 : lw_At p s m meth c b L xs) {A : Nat → Prop} (hA : ∀ q, s.heap.size ≤ q → A q) (hA2 : ∀ q, A q → s.heap.size ≤ q) (hE0 : Kx s) {sa sv sn : Nat → Nat} (hE9 : sx sa sv sn A s) {dC : Nat → ClassId} {dI : Nat → Nat → Nat} {ad : Nat → Nat} {kc : Nat → ClassId} {fr gnS wS : Nat → Option Nat} {bd : Nat → Nat} {kd : Nat → ClassId} (hFX : FX ad fr gnS wS) (hK : va_K (dC, dI) vwCl (XT kc) s) (hK2 : va_K (dC, dI) vwCl (MT kd) s) {k : Nat} (hk : 6 * k + 6 ≤ L) {H : Heap} {locs : List Loc} {ls : Array Slot} (hW : LW (dC, dI) A s b ad kc fr gnS wS bd kd k H locs ls) (ih : ∀ (H : Heap) (locs : List Loc) (ls : Array Slot), LW (dC, dI) A s b ad kc fr gnS wS bd kd (k + 1) H locs ls → W p l e room_1 s m #[Value.ref b] below meth c H locs (70 + 9 * (k + 1)) (7203 + 400 * (k + 1)) (lw_Z below #[Value.ref b] s) (F0 m 18 ls [])) : W p l e room_1 s m #[Value.ref b] below meth c H locs (70 + 9 * k) (7203 + 400 * k) (lw_Z below #[Value.ref b] s) (F0 m 454 ls []) := by
  obtain ⟨hx, hb, hr, hml, hown, hts, hX, hbl, hlocks, hgv⟩ := id C0
  have hown : s.vm.findClass RL = some m.cls := hown
  have hts := fun w (h : w ∈ wz_law) => hts w (wz_law_in w h)
  have hbA : ¬ A b := fun h => absurd (hA2 b h) (Nat.not_le.mpr hbl)
  obtain ⟨Wx, Wm, iv, fI, ja, hREL, hKR, hXI, hMN, hP, hD, hS, hl⟩ := hW
  refine lv_aload_n hx hb dL_law_454 rfl (lv_at hl 2 rfl) ?_
  refine lv_aload_n hx hb dL_law_455 rfl (lv_at hl 3 rfl) ?_
  refine lv_iload_n hx hb dL_law_456 rfl (lv_at hl 0 rfl) ?_
  refine lv_iconst (v := 1) hx hb dL_law_457 (by decide) ?_
  refine lv_iadd hx hb dL_law_458 ?_
  refine lv_topi (fun z_1 ez_1 => ?_)
  obtain rfl : z_1 = nI ((6 * k) + 1) := ez_1.trans (nI_add ((6 * k)) 1)
  refine va_sld hx hb hX hbl hbA hS (vp_in_nI (by omega) (by omega)) dL_law_459 ?_
  refine lv_topi (fun a_2 ea_2 => ?_)
  refine lv_aload_n hx hb dL_law_460 rfl (lv_at hl 3 rfl) ?_
  refine lv_iload_n hx hb dL_law_461 rfl (lv_at hl 0 rfl) ?_
  refine lv_iconst (v := 2) hx hb dL_law_462 (by decide) ?_
  refine lv_iadd hx hb dL_law_463 ?_
  refine lv_topi (fun z_3 ez_3 => ?_)
  obtain rfl : z_3 = nI ((6 * k) + 2) := ez_3.trans (nI_add ((6 * k)) 2)
  refine va_sld hx hb hX hbl hbA hS (vp_in_nI (by omega) (by omega)) dL_law_464 ?_
  refine lv_topi (fun a_4 ea_4 => ?_)
  refine lv_aload_n hx hb dL_law_465 rfl (lv_at hl 3 rfl) ?_
  refine lv_iload_n hx hb dL_law_466 rfl (lv_at hl 0 rfl) ?_
  refine lv_iconst (v := 3) hx hb dL_law_467 (by decide) ?_
  refine lv_iadd hx hb dL_law_468 ?_
  refine lv_topi (fun z_5 ez_5 => ?_)
  obtain rfl : z_5 = nI ((6 * k) + 3) := ez_5.trans (nI_add ((6 * k)) 3)
  refine va_sld hx hb hX hbl hbA hS (vp_in_nI (by omega) (by omega)) dL_law_469 ?_
  refine lv_topi (fun a_6 ea_6 => ?_)
  obtain ⟨lv, ia, la, ot, t0, t1, t2, hR, i0, i1, i2, rfl⟩ := hXI
  have hFx := free_of hD.left hS hA
  refine va_calli (va_runV (As := [.int a_2, .int a_4, .int a_6]) (rest := []) ⟨hx, hb, hml, hown, hts⟩ (Met_xi (kx_way l dC dI H.size ad kc fr gnS wS iv lv ia la ot fI hFX hR a_2 a_4 a_6) i0 i1 i2 (EY := fun _ => True) (fun _ _ h => h)) (cwV 3 hts g_law_X6_way rfl rfl rfl (by decide +kernel) ⟨Nat.le_of_ble_eq_true rfl, Nat.le_of_ble_eq_true rfl⟩) ⟨fun a U g mk q => by obtain ⟨q0, q1, qP, qK, qD, qE⟩ := q; exact ⟨q0, q1, qP, va_K.moved (u := U) (U := U.calling g mk a) (Vm.Alike.refl U.vm) qK, qD, trivial⟩, va_recv hK hP.left (ci := 6) (q0 := 0) rfl rfl, fun U hU hW => ⟨rfl, by rw [hU], by rw [hU]; exact hP.left, va_K.moved hW.alike hK, hD.left.weaken (fun _ _ _ _ => trivial), trivial⟩⟩ rfl rfl hl.1 rfl (lv_room (Nat.le_of_ble_eq_true rfl)) dL_law_470 ⟨by show 70 + 9 * k + 0 + 0 ≤ 600000; omega, by show 7203 + 400 * k + 0 + 0 ≤ 7302250; omega⟩) hS (fun q _ h => hFx q h) hFx (fun r_7 V_9 t H1 locs ht hvm hw_8 hB hz1 hk1 hS => ?_)
  obtain ⟨hP, hD⟩ := va_joinA hP hD hk1 hFx (by rw [← ht]; exact hB.1) hB.2
  generalize H1 = H at hP hS ⊢
  obtain ⟨hp9, iv2, fI2, hch, hXJ⟩ := hw_8
  refine lv_pop hx hb dL_law_473 rfl ?_
  refine lv_aload_n hx hb dL_law_474 rfl (lv_at hl 1 rfl) ?_
  refine lv_aload_n hx hb dL_law_475 rfl (lv_at hl 3 rfl) ?_
  refine lv_iload_n hx hb dL_law_476 rfl (lv_at hl 0 rfl) ?_
  refine lv_iconst (v := 1) hx hb dL_law_477 (by decide) ?_
  refine lv_iadd hx hb dL_law_478 ?_
  refine lv_topi (fun z_10 ez_10 => ?_)
  obtain rfl : z_10 = nI ((6 * k) + 1) := ez_10.trans (nI_add ((6 * k)) 1)
  refine va_sld hx hb hX hbl hbA hS (vp_in_nI (by omega) (by omega)) dL_law_479 ?_
  refine lv_topi (fun a_11 ea_11 => ?_)
  obtain rfl : a_2 = a_11 := ea_2.trans ea_11.symm
  refine lv_aload_n hx hb dL_law_480 rfl (lv_at hl 3 rfl) ?_
  refine lv_iload_n hx hb dL_law_481 rfl (lv_at hl 0 rfl) ?_
  refine lv_iconst (v := 2) hx hb dL_law_482 (by decide) ?_
  refine lv_iadd hx hb dL_law_483 ?_
  refine lv_topi (fun z_12 ez_12 => ?_)
  obtain rfl : z_12 = nI ((6 * k) + 2) := ez_12.trans (nI_add ((6 * k)) 2)
  refine va_sld hx hb hX hbl hbA hS (vp_in_nI (by omega) (by omega)) dL_law_484 ?_
  refine lv_topi (fun a_13 ea_13 => ?_)
  obtain rfl : a_4 = a_13 := ea_4.trans ea_13.symm
  refine lv_aload_n hx hb dL_law_485 rfl (lv_at hl 3 rfl) ?_
  refine lv_iload_n hx hb dL_law_486 rfl (lv_at hl 0 rfl) ?_
  refine lv_iconst (v := 3) hx hb dL_law_487 (by decide) ?_
  refine lv_iadd hx hb dL_law_488 ?_
  refine lv_topi (fun z_14 ez_14 => ?_)
  obtain rfl : z_14 = nI ((6 * k) + 3) := ez_14.trans (nI_add ((6 * k)) 3)
  refine va_sld hx hb hX hbl hbA hS (vp_in_nI (by omega) (by omega)) dL_law_489 ?_
  refine lv_topi (fun a_15 ea_15 => ?_)
  obtain rfl : a_6 = a_15 := ea_6.trans ea_15.symm
  obtain ⟨jv, jl, jb, hR2, rfl⟩ := hMN
  obtain ⟨hP, hD⟩ := va_swap hP hD
  have hFx := free_of hD.left hS hA
  refine va_calli (va_runV (As := [.int a_2, .int a_4, .int a_6]) (rest := []) ⟨hx, hb, hml, hown, hts⟩ (km_way l dC dI H.size bd kd jv jl ja jb hR2 a_2 a_4 a_6) (cwV 3 hts g_law_X7_way rfl rfl rfl (by decide +kernel) ⟨Nat.le_of_ble_eq_true rfl, Nat.le_of_ble_eq_true rfl⟩) ⟨fun a U g mk q => by obtain ⟨q0, q1, qP, qK, qD, qE⟩ := q; exact ⟨q0, q1, qP, va_K.moved (u := U) (U := U.calling g mk a) (Vm.Alike.refl U.vm) qK, qD, trivial⟩, va_recv hK2 hP.left (ci := 7) (q0 := 0) rfl rfl, fun U hU hW => ⟨rfl, by rw [hU], by rw [hU]; exact hP.left, va_K.moved hW.alike hK2, hD.left.weaken (fun _ _ _ _ => trivial), trivial⟩⟩ rfl rfl hl.1 rfl (lv_room (Nat.le_of_ble_eq_true rfl)) dL_law_490 ⟨by show 70 + 9 * k + 0 + 0 ≤ 600000; omega, by show 7203 + 400 * k + 0 + 0 ≤ 7302250; omega⟩) hS (fun q _ h => hFx q h) hFx (fun r_16 V_18 t H1 locs ht hvm hw_17 hB hz1 hk1 hS => ?_)
  obtain ⟨hP, hD⟩ := va_joinA hP hD hk1 hFx (by rw [← ht]; exact hB.1) hB.2
  generalize H1 = H at hP hS ⊢
  obtain ⟨hP, hD⟩ := va_swap hP hD
  obtain ⟨hq9, jv2, jl2, ja2, jb2, hcm, hMR, rfl⟩ := hw_17
  refine lv_pop hx hb dL_law_493 rfl ?_
  refine lv_goto (tgt := 1569) hx hb dL_law_494 (by decide) ?_
  refine lv_iinc (v := nI (6 * (k + 1))) (lv' := [(3, .int (nI (6 * (k + 1)))), (2, .ref (bd 0)), (1, .ref (ad 0)), (0, .ref b)]) hx hb dL_law_1569 hl (k := 0) rfl (show nI (6 * k) + nI 6 = nI (6 * (k + 1)) from nI_add (6 * k) 6) (by decide) rfl (fun ls hl => ?_)
  refine lv_goto (tgt := 18) hx hb dL_law_1572 (by decide) ?_
  refine W.widen (k := 70 + 9 * (k + 1)) (n := 7203 + 400 * (k + 1)) (by omega) (by omega) ?_
  exact ih _ _ _ ⟨V_9, _, iv2, fI2, ja2, hREL.same hch.1 hcm.1 hcm.2.1, hKR.same hch.2 hcm.2.2, hXJ, ⟨jv2, jl2, jb2, hMR, rfl⟩, hP, hD, hS, lv_sub hl [0, 1, 2, 3] rfl⟩

set_option maxHeartbeats 4000000 in
set_option maxRecDepth 100000 in
/-- the law, its call 9: gate -/
theorem lc_9 {p : Program} {e : Env} {s : State} {m : MethodId} {below : List Frame} {meth : Method} {c : Code} (l : Launch) {b L : Nat} {xs : Nat → Int32} (hL : L ≤ 3072) (C0 : lw_At p s m meth c b L xs) {A : Nat → Prop} (hA : ∀ q, s.heap.size ≤ q → A q) (hA2 : ∀ q, A q → s.heap.size ≤ q) (hE0 : Kx s) {sa sv sn : Nat → Nat} (hE9 : sx sa sv sn A s) {dC : Nat → ClassId} {dI : Nat → Nat → Nat} {ad : Nat → Nat} {kc : Nat → ClassId} {fr gnS wS : Nat → Option Nat} {bd : Nat → Nat} {kd : Nat → ClassId} (hFX : FX ad fr gnS wS) (hK : va_K (dC, dI) vwCl (XT kc) s) (hK2 : va_K (dC, dI) vwCl (MT kd) s) {k : Nat} (hk : 6 * k + 6 ≤ L) {H : Heap} {locs : List Loc} {ls : Array Slot} (hW : LW (dC, dI) A s b ad kc fr gnS wS bd kd k H locs ls) (ih : ∀ (H : Heap) (locs : List Loc) (ls : Array Slot), LW (dC, dI) A s b ad kc fr gnS wS bd kd (k + 1) H locs ls → W p l e room_1 s m #[Value.ref b] below meth c H locs (70 + 9 * (k + 1)) (7203 + 400 * (k + 1)) (lw_Z below #[Value.ref b] s) (F0 m 18 ls [])) : W p l e room_1 s m #[Value.ref b] below meth c H locs (70 + 9 * k) (7203 + 400 * k) (lw_Z below #[Value.ref b] s) (F0 m 497 ls []) := by
  obtain ⟨hx, hb, hr, hml, hown, hts, hX, hbl, hlocks, hgv⟩ := id C0
  have hown : s.vm.findClass RL = some m.cls := hown
  have hts := fun w (h : w ∈ wz_law) => hts w (wz_law_in w h)
  have hbA : ¬ A b := fun h => absurd (hA2 b h) (Nat.not_le.mpr hbl)
  obtain ⟨Wx, Wm, iv, fI, ja, hREL, hKR, hXI, hMN, hP, hD, hS, hl⟩ := hW
  refine lv_aload_n hx hb dL_law_497 rfl (lv_at hl 2 rfl) ?_
  refine lv_aload_n hx hb dL_law_498 rfl (lv_at hl 3 rfl) ?_
  refine lv_iload_n hx hb dL_law_499 rfl (lv_at hl 0 rfl) ?_
  refine lv_iconst (v := 1) hx hb dL_law_500 (by decide) ?_
  refine lv_iadd hx hb dL_law_501 ?_
  refine lv_topi (fun z_1 ez_1 => ?_)
  obtain rfl : z_1 = nI ((6 * k) + 1) := ez_1.trans (nI_add ((6 * k)) 1)
  refine va_sld hx hb hX hbl hbA hS (vp_in_nI (by omega) (by omega)) dL_law_502 ?_
  refine lv_topi (fun a_2 ea_2 => ?_)
  obtain ⟨lv, ia, la, ot, t0, t1, t2, hR, i0, i1, i2, rfl⟩ := hXI
  have hFx := free_of hD.left hS hA
  refine va_calli (va_runV (As := [.int a_2]) (rest := []) ⟨hx, hb, hml, hown, hts⟩ (Met_xi (kx_gate l dC dI H.size ad kc fr gnS wS iv lv ia la ot fI hFX hR a_2) i0 i1 i2 (EY := fun _ => True) (fun _ _ h => h)) (cwV 1 hts g_law_X6_gate rfl rfl rfl (by decide +kernel) ⟨Nat.le_of_ble_eq_true rfl, Nat.le_of_ble_eq_true rfl⟩) ⟨fun a U g mk q => by obtain ⟨q0, q1, qP, qK, qD, qE⟩ := q; exact ⟨q0, q1, qP, va_K.moved (u := U) (U := U.calling g mk a) (Vm.Alike.refl U.vm) qK, qD, trivial⟩, va_recv hK hP.left (ci := 6) (q0 := 0) rfl rfl, fun U hU hW => ⟨rfl, by rw [hU], by rw [hU]; exact hP.left, va_K.moved hW.alike hK, hD.left.weaken (fun _ _ _ _ => trivial), trivial⟩⟩ rfl rfl hl.1 rfl (lv_room (Nat.le_of_ble_eq_true rfl)) dL_law_503 ⟨by show 70 + 9 * k + 0 + 0 ≤ 600000; omega, by show 7203 + 400 * k + 0 + 0 ≤ 7302250; omega⟩) hS (fun q _ h => hFx q h) hFx (fun r_3 V_5 t H1 locs ht hvm hw_4 hB hz1 hk1 hS => ?_)
  obtain ⟨hP, hD⟩ := va_joinA hP hD hk1 hFx (by rw [← ht]; exact hB.1) hB.2
  generalize H1 = H at hP hS ⊢
  obtain ⟨hp9, iv2, fI2, hch, hXJ⟩ := hw_4
  refine lv_pop hx hb dL_law_506 rfl ?_
  refine lv_aload_n hx hb dL_law_507 rfl (lv_at hl 1 rfl) ?_
  refine lv_aload_n hx hb dL_law_508 rfl (lv_at hl 3 rfl) ?_
  refine lv_iload_n hx hb dL_law_509 rfl (lv_at hl 0 rfl) ?_
  refine lv_iconst (v := 1) hx hb dL_law_510 (by decide) ?_
  refine lv_iadd hx hb dL_law_511 ?_
  refine lv_topi (fun z_6 ez_6 => ?_)
  obtain rfl : z_6 = nI ((6 * k) + 1) := ez_6.trans (nI_add ((6 * k)) 1)
  refine va_sld hx hb hX hbl hbA hS (vp_in_nI (by omega) (by omega)) dL_law_512 ?_
  refine lv_topi (fun a_7 ea_7 => ?_)
  obtain rfl : a_2 = a_7 := ea_2.trans ea_7.symm
  obtain ⟨jv, jl, jb, hR2, rfl⟩ := hMN
  obtain ⟨hP, hD⟩ := va_swap hP hD
  have hFx := free_of hD.left hS hA
  refine va_calli (va_runV (As := [.int a_2]) (rest := []) ⟨hx, hb, hml, hown, hts⟩ (km_gate l dC dI H.size bd kd jv jl ja jb hR2 a_2) (cwV 1 hts g_law_X7_gate rfl rfl rfl (by decide +kernel) ⟨Nat.le_of_ble_eq_true rfl, Nat.le_of_ble_eq_true rfl⟩) ⟨fun a U g mk q => by obtain ⟨q0, q1, qP, qK, qD, qE⟩ := q; exact ⟨q0, q1, qP, va_K.moved (u := U) (U := U.calling g mk a) (Vm.Alike.refl U.vm) qK, qD, trivial⟩, va_recv hK2 hP.left (ci := 7) (q0 := 0) rfl rfl, fun U hU hW => ⟨rfl, by rw [hU], by rw [hU]; exact hP.left, va_K.moved hW.alike hK2, hD.left.weaken (fun _ _ _ _ => trivial), trivial⟩⟩ rfl rfl hl.1 rfl (lv_room (Nat.le_of_ble_eq_true rfl)) dL_law_513 ⟨by show 70 + 9 * k + 0 + 0 ≤ 600000; omega, by show 7203 + 400 * k + 0 + 0 ≤ 7302250; omega⟩) hS (fun q _ h => hFx q h) hFx (fun r_8 V_10 t H1 locs ht hvm hw_9 hB hz1 hk1 hS => ?_)
  obtain ⟨hP, hD⟩ := va_joinA hP hD hk1 hFx (by rw [← ht]; exact hB.1) hB.2
  generalize H1 = H at hP hS ⊢
  obtain ⟨hP, hD⟩ := va_swap hP hD
  obtain ⟨hq9, jv2, jl2, ja2, jb2, hcm, hMR, rfl⟩ := hw_9
  refine lv_pop hx hb dL_law_516 rfl ?_
  refine lv_goto (tgt := 1569) hx hb dL_law_517 (by decide) ?_
  refine lv_iinc (v := nI (6 * (k + 1))) (lv' := [(3, .int (nI (6 * (k + 1)))), (2, .ref (bd 0)), (1, .ref (ad 0)), (0, .ref b)]) hx hb dL_law_1569 hl (k := 0) rfl (show nI (6 * k) + nI 6 = nI (6 * (k + 1)) from nI_add (6 * k) 6) (by decide) rfl (fun ls hl => ?_)
  refine lv_goto (tgt := 18) hx hb dL_law_1572 (by decide) ?_
  refine W.widen (k := 70 + 9 * (k + 1)) (n := 7203 + 400 * (k + 1)) (by omega) (by omega) ?_
  exact ih _ _ _ ⟨V_5, _, iv2, fI2, ja2, hREL.same hch.1 hcm.1 hcm.2.1, hKR.same hch.2 hcm.2.2, hXJ, ⟨jv2, jl2, jb2, hMR, rfl⟩, hP, hD, hS, lv_sub hl [0, 1, 2, 3] rfl⟩

set_option maxHeartbeats 4000000 in
set_option maxRecDepth 100000 in
/-- the law, its call 10: within -/
theorem lc_10 {p : Program} {e : Env} {s : State} {m : MethodId} {below : List Frame} {meth : Method} {c : Code} (l : Launch) {b L : Nat} {xs : Nat → Int32} (hL : L ≤ 3072) (C0 : lw_At p s m meth c b L xs) {A : Nat → Prop} (hA : ∀ q, s.heap.size ≤ q → A q) (hA2 : ∀ q, A q → s.heap.size ≤ q) (hE0 : Kx s) {sa sv sn : Nat → Nat} (hE9 : sx sa sv sn A s) {dC : Nat → ClassId} {dI : Nat → Nat → Nat} {ad : Nat → Nat} {kc : Nat → ClassId} {fr gnS wS : Nat → Option Nat} {bd : Nat → Nat} {kd : Nat → ClassId} (hFX : FX ad fr gnS wS) (hK : va_K (dC, dI) vwCl (XT kc) s) (hK2 : va_K (dC, dI) vwCl (MT kd) s) {k : Nat} (hk : 6 * k + 6 ≤ L) {H : Heap} {locs : List Loc} {ls : Array Slot} (hW : LW (dC, dI) A s b ad kc fr gnS wS bd kd k H locs ls) (ih : ∀ (H : Heap) (locs : List Loc) (ls : Array Slot), LW (dC, dI) A s b ad kc fr gnS wS bd kd (k + 1) H locs ls → W p l e room_1 s m #[Value.ref b] below meth c H locs (70 + 9 * (k + 1)) (7203 + 400 * (k + 1)) (lw_Z below #[Value.ref b] s) (F0 m 18 ls [])) : W p l e room_1 s m #[Value.ref b] below meth c H locs (70 + 9 * k) (7203 + 400 * k) (lw_Z below #[Value.ref b] s) (F0 m 520 ls []) := by
  obtain ⟨hx, hb, hr, hml, hown, hts, hX, hbl, hlocks, hgv⟩ := id C0
  have hown : s.vm.findClass RL = some m.cls := hown
  have hts := fun w (h : w ∈ wz_law) => hts w (wz_law_in w h)
  have hbA : ¬ A b := fun h => absurd (hA2 b h) (Nat.not_le.mpr hbl)
  obtain ⟨Wx, Wm, iv, fI, ja, hREL, hKR, hXI, hMN, hP, hD, hS, hl⟩ := hW
  refine lv_aload_n hx hb dL_law_520 rfl (lv_at hl 2 rfl) ?_
  refine lv_aload_n hx hb dL_law_521 rfl (lv_at hl 3 rfl) ?_
  refine lv_iload_n hx hb dL_law_522 rfl (lv_at hl 0 rfl) ?_
  refine lv_iconst (v := 1) hx hb dL_law_523 (by decide) ?_
  refine lv_iadd hx hb dL_law_524 ?_
  refine lv_topi (fun z_1 ez_1 => ?_)
  obtain rfl : z_1 = nI ((6 * k) + 1) := ez_1.trans (nI_add ((6 * k)) 1)
  refine va_sld hx hb hX hbl hbA hS (vp_in_nI (by omega) (by omega)) dL_law_525 ?_
  refine lv_topi (fun a_2 ea_2 => ?_)
  refine lv_aload_n hx hb dL_law_526 rfl (lv_at hl 3 rfl) ?_
  refine lv_iload_n hx hb dL_law_527 rfl (lv_at hl 0 rfl) ?_
  refine lv_iconst (v := 2) hx hb dL_law_528 (by decide) ?_
  refine lv_iadd hx hb dL_law_529 ?_
  refine lv_topi (fun z_3 ez_3 => ?_)
  obtain rfl : z_3 = nI ((6 * k) + 2) := ez_3.trans (nI_add ((6 * k)) 2)
  refine va_sld hx hb hX hbl hbA hS (vp_in_nI (by omega) (by omega)) dL_law_530 ?_
  refine lv_topi (fun a_4 ea_4 => ?_)
  obtain ⟨lv, ia, la, ot, t0, t1, t2, hR, i0, i1, i2, rfl⟩ := hXI
  have hFx := free_of hD.left hS hA
  refine va_calli (va_runV (As := [.int a_2, .int a_4]) (rest := []) ⟨hx, hb, hml, hown, hts⟩ (Met_xi (kx_within l dC dI H.size ad kc fr gnS wS iv lv ia la ot fI hFX hR a_2 a_4) i0 i1 i2 (EY := fun _ => True) (fun _ _ h => h)) (cwV 2 hts g_law_X6_within rfl rfl rfl (by decide +kernel) ⟨Nat.le_of_ble_eq_true rfl, Nat.le_of_ble_eq_true rfl⟩) ⟨fun a U g mk q => by obtain ⟨q0, q1, qP, qK, qD, qE⟩ := q; exact ⟨q0, q1, qP, va_K.moved (u := U) (U := U.calling g mk a) (Vm.Alike.refl U.vm) qK, qD, trivial⟩, va_recv hK hP.left (ci := 6) (q0 := 0) rfl rfl, fun U hU hW => ⟨rfl, by rw [hU], by rw [hU]; exact hP.left, va_K.moved hW.alike hK, hD.left.weaken (fun _ _ _ _ => trivial), trivial⟩⟩ rfl rfl hl.1 rfl (lv_room (Nat.le_of_ble_eq_true rfl)) dL_law_531 ⟨by show 70 + 9 * k + 0 + 0 ≤ 600000; omega, by show 7203 + 400 * k + 0 + 0 ≤ 7302250; omega⟩) hS (fun q _ h => hFx q h) hFx (fun r_5 V_7 t H1 locs ht hvm hw_6 hB hz1 hk1 hS => ?_)
  obtain ⟨hP, hD⟩ := va_joinA hP hD hk1 hFx (by rw [← ht]; exact hB.1) hB.2
  generalize H1 = H at hP hS ⊢
  obtain ⟨hp9, iv2, fI2, hch, hXJ⟩ := hw_6
  refine lv_pop hx hb dL_law_534 rfl ?_
  refine lv_aload_n hx hb dL_law_535 rfl (lv_at hl 1 rfl) ?_
  refine lv_aload_n hx hb dL_law_536 rfl (lv_at hl 3 rfl) ?_
  refine lv_iload_n hx hb dL_law_537 rfl (lv_at hl 0 rfl) ?_
  refine lv_iconst (v := 1) hx hb dL_law_538 (by decide) ?_
  refine lv_iadd hx hb dL_law_539 ?_
  refine lv_topi (fun z_8 ez_8 => ?_)
  obtain rfl : z_8 = nI ((6 * k) + 1) := ez_8.trans (nI_add ((6 * k)) 1)
  refine va_sld hx hb hX hbl hbA hS (vp_in_nI (by omega) (by omega)) dL_law_540 ?_
  refine lv_topi (fun a_9 ea_9 => ?_)
  obtain rfl : a_2 = a_9 := ea_2.trans ea_9.symm
  refine lv_aload_n hx hb dL_law_541 rfl (lv_at hl 3 rfl) ?_
  refine lv_iload_n hx hb dL_law_542 rfl (lv_at hl 0 rfl) ?_
  refine lv_iconst (v := 2) hx hb dL_law_543 (by decide) ?_
  refine lv_iadd hx hb dL_law_544 ?_
  refine lv_topi (fun z_10 ez_10 => ?_)
  obtain rfl : z_10 = nI ((6 * k) + 2) := ez_10.trans (nI_add ((6 * k)) 2)
  refine va_sld hx hb hX hbl hbA hS (vp_in_nI (by omega) (by omega)) dL_law_545 ?_
  refine lv_topi (fun a_11 ea_11 => ?_)
  obtain rfl : a_4 = a_11 := ea_4.trans ea_11.symm
  obtain ⟨jv, jl, jb, hR2, rfl⟩ := hMN
  obtain ⟨hP, hD⟩ := va_swap hP hD
  have hFx := free_of hD.left hS hA
  refine va_calli (va_runV (As := [.int a_2, .int a_4]) (rest := []) ⟨hx, hb, hml, hown, hts⟩ (km_within l dC dI H.size bd kd jv jl ja jb hR2 a_2 a_4) (cwV 2 hts g_law_X7_within rfl rfl rfl (by decide +kernel) ⟨Nat.le_of_ble_eq_true rfl, Nat.le_of_ble_eq_true rfl⟩) ⟨fun a U g mk q => by obtain ⟨q0, q1, qP, qK, qD, qE⟩ := q; exact ⟨q0, q1, qP, va_K.moved (u := U) (U := U.calling g mk a) (Vm.Alike.refl U.vm) qK, qD, trivial⟩, va_recv hK2 hP.left (ci := 7) (q0 := 0) rfl rfl, fun U hU hW => ⟨rfl, by rw [hU], by rw [hU]; exact hP.left, va_K.moved hW.alike hK2, hD.left.weaken (fun _ _ _ _ => trivial), trivial⟩⟩ rfl rfl hl.1 rfl (lv_room (Nat.le_of_ble_eq_true rfl)) dL_law_546 ⟨by show 70 + 9 * k + 0 + 0 ≤ 600000; omega, by show 7203 + 400 * k + 0 + 0 ≤ 7302250; omega⟩) hS (fun q _ h => hFx q h) hFx (fun r_12 V_14 t H1 locs ht hvm hw_13 hB hz1 hk1 hS => ?_)
  obtain ⟨hP, hD⟩ := va_joinA hP hD hk1 hFx (by rw [← ht]; exact hB.1) hB.2
  generalize H1 = H at hP hS ⊢
  obtain ⟨hP, hD⟩ := va_swap hP hD
  obtain ⟨hq9, jv2, jl2, ja2, jb2, hcm, hMR, rfl⟩ := hw_13
  refine lv_pop hx hb dL_law_549 rfl ?_
  refine lv_goto (tgt := 1569) hx hb dL_law_550 (by decide) ?_
  refine lv_iinc (v := nI (6 * (k + 1))) (lv' := [(3, .int (nI (6 * (k + 1)))), (2, .ref (bd 0)), (1, .ref (ad 0)), (0, .ref b)]) hx hb dL_law_1569 hl (k := 0) rfl (show nI (6 * k) + nI 6 = nI (6 * (k + 1)) from nI_add (6 * k) 6) (by decide) rfl (fun ls hl => ?_)
  refine lv_goto (tgt := 18) hx hb dL_law_1572 (by decide) ?_
  refine W.widen (k := 70 + 9 * (k + 1)) (n := 7203 + 400 * (k + 1)) (by omega) (by omega) ?_
  exact ih _ _ _ ⟨V_7, _, iv2, fI2, ja2, hREL.same hch.1 hcm.1 hcm.2.1, hKR.same hch.2 hcm.2.2, hXJ, ⟨jv2, jl2, jb2, hMR, rfl⟩, hP, hD, hS, lv_sub hl [0, 1, 2, 3] rfl⟩

set_option maxHeartbeats 4000000 in
set_option maxRecDepth 100000 in
/-- the law, its call 11: shape -/
theorem lc_11 {p : Program} {e : Env} {s : State} {m : MethodId} {below : List Frame} {meth : Method} {c : Code} (l : Launch) {b L : Nat} {xs : Nat → Int32} (hL : L ≤ 3072) (C0 : lw_At p s m meth c b L xs) {A : Nat → Prop} (hA : ∀ q, s.heap.size ≤ q → A q) (hA2 : ∀ q, A q → s.heap.size ≤ q) (hE0 : Kx s) {sa sv sn : Nat → Nat} (hE9 : sx sa sv sn A s) {dC : Nat → ClassId} {dI : Nat → Nat → Nat} {ad : Nat → Nat} {kc : Nat → ClassId} {fr gnS wS : Nat → Option Nat} {bd : Nat → Nat} {kd : Nat → ClassId} (hFX : FX ad fr gnS wS) (hK : va_K (dC, dI) vwCl (XT kc) s) (hK2 : va_K (dC, dI) vwCl (MT kd) s) {k : Nat} (hk : 6 * k + 6 ≤ L) {H : Heap} {locs : List Loc} {ls : Array Slot} (hW : LW (dC, dI) A s b ad kc fr gnS wS bd kd k H locs ls) (ih : ∀ (H : Heap) (locs : List Loc) (ls : Array Slot), LW (dC, dI) A s b ad kc fr gnS wS bd kd (k + 1) H locs ls → W p l e room_1 s m #[Value.ref b] below meth c H locs (70 + 9 * (k + 1)) (7203 + 400 * (k + 1)) (lw_Z below #[Value.ref b] s) (F0 m 18 ls [])) : W p l e room_1 s m #[Value.ref b] below meth c H locs (70 + 9 * k) (7203 + 400 * k) (lw_Z below #[Value.ref b] s) (F0 m 553 ls []) := by
  obtain ⟨hx, hb, hr, hml, hown, hts, hX, hbl, hlocks, hgv⟩ := id C0
  have hown : s.vm.findClass RL = some m.cls := hown
  have hts := fun w (h : w ∈ wz_law) => hts w (wz_law_in w h)
  have hbA : ¬ A b := fun h => absurd (hA2 b h) (Nat.not_le.mpr hbl)
  obtain ⟨Wx, Wm, iv, fI, ja, hREL, hKR, hXI, hMN, hP, hD, hS, hl⟩ := hW
  refine lv_aload_n hx hb dL_law_553 rfl (lv_at hl 2 rfl) ?_
  refine lv_aload_n hx hb dL_law_554 rfl (lv_at hl 3 rfl) ?_
  refine lv_iload_n hx hb dL_law_555 rfl (lv_at hl 0 rfl) ?_
  refine lv_iconst (v := 1) hx hb dL_law_556 (by decide) ?_
  refine lv_iadd hx hb dL_law_557 ?_
  refine lv_topi (fun z_1 ez_1 => ?_)
  obtain rfl : z_1 = nI ((6 * k) + 1) := ez_1.trans (nI_add ((6 * k)) 1)
  refine va_sld hx hb hX hbl hbA hS (vp_in_nI (by omega) (by omega)) dL_law_558 ?_
  refine lv_topi (fun a_2 ea_2 => ?_)
  obtain ⟨lv, ia, la, ot, t0, t1, t2, hR, i0, i1, i2, rfl⟩ := hXI
  have hFx := free_of hD.left hS hA
  refine va_calli (va_runV (As := [.int a_2]) (rest := []) ⟨hx, hb, hml, hown, hts⟩ (Met_xi (kx_shape l dC dI H.size ad kc fr gnS wS iv lv ia la ot fI hFX hR a_2) i0 i1 i2 (EY := fun _ => True) (fun _ _ h => h)) (cwV 1 hts g_law_X6_shape rfl rfl rfl (by decide +kernel) ⟨Nat.le_of_ble_eq_true rfl, Nat.le_of_ble_eq_true rfl⟩) ⟨fun a U g mk q => by obtain ⟨q0, q1, qP, qK, qD, qE⟩ := q; exact ⟨q0, q1, qP, va_K.moved (u := U) (U := U.calling g mk a) (Vm.Alike.refl U.vm) qK, qD, trivial⟩, va_recv hK hP.left (ci := 6) (q0 := 0) rfl rfl, fun U hU hW => ⟨rfl, by rw [hU], by rw [hU]; exact hP.left, va_K.moved hW.alike hK, hD.left.weaken (fun _ _ _ _ => trivial), trivial⟩⟩ rfl rfl hl.1 rfl (lv_room (Nat.le_of_ble_eq_true rfl)) dL_law_559 ⟨by show 70 + 9 * k + 0 + 0 ≤ 600000; omega, by show 7203 + 400 * k + 0 + 0 ≤ 7302250; omega⟩) hS (fun q _ h => hFx q h) hFx (fun r_3 V_5 t H1 locs ht hvm hw_4 hB hz1 hk1 hS => ?_)
  obtain ⟨hP, hD⟩ := va_joinA hP hD hk1 hFx (by rw [← ht]; exact hB.1) hB.2
  generalize H1 = H at hP hS ⊢
  obtain ⟨hp9, iv2, fI2, hch, hXJ⟩ := hw_4
  refine lv_pop hx hb dL_law_562 rfl ?_
  refine lv_aload_n hx hb dL_law_563 rfl (lv_at hl 1 rfl) ?_
  refine lv_aload_n hx hb dL_law_564 rfl (lv_at hl 3 rfl) ?_
  refine lv_iload_n hx hb dL_law_565 rfl (lv_at hl 0 rfl) ?_
  refine lv_iconst (v := 1) hx hb dL_law_566 (by decide) ?_
  refine lv_iadd hx hb dL_law_567 ?_
  refine lv_topi (fun z_6 ez_6 => ?_)
  obtain rfl : z_6 = nI ((6 * k) + 1) := ez_6.trans (nI_add ((6 * k)) 1)
  refine va_sld hx hb hX hbl hbA hS (vp_in_nI (by omega) (by omega)) dL_law_568 ?_
  refine lv_topi (fun a_7 ea_7 => ?_)
  obtain rfl : a_2 = a_7 := ea_2.trans ea_7.symm
  obtain ⟨jv, jl, jb, hR2, rfl⟩ := hMN
  obtain ⟨hP, hD⟩ := va_swap hP hD
  have hFx := free_of hD.left hS hA
  refine va_calli (va_runV (As := [.int a_2]) (rest := []) ⟨hx, hb, hml, hown, hts⟩ (km_shape l dC dI H.size bd kd jv jl ja jb hR2 a_2) (cwV 1 hts g_law_X7_shape rfl rfl rfl (by decide +kernel) ⟨Nat.le_of_ble_eq_true rfl, Nat.le_of_ble_eq_true rfl⟩) ⟨fun a U g mk q => by obtain ⟨q0, q1, qP, qK, qD, qE⟩ := q; exact ⟨q0, q1, qP, va_K.moved (u := U) (U := U.calling g mk a) (Vm.Alike.refl U.vm) qK, qD, trivial⟩, va_recv hK2 hP.left (ci := 7) (q0 := 0) rfl rfl, fun U hU hW => ⟨rfl, by rw [hU], by rw [hU]; exact hP.left, va_K.moved hW.alike hK2, hD.left.weaken (fun _ _ _ _ => trivial), trivial⟩⟩ rfl rfl hl.1 rfl (lv_room (Nat.le_of_ble_eq_true rfl)) dL_law_569 ⟨by show 70 + 9 * k + 0 + 0 ≤ 600000; omega, by show 7203 + 400 * k + 0 + 0 ≤ 7302250; omega⟩) hS (fun q _ h => hFx q h) hFx (fun r_8 V_10 t H1 locs ht hvm hw_9 hB hz1 hk1 hS => ?_)
  obtain ⟨hP, hD⟩ := va_joinA hP hD hk1 hFx (by rw [← ht]; exact hB.1) hB.2
  generalize H1 = H at hP hS ⊢
  obtain ⟨hP, hD⟩ := va_swap hP hD
  obtain ⟨hq9, jv2, jl2, ja2, jb2, hcm, hMR, rfl⟩ := hw_9
  refine lv_pop hx hb dL_law_572 rfl ?_
  refine lv_goto (tgt := 1569) hx hb dL_law_573 (by decide) ?_
  refine lv_iinc (v := nI (6 * (k + 1))) (lv' := [(3, .int (nI (6 * (k + 1)))), (2, .ref (bd 0)), (1, .ref (ad 0)), (0, .ref b)]) hx hb dL_law_1569 hl (k := 0) rfl (show nI (6 * k) + nI 6 = nI (6 * (k + 1)) from nI_add (6 * k) 6) (by decide) rfl (fun ls hl => ?_)
  refine lv_goto (tgt := 18) hx hb dL_law_1572 (by decide) ?_
  refine W.widen (k := 70 + 9 * (k + 1)) (n := 7203 + 400 * (k + 1)) (by omega) (by omega) ?_
  exact ih _ _ _ ⟨V_5, _, iv2, fI2, ja2, hREL.same hch.1 hcm.1 hcm.2.1, hKR.same hch.2 hcm.2.2, hXJ, ⟨jv2, jl2, jb2, hMR, rfl⟩, hP, hD, hS, lv_sub hl [0, 1, 2, 3] rfl⟩

set_option maxHeartbeats 4000000 in
set_option maxRecDepth 100000 in
/-- the law, its call 12: bridge -/
theorem lc_12 {p : Program} {e : Env} {s : State} {m : MethodId} {below : List Frame} {meth : Method} {c : Code} (l : Launch) {b L : Nat} {xs : Nat → Int32} (hL : L ≤ 3072) (C0 : lw_At p s m meth c b L xs) {A : Nat → Prop} (hA : ∀ q, s.heap.size ≤ q → A q) (hA2 : ∀ q, A q → s.heap.size ≤ q) (hE0 : Kx s) {sa sv sn : Nat → Nat} (hE9 : sx sa sv sn A s) {dC : Nat → ClassId} {dI : Nat → Nat → Nat} {ad : Nat → Nat} {kc : Nat → ClassId} {fr gnS wS : Nat → Option Nat} {bd : Nat → Nat} {kd : Nat → ClassId} (hFX : FX ad fr gnS wS) (hK : va_K (dC, dI) vwCl (XT kc) s) (hK2 : va_K (dC, dI) vwCl (MT kd) s) {k : Nat} (hk : 6 * k + 6 ≤ L) {H : Heap} {locs : List Loc} {ls : Array Slot} (hW : LW (dC, dI) A s b ad kc fr gnS wS bd kd k H locs ls) (ih : ∀ (H : Heap) (locs : List Loc) (ls : Array Slot), LW (dC, dI) A s b ad kc fr gnS wS bd kd (k + 1) H locs ls → W p l e room_1 s m #[Value.ref b] below meth c H locs (70 + 9 * (k + 1)) (7203 + 400 * (k + 1)) (lw_Z below #[Value.ref b] s) (F0 m 18 ls [])) : W p l e room_1 s m #[Value.ref b] below meth c H locs (70 + 9 * k) (7203 + 400 * k) (lw_Z below #[Value.ref b] s) (F0 m 576 ls []) := by
  obtain ⟨hx, hb, hr, hml, hown, hts, hX, hbl, hlocks, hgv⟩ := id C0
  have hown : s.vm.findClass RL = some m.cls := hown
  have hts := fun w (h : w ∈ wz_law) => hts w (wz_law_in w h)
  have hbA : ¬ A b := fun h => absurd (hA2 b h) (Nat.not_le.mpr hbl)
  obtain ⟨Wx, Wm, iv, fI, ja, hREL, hKR, hXI, hMN, hP, hD, hS, hl⟩ := hW
  refine lv_aload_n hx hb dL_law_576 rfl (lv_at hl 2 rfl) ?_
  refine lv_aload_n hx hb dL_law_577 rfl (lv_at hl 3 rfl) ?_
  refine lv_iload_n hx hb dL_law_578 rfl (lv_at hl 0 rfl) ?_
  refine lv_iconst (v := 1) hx hb dL_law_579 (by decide) ?_
  refine lv_iadd hx hb dL_law_580 ?_
  refine lv_topi (fun z_1 ez_1 => ?_)
  obtain rfl : z_1 = nI ((6 * k) + 1) := ez_1.trans (nI_add ((6 * k)) 1)
  refine va_sld hx hb hX hbl hbA hS (vp_in_nI (by omega) (by omega)) dL_law_581 ?_
  refine lv_topi (fun a_2 ea_2 => ?_)
  obtain ⟨lv, ia, la, ot, t0, t1, t2, hR, i0, i1, i2, rfl⟩ := hXI
  have hFx := free_of hD.left hS hA
  refine va_calli (va_runV (As := [.int a_2]) (rest := []) ⟨hx, hb, hml, hown, hts⟩ (Met_xi (kx_bridge l dC dI H.size ad kc fr gnS wS iv lv ia la ot fI hFX hR a_2) i0 i1 i2 (EY := fun _ => True) (fun _ _ h => h)) (cwV 1 hts g_law_X6_bridge rfl rfl rfl (by decide +kernel) ⟨Nat.le_of_ble_eq_true rfl, Nat.le_of_ble_eq_true rfl⟩) ⟨fun a U g mk q => by obtain ⟨q0, q1, qP, qK, qD, qE⟩ := q; exact ⟨q0, q1, qP, va_K.moved (u := U) (U := U.calling g mk a) (Vm.Alike.refl U.vm) qK, qD, trivial⟩, va_recv hK hP.left (ci := 6) (q0 := 0) rfl rfl, fun U hU hW => ⟨rfl, by rw [hU], by rw [hU]; exact hP.left, va_K.moved hW.alike hK, hD.left.weaken (fun _ _ _ _ => trivial), trivial⟩⟩ rfl rfl hl.1 rfl (lv_room (Nat.le_of_ble_eq_true rfl)) dL_law_582 ⟨by show 70 + 9 * k + 0 + 0 ≤ 600000; omega, by show 7203 + 400 * k + 0 + 0 ≤ 7302250; omega⟩) hS (fun q _ h => hFx q h) hFx (fun r_3 V_5 t H1 locs ht hvm hw_4 hB hz1 hk1 hS => ?_)
  obtain ⟨hP, hD⟩ := va_joinA hP hD hk1 hFx (by rw [← ht]; exact hB.1) hB.2
  generalize H1 = H at hP hS ⊢
  obtain ⟨hp9, iv2, fI2, hch, hXJ⟩ := hw_4
  refine lv_pop hx hb dL_law_585 rfl ?_
  refine lv_aload_n hx hb dL_law_586 rfl (lv_at hl 1 rfl) ?_
  refine lv_aload_n hx hb dL_law_587 rfl (lv_at hl 3 rfl) ?_
  refine lv_iload_n hx hb dL_law_588 rfl (lv_at hl 0 rfl) ?_
  refine lv_iconst (v := 1) hx hb dL_law_589 (by decide) ?_
  refine lv_iadd hx hb dL_law_590 ?_
  refine lv_topi (fun z_6 ez_6 => ?_)
  obtain rfl : z_6 = nI ((6 * k) + 1) := ez_6.trans (nI_add ((6 * k)) 1)
  refine va_sld hx hb hX hbl hbA hS (vp_in_nI (by omega) (by omega)) dL_law_591 ?_
  refine lv_topi (fun a_7 ea_7 => ?_)
  obtain rfl : a_2 = a_7 := ea_2.trans ea_7.symm
  obtain ⟨jv, jl, jb, hR2, rfl⟩ := hMN
  obtain ⟨hP, hD⟩ := va_swap hP hD
  have hFx := free_of hD.left hS hA
  refine va_calli (va_runV (As := [.int a_2]) (rest := []) ⟨hx, hb, hml, hown, hts⟩ (km_bridge l dC dI H.size bd kd jv jl ja jb hR2 a_2) (cwV 1 hts g_law_X7_bridge rfl rfl rfl (by decide +kernel) ⟨Nat.le_of_ble_eq_true rfl, Nat.le_of_ble_eq_true rfl⟩) ⟨fun a U g mk q => by obtain ⟨q0, q1, qP, qK, qD, qE⟩ := q; exact ⟨q0, q1, qP, va_K.moved (u := U) (U := U.calling g mk a) (Vm.Alike.refl U.vm) qK, qD, trivial⟩, va_recv hK2 hP.left (ci := 7) (q0 := 0) rfl rfl, fun U hU hW => ⟨rfl, by rw [hU], by rw [hU]; exact hP.left, va_K.moved hW.alike hK2, hD.left.weaken (fun _ _ _ _ => trivial), trivial⟩⟩ rfl rfl hl.1 rfl (lv_room (Nat.le_of_ble_eq_true rfl)) dL_law_592 ⟨by show 70 + 9 * k + 0 + 0 ≤ 600000; omega, by show 7203 + 400 * k + 0 + 0 ≤ 7302250; omega⟩) hS (fun q _ h => hFx q h) hFx (fun r_8 V_10 t H1 locs ht hvm hw_9 hB hz1 hk1 hS => ?_)
  obtain ⟨hP, hD⟩ := va_joinA hP hD hk1 hFx (by rw [← ht]; exact hB.1) hB.2
  generalize H1 = H at hP hS ⊢
  obtain ⟨hP, hD⟩ := va_swap hP hD
  obtain ⟨hq9, jv2, jl2, ja2, jb2, hcm, hMR, rfl⟩ := hw_9
  refine lv_pop hx hb dL_law_595 rfl ?_
  refine lv_goto (tgt := 1569) hx hb dL_law_596 (by decide) ?_
  refine lv_iinc (v := nI (6 * (k + 1))) (lv' := [(3, .int (nI (6 * (k + 1)))), (2, .ref (bd 0)), (1, .ref (ad 0)), (0, .ref b)]) hx hb dL_law_1569 hl (k := 0) rfl (show nI (6 * k) + nI 6 = nI (6 * (k + 1)) from nI_add (6 * k) 6) (by decide) rfl (fun ls hl => ?_)
  refine lv_goto (tgt := 18) hx hb dL_law_1572 (by decide) ?_
  refine W.widen (k := 70 + 9 * (k + 1)) (n := 7203 + 400 * (k + 1)) (by omega) (by omega) ?_
  exact ih _ _ _ ⟨V_5, _, iv2, fI2, ja2, hREL.same hch.1 hcm.1 hcm.2.1, hKR.same hch.2 hcm.2.2, hXJ, ⟨jv2, jl2, jb2, hMR, rfl⟩, hP, hD, hS, lv_sub hl [0, 1, 2, 3] rfl⟩

set_option maxHeartbeats 4000000 in
set_option maxRecDepth 100000 in
/-- the law, its call 13: lawful -/
theorem lc_13 {p : Program} {e : Env} {s : State} {m : MethodId} {below : List Frame} {meth : Method} {c : Code} (l : Launch) {b L : Nat} {xs : Nat → Int32} (hL : L ≤ 3072) (C0 : lw_At p s m meth c b L xs) {A : Nat → Prop} (hA : ∀ q, s.heap.size ≤ q → A q) (hA2 : ∀ q, A q → s.heap.size ≤ q) (hE0 : Kx s) {sa sv sn : Nat → Nat} (hE9 : sx sa sv sn A s) {dC : Nat → ClassId} {dI : Nat → Nat → Nat} {ad : Nat → Nat} {kc : Nat → ClassId} {fr gnS wS : Nat → Option Nat} {bd : Nat → Nat} {kd : Nat → ClassId} (hFX : FX ad fr gnS wS) (hK : va_K (dC, dI) vwCl (XT kc) s) (hK2 : va_K (dC, dI) vwCl (MT kd) s) {k : Nat} (hk : 6 * k + 6 ≤ L) {H : Heap} {locs : List Loc} {ls : Array Slot} (hW : LW (dC, dI) A s b ad kc fr gnS wS bd kd k H locs ls) (ih : ∀ (H : Heap) (locs : List Loc) (ls : Array Slot), LW (dC, dI) A s b ad kc fr gnS wS bd kd (k + 1) H locs ls → W p l e room_1 s m #[Value.ref b] below meth c H locs (70 + 9 * (k + 1)) (7203 + 400 * (k + 1)) (lw_Z below #[Value.ref b] s) (F0 m 18 ls [])) : W p l e room_1 s m #[Value.ref b] below meth c H locs (70 + 9 * k) (7203 + 400 * k) (lw_Z below #[Value.ref b] s) (F0 m 599 ls []) := by
  obtain ⟨hx, hb, hr, hml, hown, hts, hX, hbl, hlocks, hgv⟩ := id C0
  have hown : s.vm.findClass RL = some m.cls := hown
  have hts := fun w (h : w ∈ wz_law) => hts w (wz_law_in w h)
  have hbA : ¬ A b := fun h => absurd (hA2 b h) (Nat.not_le.mpr hbl)
  obtain ⟨Wx, Wm, iv, fI, ja, hREL, hKR, hXI, hMN, hP, hD, hS, hl⟩ := hW
  refine lv_aload_n hx hb dL_law_599 rfl (lv_at hl 2 rfl) ?_
  refine lv_aload_n hx hb dL_law_600 rfl (lv_at hl 3 rfl) ?_
  refine lv_iload_n hx hb dL_law_601 rfl (lv_at hl 0 rfl) ?_
  refine lv_iconst (v := 1) hx hb dL_law_602 (by decide) ?_
  refine lv_iadd hx hb dL_law_603 ?_
  refine lv_topi (fun z_1 ez_1 => ?_)
  obtain rfl : z_1 = nI ((6 * k) + 1) := ez_1.trans (nI_add ((6 * k)) 1)
  refine va_sld hx hb hX hbl hbA hS (vp_in_nI (by omega) (by omega)) dL_law_604 ?_
  refine lv_topi (fun a_2 ea_2 => ?_)
  refine lv_aload_n hx hb dL_law_605 rfl (lv_at hl 3 rfl) ?_
  refine lv_iload_n hx hb dL_law_606 rfl (lv_at hl 0 rfl) ?_
  refine lv_iconst (v := 2) hx hb dL_law_607 (by decide) ?_
  refine lv_iadd hx hb dL_law_608 ?_
  refine lv_topi (fun z_3 ez_3 => ?_)
  obtain rfl : z_3 = nI ((6 * k) + 2) := ez_3.trans (nI_add ((6 * k)) 2)
  refine va_sld hx hb hX hbl hbA hS (vp_in_nI (by omega) (by omega)) dL_law_609 ?_
  refine lv_topi (fun a_4 ea_4 => ?_)
  obtain ⟨lv, ia, la, ot, t0, t1, t2, hR, i0, i1, i2, rfl⟩ := hXI
  have hFx := free_of hD.left hS hA
  refine va_calli (va_runV (As := [.int a_2, .int a_4]) (rest := []) ⟨hx, hb, hml, hown, hts⟩ (Met_xi (kx_lawful l dC dI H.size ad kc fr gnS wS iv lv ia la ot fI hFX hR a_2 a_4) i0 i1 i2 (EY := fun _ => True) (fun _ _ h => h)) (cwV 2 hts g_law_X6_lawful rfl rfl rfl (by decide +kernel) ⟨Nat.le_of_ble_eq_true rfl, Nat.le_of_ble_eq_true rfl⟩) ⟨fun a U g mk q => by obtain ⟨q0, q1, qP, qK, qD, qE⟩ := q; exact ⟨q0, q1, qP, va_K.moved (u := U) (U := U.calling g mk a) (Vm.Alike.refl U.vm) qK, qD, trivial⟩, va_recv hK hP.left (ci := 6) (q0 := 0) rfl rfl, fun U hU hW => ⟨rfl, by rw [hU], by rw [hU]; exact hP.left, va_K.moved hW.alike hK, hD.left.weaken (fun _ _ _ _ => trivial), trivial⟩⟩ rfl rfl hl.1 rfl (lv_room (Nat.le_of_ble_eq_true rfl)) dL_law_610 ⟨by show 70 + 9 * k + 0 + 0 ≤ 600000; omega, by show 7203 + 400 * k + 0 + 0 ≤ 7302250; omega⟩) hS (fun q _ h => hFx q h) hFx (fun r_5 V_7 t H1 locs ht hvm hw_6 hB hz1 hk1 hS => ?_)
  obtain ⟨hP, hD⟩ := va_joinA hP hD hk1 hFx (by rw [← ht]; exact hB.1) hB.2
  generalize H1 = H at hP hS ⊢
  obtain ⟨hp9, iv2, fI2, hch, hXJ⟩ := hw_6
  refine lv_pop hx hb dL_law_613 rfl ?_
  refine lv_aload_n hx hb dL_law_614 rfl (lv_at hl 1 rfl) ?_
  refine lv_aload_n hx hb dL_law_615 rfl (lv_at hl 3 rfl) ?_
  refine lv_iload_n hx hb dL_law_616 rfl (lv_at hl 0 rfl) ?_
  refine lv_iconst (v := 1) hx hb dL_law_617 (by decide) ?_
  refine lv_iadd hx hb dL_law_618 ?_
  refine lv_topi (fun z_8 ez_8 => ?_)
  obtain rfl : z_8 = nI ((6 * k) + 1) := ez_8.trans (nI_add ((6 * k)) 1)
  refine va_sld hx hb hX hbl hbA hS (vp_in_nI (by omega) (by omega)) dL_law_619 ?_
  refine lv_topi (fun a_9 ea_9 => ?_)
  obtain rfl : a_2 = a_9 := ea_2.trans ea_9.symm
  refine lv_aload_n hx hb dL_law_620 rfl (lv_at hl 3 rfl) ?_
  refine lv_iload_n hx hb dL_law_621 rfl (lv_at hl 0 rfl) ?_
  refine lv_iconst (v := 2) hx hb dL_law_622 (by decide) ?_
  refine lv_iadd hx hb dL_law_623 ?_
  refine lv_topi (fun z_10 ez_10 => ?_)
  obtain rfl : z_10 = nI ((6 * k) + 2) := ez_10.trans (nI_add ((6 * k)) 2)
  refine va_sld hx hb hX hbl hbA hS (vp_in_nI (by omega) (by omega)) dL_law_624 ?_
  refine lv_topi (fun a_11 ea_11 => ?_)
  obtain rfl : a_4 = a_11 := ea_4.trans ea_11.symm
  obtain ⟨jv, jl, jb, hR2, rfl⟩ := hMN
  obtain ⟨hP, hD⟩ := va_swap hP hD
  have hFx := free_of hD.left hS hA
  refine va_calli (va_runV (As := [.int a_2, .int a_4]) (rest := []) ⟨hx, hb, hml, hown, hts⟩ (km_lawful l dC dI H.size bd kd jv jl ja jb hR2 a_2 a_4) (cwV 2 hts g_law_X7_lawful rfl rfl rfl (by decide +kernel) ⟨Nat.le_of_ble_eq_true rfl, Nat.le_of_ble_eq_true rfl⟩) ⟨fun a U g mk q => by obtain ⟨q0, q1, qP, qK, qD, qE⟩ := q; exact ⟨q0, q1, qP, va_K.moved (u := U) (U := U.calling g mk a) (Vm.Alike.refl U.vm) qK, qD, trivial⟩, va_recv hK2 hP.left (ci := 7) (q0 := 0) rfl rfl, fun U hU hW => ⟨rfl, by rw [hU], by rw [hU]; exact hP.left, va_K.moved hW.alike hK2, hD.left.weaken (fun _ _ _ _ => trivial), trivial⟩⟩ rfl rfl hl.1 rfl (lv_room (Nat.le_of_ble_eq_true rfl)) dL_law_625 ⟨by show 70 + 9 * k + 0 + 0 ≤ 600000; omega, by show 7203 + 400 * k + 0 + 0 ≤ 7302250; omega⟩) hS (fun q _ h => hFx q h) hFx (fun r_12 V_14 t H1 locs ht hvm hw_13 hB hz1 hk1 hS => ?_)
  obtain ⟨hP, hD⟩ := va_joinA hP hD hk1 hFx (by rw [← ht]; exact hB.1) hB.2
  generalize H1 = H at hP hS ⊢
  obtain ⟨hP, hD⟩ := va_swap hP hD
  obtain ⟨hq9, jv2, jl2, ja2, jb2, hcm, hMR, rfl⟩ := hw_13
  refine lv_pop hx hb dL_law_628 rfl ?_
  refine lv_goto (tgt := 1569) hx hb dL_law_629 (by decide) ?_
  refine lv_iinc (v := nI (6 * (k + 1))) (lv' := [(3, .int (nI (6 * (k + 1)))), (2, .ref (bd 0)), (1, .ref (ad 0)), (0, .ref b)]) hx hb dL_law_1569 hl (k := 0) rfl (show nI (6 * k) + nI 6 = nI (6 * (k + 1)) from nI_add (6 * k) 6) (by decide) rfl (fun ls hl => ?_)
  refine lv_goto (tgt := 18) hx hb dL_law_1572 (by decide) ?_
  refine W.widen (k := 70 + 9 * (k + 1)) (n := 7203 + 400 * (k + 1)) (by omega) (by omega) ?_
  exact ih _ _ _ ⟨V_7, _, iv2, fI2, ja2, hREL.same hch.1 hcm.1 hcm.2.1, hKR.same hch.2 hcm.2.2, hXJ, ⟨jv2, jl2, jb2, hMR, rfl⟩, hP, hD, hS, lv_sub hl [0, 1, 2, 3] rfl⟩

set_option maxHeartbeats 4000000 in
set_option maxRecDepth 100000 in
/-- the law, its call 14: many -/
theorem lc_14 {p : Program} {e : Env} {s : State} {m : MethodId} {below : List Frame} {meth : Method} {c : Code} (l : Launch) {b L : Nat} {xs : Nat → Int32} (hL : L ≤ 3072) (C0 : lw_At p s m meth c b L xs) {A : Nat → Prop} (hA : ∀ q, s.heap.size ≤ q → A q) (hA2 : ∀ q, A q → s.heap.size ≤ q) (hE0 : Kx s) {sa sv sn : Nat → Nat} (hE9 : sx sa sv sn A s) {dC : Nat → ClassId} {dI : Nat → Nat → Nat} {ad : Nat → Nat} {kc : Nat → ClassId} {fr gnS wS : Nat → Option Nat} {bd : Nat → Nat} {kd : Nat → ClassId} (hFX : FX ad fr gnS wS) (hK : va_K (dC, dI) vwCl (XT kc) s) (hK2 : va_K (dC, dI) vwCl (MT kd) s) {k : Nat} (hk : 6 * k + 6 ≤ L) {H : Heap} {locs : List Loc} {ls : Array Slot} (hW : LW (dC, dI) A s b ad kc fr gnS wS bd kd k H locs ls) (ih : ∀ (H : Heap) (locs : List Loc) (ls : Array Slot), LW (dC, dI) A s b ad kc fr gnS wS bd kd (k + 1) H locs ls → W p l e room_1 s m #[Value.ref b] below meth c H locs (70 + 9 * (k + 1)) (7203 + 400 * (k + 1)) (lw_Z below #[Value.ref b] s) (F0 m 18 ls [])) : W p l e room_1 s m #[Value.ref b] below meth c H locs (70 + 9 * k) (7203 + 400 * k) (lw_Z below #[Value.ref b] s) (F0 m 632 ls []) := by
  obtain ⟨hx, hb, hr, hml, hown, hts, hX, hbl, hlocks, hgv⟩ := id C0
  have hown : s.vm.findClass RL = some m.cls := hown
  have hts := fun w (h : w ∈ wz_law) => hts w (wz_law_in w h)
  have hbA : ¬ A b := fun h => absurd (hA2 b h) (Nat.not_le.mpr hbl)
  obtain ⟨Wx, Wm, iv, fI, ja, hREL, hKR, hXI, hMN, hP, hD, hS, hl⟩ := hW
  refine lv_aload_n hx hb dL_law_632 rfl (lv_at hl 2 rfl) ?_
  obtain ⟨lv, ia, la, ot, t0, t1, t2, hR, i0, i1, i2, rfl⟩ := hXI
  have hFx := free_of hD.left hS hA
  refine va_calli (va_runV (As := []) (rest := []) ⟨hx, hb, hml, hown, hts⟩ (Met_xi (kx_many l dC dI H.size ad kc fr gnS wS iv lv ia la ot fI hFX hR ) i0 i1 i2 (EY := fun _ => True) (fun _ _ h => h)) (cwV 0 hts g_law_X6_many rfl rfl rfl (by decide +kernel) ⟨Nat.le_of_ble_eq_true rfl, Nat.le_of_ble_eq_true rfl⟩) ⟨fun a U g mk q => by obtain ⟨q0, q1, qP, qK, qD, qE⟩ := q; exact ⟨q0, q1, qP, va_K.moved (u := U) (U := U.calling g mk a) (Vm.Alike.refl U.vm) qK, qD, trivial⟩, va_recv hK hP.left (ci := 6) (q0 := 0) rfl rfl, fun U hU hW => ⟨rfl, by rw [hU], by rw [hU]; exact hP.left, va_K.moved hW.alike hK, hD.left.weaken (fun _ _ _ _ => trivial), trivial⟩⟩ rfl rfl hl.1 rfl (lv_room (Nat.le_of_ble_eq_true rfl)) dL_law_633 ⟨by show 70 + 9 * k + 0 + 0 ≤ 600000; omega, by show 7203 + 400 * k + 0 + 0 ≤ 7302250; omega⟩) hS (fun q _ h => hFx q h) hFx (fun r_1 V_3 t H1 locs ht hvm hw_2 hB hz1 hk1 hS => ?_)
  obtain ⟨hP, hD⟩ := va_joinA hP hD hk1 hFx (by rw [← ht]; exact hB.1) hB.2
  generalize H1 = H at hP hS ⊢
  obtain ⟨hp9, iv2, fI2, hch, hXJ⟩ := hw_2
  refine lv_pop hx hb dL_law_636 rfl ?_
  refine lv_aload_n hx hb dL_law_637 rfl (lv_at hl 1 rfl) ?_
  obtain ⟨jv, jl, jb, hR2, rfl⟩ := hMN
  obtain ⟨hP, hD⟩ := va_swap hP hD
  have hFx := free_of hD.left hS hA
  refine va_calli (va_runV (As := []) (rest := []) ⟨hx, hb, hml, hown, hts⟩ (km_many l dC dI H.size bd kd jv jl ja jb hR2 ) (cwV 0 hts g_law_X7_many rfl rfl rfl (by decide +kernel) ⟨Nat.le_of_ble_eq_true rfl, Nat.le_of_ble_eq_true rfl⟩) ⟨fun a U g mk q => by obtain ⟨q0, q1, qP, qK, qD, qE⟩ := q; exact ⟨q0, q1, qP, va_K.moved (u := U) (U := U.calling g mk a) (Vm.Alike.refl U.vm) qK, qD, trivial⟩, va_recv hK2 hP.left (ci := 7) (q0 := 0) rfl rfl, fun U hU hW => ⟨rfl, by rw [hU], by rw [hU]; exact hP.left, va_K.moved hW.alike hK2, hD.left.weaken (fun _ _ _ _ => trivial), trivial⟩⟩ rfl rfl hl.1 rfl (lv_room (Nat.le_of_ble_eq_true rfl)) dL_law_638 ⟨by show 70 + 9 * k + 0 + 0 ≤ 600000; omega, by show 7203 + 400 * k + 0 + 0 ≤ 7302250; omega⟩) hS (fun q _ h => hFx q h) hFx (fun r_4 V_6 t H1 locs ht hvm hw_5 hB hz1 hk1 hS => ?_)
  obtain ⟨hP, hD⟩ := va_joinA hP hD hk1 hFx (by rw [← ht]; exact hB.1) hB.2
  generalize H1 = H at hP hS ⊢
  obtain ⟨hP, hD⟩ := va_swap hP hD
  obtain ⟨hq9, jv2, jl2, ja2, jb2, hcm, hMR, rfl⟩ := hw_5
  refine lv_pop hx hb dL_law_641 rfl ?_
  refine lv_goto (tgt := 1569) hx hb dL_law_642 (by decide) ?_
  refine lv_iinc (v := nI (6 * (k + 1))) (lv' := [(3, .int (nI (6 * (k + 1)))), (2, .ref (bd 0)), (1, .ref (ad 0)), (0, .ref b)]) hx hb dL_law_1569 hl (k := 0) rfl (show nI (6 * k) + nI 6 = nI (6 * (k + 1)) from nI_add (6 * k) 6) (by decide) rfl (fun ls hl => ?_)
  refine lv_goto (tgt := 18) hx hb dL_law_1572 (by decide) ?_
  refine W.widen (k := 70 + 9 * (k + 1)) (n := 7203 + 400 * (k + 1)) (by omega) (by omega) ?_
  exact ih _ _ _ ⟨V_3, _, iv2, fI2, ja2, hREL.same hch.1 hcm.1 hcm.2.1, hKR.same hch.2 hcm.2.2, hXJ, ⟨jv2, jl2, jb2, hMR, rfl⟩, hP, hD, hS, lv_sub hl [0, 1, 2, 3] rfl⟩

set_option maxHeartbeats 4000000 in
set_option maxRecDepth 100000 in
/-- the law, its call 15: nth -/
theorem lc_15 {p : Program} {e : Env} {s : State} {m : MethodId} {below : List Frame} {meth : Method} {c : Code} (l : Launch) {b L : Nat} {xs : Nat → Int32} (hL : L ≤ 3072) (C0 : lw_At p s m meth c b L xs) {A : Nat → Prop} (hA : ∀ q, s.heap.size ≤ q → A q) (hA2 : ∀ q, A q → s.heap.size ≤ q) (hE0 : Kx s) {sa sv sn : Nat → Nat} (hE9 : sx sa sv sn A s) {dC : Nat → ClassId} {dI : Nat → Nat → Nat} {ad : Nat → Nat} {kc : Nat → ClassId} {fr gnS wS : Nat → Option Nat} {bd : Nat → Nat} {kd : Nat → ClassId} (hFX : FX ad fr gnS wS) (hK : va_K (dC, dI) vwCl (XT kc) s) (hK2 : va_K (dC, dI) vwCl (MT kd) s) {k : Nat} (hk : 6 * k + 6 ≤ L) {H : Heap} {locs : List Loc} {ls : Array Slot} (hW : LW (dC, dI) A s b ad kc fr gnS wS bd kd k H locs ls) (ih : ∀ (H : Heap) (locs : List Loc) (ls : Array Slot), LW (dC, dI) A s b ad kc fr gnS wS bd kd (k + 1) H locs ls → W p l e room_1 s m #[Value.ref b] below meth c H locs (70 + 9 * (k + 1)) (7203 + 400 * (k + 1)) (lw_Z below #[Value.ref b] s) (F0 m 18 ls [])) : W p l e room_1 s m #[Value.ref b] below meth c H locs (70 + 9 * k) (7203 + 400 * k) (lw_Z below #[Value.ref b] s) (F0 m 645 ls []) := by
  obtain ⟨hx, hb, hr, hml, hown, hts, hX, hbl, hlocks, hgv⟩ := id C0
  have hown : s.vm.findClass RL = some m.cls := hown
  have hts := fun w (h : w ∈ wz_law) => hts w (wz_law_in w h)
  have hbA : ¬ A b := fun h => absurd (hA2 b h) (Nat.not_le.mpr hbl)
  obtain ⟨Wx, Wm, iv, fI, ja, hREL, hKR, hXI, hMN, hP, hD, hS, hl⟩ := hW
  refine lv_aload_n hx hb dL_law_645 rfl (lv_at hl 2 rfl) ?_
  refine lv_aload_n hx hb dL_law_646 rfl (lv_at hl 3 rfl) ?_
  refine lv_iload_n hx hb dL_law_647 rfl (lv_at hl 0 rfl) ?_
  refine lv_iconst (v := 1) hx hb dL_law_648 (by decide) ?_
  refine lv_iadd hx hb dL_law_649 ?_
  refine lv_topi (fun z_1 ez_1 => ?_)
  obtain rfl : z_1 = nI ((6 * k) + 1) := ez_1.trans (nI_add ((6 * k)) 1)
  refine va_sld hx hb hX hbl hbA hS (vp_in_nI (by omega) (by omega)) dL_law_650 ?_
  refine lv_topi (fun a_2 ea_2 => ?_)
  obtain ⟨lv, ia, la, ot, t0, t1, t2, hR, i0, i1, i2, rfl⟩ := hXI
  have hFx := free_of hD.left hS hA
  refine va_calli (va_runV (As := [.int a_2]) (rest := []) ⟨hx, hb, hml, hown, hts⟩ (Met_xi (kx_nth l dC dI H.size ad kc fr gnS wS iv lv ia la ot fI hFX hR a_2) i0 i1 i2 (EY := fun _ => True) (fun _ _ h => h)) (cwV 1 hts g_law_X6_nth rfl rfl rfl (by decide +kernel) ⟨Nat.le_of_ble_eq_true rfl, Nat.le_of_ble_eq_true rfl⟩) ⟨fun a U g mk q => by obtain ⟨q0, q1, qP, qK, qD, qE⟩ := q; exact ⟨q0, q1, qP, va_K.moved (u := U) (U := U.calling g mk a) (Vm.Alike.refl U.vm) qK, qD, trivial⟩, va_recv hK hP.left (ci := 6) (q0 := 0) rfl rfl, fun U hU hW => ⟨rfl, by rw [hU], by rw [hU]; exact hP.left, va_K.moved hW.alike hK, hD.left.weaken (fun _ _ _ _ => trivial), trivial⟩⟩ rfl rfl hl.1 rfl (lv_room (Nat.le_of_ble_eq_true rfl)) dL_law_651 ⟨by show 70 + 9 * k + 0 + 0 ≤ 600000; omega, by show 7203 + 400 * k + 0 + 0 ≤ 7302250; omega⟩) hS (fun q _ h => hFx q h) hFx (fun r_3 V_5 t H1 locs ht hvm hw_4 hB hz1 hk1 hS => ?_)
  obtain ⟨hP, hD⟩ := va_joinA hP hD hk1 hFx (by rw [← ht]; exact hB.1) hB.2
  generalize H1 = H at hP hS ⊢
  obtain ⟨hp9, iv2, fI2, hch, hXJ⟩ := hw_4
  refine lv_pop hx hb dL_law_654 rfl ?_
  refine lv_aload_n hx hb dL_law_655 rfl (lv_at hl 1 rfl) ?_
  refine lv_aload_n hx hb dL_law_656 rfl (lv_at hl 3 rfl) ?_
  refine lv_iload_n hx hb dL_law_657 rfl (lv_at hl 0 rfl) ?_
  refine lv_iconst (v := 1) hx hb dL_law_658 (by decide) ?_
  refine lv_iadd hx hb dL_law_659 ?_
  refine lv_topi (fun z_6 ez_6 => ?_)
  obtain rfl : z_6 = nI ((6 * k) + 1) := ez_6.trans (nI_add ((6 * k)) 1)
  refine va_sld hx hb hX hbl hbA hS (vp_in_nI (by omega) (by omega)) dL_law_660 ?_
  refine lv_topi (fun a_7 ea_7 => ?_)
  obtain rfl : a_2 = a_7 := ea_2.trans ea_7.symm
  obtain ⟨jv, jl, jb, hR2, rfl⟩ := hMN
  obtain ⟨hP, hD⟩ := va_swap hP hD
  have hFx := free_of hD.left hS hA
  refine va_calli (va_runV (As := [.int a_2]) (rest := []) ⟨hx, hb, hml, hown, hts⟩ (km_nth l dC dI H.size bd kd jv jl ja jb hR2 a_2) (cwV 1 hts g_law_X7_nth rfl rfl rfl (by decide +kernel) ⟨Nat.le_of_ble_eq_true rfl, Nat.le_of_ble_eq_true rfl⟩) ⟨fun a U g mk q => by obtain ⟨q0, q1, qP, qK, qD, qE⟩ := q; exact ⟨q0, q1, qP, va_K.moved (u := U) (U := U.calling g mk a) (Vm.Alike.refl U.vm) qK, qD, trivial⟩, va_recv hK2 hP.left (ci := 7) (q0 := 0) rfl rfl, fun U hU hW => ⟨rfl, by rw [hU], by rw [hU]; exact hP.left, va_K.moved hW.alike hK2, hD.left.weaken (fun _ _ _ _ => trivial), trivial⟩⟩ rfl rfl hl.1 rfl (lv_room (Nat.le_of_ble_eq_true rfl)) dL_law_661 ⟨by show 70 + 9 * k + 0 + 0 ≤ 600000; omega, by show 7203 + 400 * k + 0 + 0 ≤ 7302250; omega⟩) hS (fun q _ h => hFx q h) hFx (fun r_8 V_10 t H1 locs ht hvm hw_9 hB hz1 hk1 hS => ?_)
  obtain ⟨hP, hD⟩ := va_joinA hP hD hk1 hFx (by rw [← ht]; exact hB.1) hB.2
  generalize H1 = H at hP hS ⊢
  obtain ⟨hP, hD⟩ := va_swap hP hD
  obtain ⟨hq9, jv2, jl2, ja2, jb2, hcm, hMR, rfl⟩ := hw_9
  refine lv_pop hx hb dL_law_664 rfl ?_
  refine lv_goto (tgt := 1569) hx hb dL_law_665 (by decide) ?_
  refine lv_iinc (v := nI (6 * (k + 1))) (lv' := [(3, .int (nI (6 * (k + 1)))), (2, .ref (bd 0)), (1, .ref (ad 0)), (0, .ref b)]) hx hb dL_law_1569 hl (k := 0) rfl (show nI (6 * k) + nI 6 = nI (6 * (k + 1)) from nI_add (6 * k) 6) (by decide) rfl (fun ls hl => ?_)
  refine lv_goto (tgt := 18) hx hb dL_law_1572 (by decide) ?_
  refine W.widen (k := 70 + 9 * (k + 1)) (n := 7203 + 400 * (k + 1)) (by omega) (by omega) ?_
  exact ih _ _ _ ⟨V_5, _, iv2, fI2, ja2, hREL.same hch.1 hcm.1 hcm.2.1, hKR.same hch.2 hcm.2.2, hXJ, ⟨jv2, jl2, jb2, hMR, rfl⟩, hP, hD, hS, lv_sub hl [0, 1, 2, 3] rfl⟩

set_option maxHeartbeats 4000000 in
set_option maxRecDepth 100000 in
/-- the law, its call 16: night -/
theorem lc_16 {p : Program} {e : Env} {s : State} {m : MethodId} {below : List Frame} {meth : Method} {c : Code} (l : Launch) {b L : Nat} {xs : Nat → Int32} (hL : L ≤ 3072) (C0 : lw_At p s m meth c b L xs) {A : Nat → Prop} (hA : ∀ q, s.heap.size ≤ q → A q) (hA2 : ∀ q, A q → s.heap.size ≤ q) (hE0 : Kx s) {sa sv sn : Nat → Nat} (hE9 : sx sa sv sn A s) {dC : Nat → ClassId} {dI : Nat → Nat → Nat} {ad : Nat → Nat} {kc : Nat → ClassId} {fr gnS wS : Nat → Option Nat} {bd : Nat → Nat} {kd : Nat → ClassId} (hFX : FX ad fr gnS wS) (hK : va_K (dC, dI) vwCl (XT kc) s) (hK2 : va_K (dC, dI) vwCl (MT kd) s) {k : Nat} (hk : 6 * k + 6 ≤ L) {H : Heap} {locs : List Loc} {ls : Array Slot} (hW : LW (dC, dI) A s b ad kc fr gnS wS bd kd k H locs ls) (ih : ∀ (H : Heap) (locs : List Loc) (ls : Array Slot), LW (dC, dI) A s b ad kc fr gnS wS bd kd (k + 1) H locs ls → W p l e room_1 s m #[Value.ref b] below meth c H locs (70 + 9 * (k + 1)) (7203 + 400 * (k + 1)) (lw_Z below #[Value.ref b] s) (F0 m 18 ls [])) : W p l e room_1 s m #[Value.ref b] below meth c H locs (70 + 9 * k) (7203 + 400 * k) (lw_Z below #[Value.ref b] s) (F0 m 668 ls []) := by
  obtain ⟨hx, hb, hr, hml, hown, hts, hX, hbl, hlocks, hgv⟩ := id C0
  have hown : s.vm.findClass RL = some m.cls := hown
  have hts := fun w (h : w ∈ wz_law) => hts w (wz_law_in w h)
  have hbA : ¬ A b := fun h => absurd (hA2 b h) (Nat.not_le.mpr hbl)
  obtain ⟨Wx, Wm, iv, fI, ja, hREL, hKR, hXI, hMN, hP, hD, hS, hl⟩ := hW
  refine lv_aload_n hx hb dL_law_668 rfl (lv_at hl 2 rfl) ?_
  refine lv_aload_n hx hb dL_law_669 rfl (lv_at hl 3 rfl) ?_
  refine lv_iload_n hx hb dL_law_670 rfl (lv_at hl 0 rfl) ?_
  refine lv_iconst (v := 1) hx hb dL_law_671 (by decide) ?_
  refine lv_iadd hx hb dL_law_672 ?_
  refine lv_topi (fun z_1 ez_1 => ?_)
  obtain rfl : z_1 = nI ((6 * k) + 1) := ez_1.trans (nI_add ((6 * k)) 1)
  refine va_sld hx hb hX hbl hbA hS (vp_in_nI (by omega) (by omega)) dL_law_673 ?_
  refine lv_topi (fun a_2 ea_2 => ?_)
  refine lv_aload_n hx hb dL_law_674 rfl (lv_at hl 3 rfl) ?_
  refine lv_iload_n hx hb dL_law_675 rfl (lv_at hl 0 rfl) ?_
  refine lv_iconst (v := 2) hx hb dL_law_676 (by decide) ?_
  refine lv_iadd hx hb dL_law_677 ?_
  refine lv_topi (fun z_3 ez_3 => ?_)
  obtain rfl : z_3 = nI ((6 * k) + 2) := ez_3.trans (nI_add ((6 * k)) 2)
  refine va_sld hx hb hX hbl hbA hS (vp_in_nI (by omega) (by omega)) dL_law_678 ?_
  refine lv_topi (fun a_4 ea_4 => ?_)
  obtain ⟨lv, ia, la, ot, t0, t1, t2, hR, i0, i1, i2, rfl⟩ := hXI
  have hFx := free_of hD.left hS hA
  refine va_calli (va_runV (As := [.int a_2, .int a_4]) (rest := []) ⟨hx, hb, hml, hown, hts⟩ (Met_xi (kx_night l dC dI H.size ad kc fr gnS wS iv lv ia la ot fI hFX hR a_2 a_4) i0 i1 i2 (EY := fun _ => True) (fun _ _ h => h)) (cwV 2 hts g_law_X6_night rfl rfl rfl (by decide +kernel) ⟨Nat.le_of_ble_eq_true rfl, Nat.le_of_ble_eq_true rfl⟩) ⟨fun a U g mk q => by obtain ⟨q0, q1, qP, qK, qD, qE⟩ := q; exact ⟨q0, q1, qP, va_K.moved (u := U) (U := U.calling g mk a) (Vm.Alike.refl U.vm) qK, qD, trivial⟩, va_recv hK hP.left (ci := 6) (q0 := 0) rfl rfl, fun U hU hW => ⟨rfl, by rw [hU], by rw [hU]; exact hP.left, va_K.moved hW.alike hK, hD.left.weaken (fun _ _ _ _ => trivial), trivial⟩⟩ rfl rfl hl.1 rfl (lv_room (Nat.le_of_ble_eq_true rfl)) dL_law_679 ⟨by show 70 + 9 * k + 0 + 0 ≤ 600000; omega, by show 7203 + 400 * k + 0 + 0 ≤ 7302250; omega⟩) hS (fun q _ h => hFx q h) hFx (fun r_5 V_7 t H1 locs ht hvm hw_6 hB hz1 hk1 hS => ?_)
  obtain ⟨hP, hD⟩ := va_joinA hP hD hk1 hFx (by rw [← ht]; exact hB.1) hB.2
  generalize H1 = H at hP hS ⊢
  obtain ⟨hp9, iv2, fI2, hch, hXJ⟩ := hw_6
  refine lv_pop hx hb dL_law_682 rfl ?_
  refine lv_aload_n hx hb dL_law_683 rfl (lv_at hl 1 rfl) ?_
  refine lv_aload_n hx hb dL_law_684 rfl (lv_at hl 3 rfl) ?_
  refine lv_iload_n hx hb dL_law_685 rfl (lv_at hl 0 rfl) ?_
  refine lv_iconst (v := 1) hx hb dL_law_686 (by decide) ?_
  refine lv_iadd hx hb dL_law_687 ?_
  refine lv_topi (fun z_8 ez_8 => ?_)
  obtain rfl : z_8 = nI ((6 * k) + 1) := ez_8.trans (nI_add ((6 * k)) 1)
  refine va_sld hx hb hX hbl hbA hS (vp_in_nI (by omega) (by omega)) dL_law_688 ?_
  refine lv_topi (fun a_9 ea_9 => ?_)
  obtain rfl : a_2 = a_9 := ea_2.trans ea_9.symm
  refine lv_aload_n hx hb dL_law_689 rfl (lv_at hl 3 rfl) ?_
  refine lv_iload_n hx hb dL_law_690 rfl (lv_at hl 0 rfl) ?_
  refine lv_iconst (v := 2) hx hb dL_law_691 (by decide) ?_
  refine lv_iadd hx hb dL_law_692 ?_
  refine lv_topi (fun z_10 ez_10 => ?_)
  obtain rfl : z_10 = nI ((6 * k) + 2) := ez_10.trans (nI_add ((6 * k)) 2)
  refine va_sld hx hb hX hbl hbA hS (vp_in_nI (by omega) (by omega)) dL_law_693 ?_
  refine lv_topi (fun a_11 ea_11 => ?_)
  obtain rfl : a_4 = a_11 := ea_4.trans ea_11.symm
  obtain ⟨jv, jl, jb, hR2, rfl⟩ := hMN
  obtain ⟨hP, hD⟩ := va_swap hP hD
  have hFx := free_of hD.left hS hA
  refine va_calli (va_runV (As := [.int a_2, .int a_4]) (rest := []) ⟨hx, hb, hml, hown, hts⟩ (km_night l dC dI H.size bd kd jv jl ja jb hR2 a_2 a_4) (cwV 2 hts g_law_X7_night rfl rfl rfl (by decide +kernel) ⟨Nat.le_of_ble_eq_true rfl, Nat.le_of_ble_eq_true rfl⟩) ⟨fun a U g mk q => by obtain ⟨q0, q1, qP, qK, qD, qE⟩ := q; exact ⟨q0, q1, qP, va_K.moved (u := U) (U := U.calling g mk a) (Vm.Alike.refl U.vm) qK, qD, trivial⟩, va_recv hK2 hP.left (ci := 7) (q0 := 0) rfl rfl, fun U hU hW => ⟨rfl, by rw [hU], by rw [hU]; exact hP.left, va_K.moved hW.alike hK2, hD.left.weaken (fun _ _ _ _ => trivial), trivial⟩⟩ rfl rfl hl.1 rfl (lv_room (Nat.le_of_ble_eq_true rfl)) dL_law_694 ⟨by show 70 + 9 * k + 0 + 0 ≤ 600000; omega, by show 7203 + 400 * k + 0 + 0 ≤ 7302250; omega⟩) hS (fun q _ h => hFx q h) hFx (fun r_12 V_14 t H1 locs ht hvm hw_13 hB hz1 hk1 hS => ?_)
  obtain ⟨hP, hD⟩ := va_joinA hP hD hk1 hFx (by rw [← ht]; exact hB.1) hB.2
  generalize H1 = H at hP hS ⊢
  obtain ⟨hP, hD⟩ := va_swap hP hD
  obtain ⟨hq9, jv2, jl2, ja2, jb2, hcm, hMR, rfl⟩ := hw_13
  refine lv_pop hx hb dL_law_697 rfl ?_
  refine lv_goto (tgt := 1569) hx hb dL_law_698 (by decide) ?_
  refine lv_iinc (v := nI (6 * (k + 1))) (lv' := [(3, .int (nI (6 * (k + 1)))), (2, .ref (bd 0)), (1, .ref (ad 0)), (0, .ref b)]) hx hb dL_law_1569 hl (k := 0) rfl (show nI (6 * k) + nI 6 = nI (6 * (k + 1)) from nI_add (6 * k) 6) (by decide) rfl (fun ls hl => ?_)
  refine lv_goto (tgt := 18) hx hb dL_law_1572 (by decide) ?_
  refine W.widen (k := 70 + 9 * (k + 1)) (n := 7203 + 400 * (k + 1)) (by omega) (by omega) ?_
  exact ih _ _ _ ⟨V_7, _, iv2, fI2, ja2, hREL.same hch.1 hcm.1 hcm.2.1, hKR.same hch.2 hcm.2.2, hXJ, ⟨jv2, jl2, jb2, hMR, rfl⟩, hP, hD, hS, lv_sub hl [0, 1, 2, 3] rfl⟩

set_option maxHeartbeats 4000000 in
set_option maxRecDepth 100000 in
/-- the law, its call 17: dawn -/
theorem lc_17 {p : Program} {e : Env} {s : State} {m : MethodId} {below : List Frame} {meth : Method} {c : Code} (l : Launch) {b L : Nat} {xs : Nat → Int32} (hL : L ≤ 3072) (C0 : lw_At p s m meth c b L xs) {A : Nat → Prop} (hA : ∀ q, s.heap.size ≤ q → A q) (hA2 : ∀ q, A q → s.heap.size ≤ q) (hE0 : Kx s) {sa sv sn : Nat → Nat} (hE9 : sx sa sv sn A s) {dC : Nat → ClassId} {dI : Nat → Nat → Nat} {ad : Nat → Nat} {kc : Nat → ClassId} {fr gnS wS : Nat → Option Nat} {bd : Nat → Nat} {kd : Nat → ClassId} (hFX : FX ad fr gnS wS) (hK : va_K (dC, dI) vwCl (XT kc) s) (hK2 : va_K (dC, dI) vwCl (MT kd) s) {k : Nat} (hk : 6 * k + 6 ≤ L) {H : Heap} {locs : List Loc} {ls : Array Slot} (hW : LW (dC, dI) A s b ad kc fr gnS wS bd kd k H locs ls) (ih : ∀ (H : Heap) (locs : List Loc) (ls : Array Slot), LW (dC, dI) A s b ad kc fr gnS wS bd kd (k + 1) H locs ls → W p l e room_1 s m #[Value.ref b] below meth c H locs (70 + 9 * (k + 1)) (7203 + 400 * (k + 1)) (lw_Z below #[Value.ref b] s) (F0 m 18 ls [])) : W p l e room_1 s m #[Value.ref b] below meth c H locs (70 + 9 * k) (7203 + 400 * k) (lw_Z below #[Value.ref b] s) (F0 m 701 ls []) := by
  obtain ⟨hx, hb, hr, hml, hown, hts, hX, hbl, hlocks, hgv⟩ := id C0
  have hown : s.vm.findClass RL = some m.cls := hown
  have hts := fun w (h : w ∈ wz_law) => hts w (wz_law_in w h)
  have hbA : ¬ A b := fun h => absurd (hA2 b h) (Nat.not_le.mpr hbl)
  obtain ⟨Wx, Wm, iv, fI, ja, hREL, hKR, hXI, hMN, hP, hD, hS, hl⟩ := hW
  refine lv_aload_n hx hb dL_law_701 rfl (lv_at hl 2 rfl) ?_
  obtain ⟨lv, ia, la, ot, t0, t1, t2, hR, i0, i1, i2, rfl⟩ := hXI
  have hFx := free_of hD.left hS hA
  refine va_calli (va_runV (As := []) (rest := []) ⟨hx, hb, hml, hown, hts⟩ (Met_xi (kx_dawn l dC dI H.size ad kc fr gnS wS iv lv ia la ot fI hFX hR ) i0 i1 i2 (EY := fun _ => True) (fun _ _ h => h)) (cwV 0 hts g_law_X6_dawn rfl rfl rfl (by decide +kernel) ⟨Nat.le_of_ble_eq_true rfl, Nat.le_of_ble_eq_true rfl⟩) ⟨fun a U g mk q => by obtain ⟨q0, q1, qP, qK, qD, qE⟩ := q; exact ⟨q0, q1, qP, va_K.moved (u := U) (U := U.calling g mk a) (Vm.Alike.refl U.vm) qK, qD, trivial⟩, va_recv hK hP.left (ci := 6) (q0 := 0) rfl rfl, fun U hU hW => ⟨rfl, by rw [hU], by rw [hU]; exact hP.left, va_K.moved hW.alike hK, hD.left.weaken (fun _ _ _ _ => trivial), trivial⟩⟩ rfl rfl hl.1 rfl (lv_room (Nat.le_of_ble_eq_true rfl)) dL_law_702 ⟨by show 70 + 9 * k + 0 + 0 ≤ 600000; omega, by show 7203 + 400 * k + 0 + 0 ≤ 7302250; omega⟩) hS (fun q _ h => hFx q h) hFx (fun r_1 V_3 t H1 locs ht hvm hw_2 hB hz1 hk1 hS => ?_)
  obtain ⟨hP, hD⟩ := va_joinA hP hD hk1 hFx (by rw [← ht]; exact hB.1) hB.2
  generalize H1 = H at hP hS ⊢
  obtain ⟨hp9, iv2, fI2, hch, hXJ⟩ := hw_2
  refine lv_pop hx hb dL_law_705 rfl ?_
  refine lv_aload_n hx hb dL_law_706 rfl (lv_at hl 1 rfl) ?_
  obtain ⟨jv, jl, jb, hR2, rfl⟩ := hMN
  obtain ⟨hP, hD⟩ := va_swap hP hD
  have hFx := free_of hD.left hS hA
  refine va_calli (va_runV (As := []) (rest := []) ⟨hx, hb, hml, hown, hts⟩ (km_dawn l dC dI H.size bd kd jv jl ja jb hR2 ) (cwV 0 hts g_law_X7_dawn rfl rfl rfl (by decide +kernel) ⟨Nat.le_of_ble_eq_true rfl, Nat.le_of_ble_eq_true rfl⟩) ⟨fun a U g mk q => by obtain ⟨q0, q1, qP, qK, qD, qE⟩ := q; exact ⟨q0, q1, qP, va_K.moved (u := U) (U := U.calling g mk a) (Vm.Alike.refl U.vm) qK, qD, trivial⟩, va_recv hK2 hP.left (ci := 7) (q0 := 0) rfl rfl, fun U hU hW => ⟨rfl, by rw [hU], by rw [hU]; exact hP.left, va_K.moved hW.alike hK2, hD.left.weaken (fun _ _ _ _ => trivial), trivial⟩⟩ rfl rfl hl.1 rfl (lv_room (Nat.le_of_ble_eq_true rfl)) dL_law_707 ⟨by show 70 + 9 * k + 0 + 0 ≤ 600000; omega, by show 7203 + 400 * k + 0 + 0 ≤ 7302250; omega⟩) hS (fun q _ h => hFx q h) hFx (fun r_4 V_6 t H1 locs ht hvm hw_5 hB hz1 hk1 hS => ?_)
  obtain ⟨hP, hD⟩ := va_joinA hP hD hk1 hFx (by rw [← ht]; exact hB.1) hB.2
  generalize H1 = H at hP hS ⊢
  obtain ⟨hP, hD⟩ := va_swap hP hD
  obtain ⟨hq9, jv2, jl2, ja2, jb2, hcm, hMR, rfl⟩ := hw_5
  refine lv_pop hx hb dL_law_710 rfl ?_
  refine lv_goto (tgt := 1569) hx hb dL_law_711 (by decide) ?_
  refine lv_iinc (v := nI (6 * (k + 1))) (lv' := [(3, .int (nI (6 * (k + 1)))), (2, .ref (bd 0)), (1, .ref (ad 0)), (0, .ref b)]) hx hb dL_law_1569 hl (k := 0) rfl (show nI (6 * k) + nI 6 = nI (6 * (k + 1)) from nI_add (6 * k) 6) (by decide) rfl (fun ls hl => ?_)
  refine lv_goto (tgt := 18) hx hb dL_law_1572 (by decide) ?_
  refine W.widen (k := 70 + 9 * (k + 1)) (n := 7203 + 400 * (k + 1)) (by omega) (by omega) ?_
  exact ih _ _ _ ⟨V_3, _, iv2, fI2, ja2, hREL.same hch.1 hcm.1 hcm.2.1, hKR.same hch.2 hcm.2.2, hXJ, ⟨jv2, jl2, jb2, hMR, rfl⟩, hP, hD, hS, lv_sub hl [0, 1, 2, 3] rfl⟩

set_option maxHeartbeats 4000000 in
set_option maxRecDepth 100000 in
/-- the law, its call 18: gone -/
theorem lc_18 {p : Program} {e : Env} {s : State} {m : MethodId} {below : List Frame} {meth : Method} {c : Code} (l : Launch) {b L : Nat} {xs : Nat → Int32} (hL : L ≤ 3072) (C0 : lw_At p s m meth c b L xs) {A : Nat → Prop} (hA : ∀ q, s.heap.size ≤ q → A q) (hA2 : ∀ q, A q → s.heap.size ≤ q) (hE0 : Kx s) {sa sv sn : Nat → Nat} (hE9 : sx sa sv sn A s) {dC : Nat → ClassId} {dI : Nat → Nat → Nat} {ad : Nat → Nat} {kc : Nat → ClassId} {fr gnS wS : Nat → Option Nat} {bd : Nat → Nat} {kd : Nat → ClassId} (hFX : FX ad fr gnS wS) (hK : va_K (dC, dI) vwCl (XT kc) s) (hK2 : va_K (dC, dI) vwCl (MT kd) s) {k : Nat} (hk : 6 * k + 6 ≤ L) {H : Heap} {locs : List Loc} {ls : Array Slot} (hW : LW (dC, dI) A s b ad kc fr gnS wS bd kd k H locs ls) (ih : ∀ (H : Heap) (locs : List Loc) (ls : Array Slot), LW (dC, dI) A s b ad kc fr gnS wS bd kd (k + 1) H locs ls → W p l e room_1 s m #[Value.ref b] below meth c H locs (70 + 9 * (k + 1)) (7203 + 400 * (k + 1)) (lw_Z below #[Value.ref b] s) (F0 m 18 ls [])) : W p l e room_1 s m #[Value.ref b] below meth c H locs (70 + 9 * k) (7203 + 400 * k) (lw_Z below #[Value.ref b] s) (F0 m 714 ls []) := by
  obtain ⟨hx, hb, hr, hml, hown, hts, hX, hbl, hlocks, hgv⟩ := id C0
  have hown : s.vm.findClass RL = some m.cls := hown
  have hts := fun w (h : w ∈ wz_law) => hts w (wz_law_in w h)
  have hbA : ¬ A b := fun h => absurd (hA2 b h) (Nat.not_le.mpr hbl)
  obtain ⟨Wx, Wm, iv, fI, ja, hREL, hKR, hXI, hMN, hP, hD, hS, hl⟩ := hW
  refine lv_aload_n hx hb dL_law_714 rfl (lv_at hl 2 rfl) ?_
  refine lv_aload_n hx hb dL_law_715 rfl (lv_at hl 3 rfl) ?_
  refine lv_iload_n hx hb dL_law_716 rfl (lv_at hl 0 rfl) ?_
  refine lv_iconst (v := 1) hx hb dL_law_717 (by decide) ?_
  refine lv_iadd hx hb dL_law_718 ?_
  refine lv_topi (fun z_1 ez_1 => ?_)
  obtain rfl : z_1 = nI ((6 * k) + 1) := ez_1.trans (nI_add ((6 * k)) 1)
  refine va_sld hx hb hX hbl hbA hS (vp_in_nI (by omega) (by omega)) dL_law_719 ?_
  refine lv_topi (fun a_2 ea_2 => ?_)
  obtain ⟨lv, ia, la, ot, t0, t1, t2, hR, i0, i1, i2, rfl⟩ := hXI
  have hFx := free_of hD.left hS hA
  refine va_calli (va_runV (As := [.int a_2]) (rest := []) ⟨hx, hb, hml, hown, hts⟩ (Met_xi (kx_gone l dC dI H.size ad kc fr gnS wS iv lv ia la ot fI hFX hR a_2) i0 i1 i2 (EY := fun _ => True) (fun _ _ h => h)) (cwV 1 hts g_law_X6_gone rfl rfl rfl (by decide +kernel) ⟨Nat.le_of_ble_eq_true rfl, Nat.le_of_ble_eq_true rfl⟩) ⟨fun a U g mk q => by obtain ⟨q0, q1, qP, qK, qD, qE⟩ := q; exact ⟨q0, q1, qP, va_K.moved (u := U) (U := U.calling g mk a) (Vm.Alike.refl U.vm) qK, qD, trivial⟩, va_recv hK hP.left (ci := 6) (q0 := 0) rfl rfl, fun U hU hW => ⟨rfl, by rw [hU], by rw [hU]; exact hP.left, va_K.moved hW.alike hK, hD.left.weaken (fun _ _ _ _ => trivial), trivial⟩⟩ rfl rfl hl.1 rfl (lv_room (Nat.le_of_ble_eq_true rfl)) dL_law_720 ⟨by show 70 + 9 * k + 0 + 0 ≤ 600000; omega, by show 7203 + 400 * k + 0 + 0 ≤ 7302250; omega⟩) hS (fun q _ h => hFx q h) hFx (fun r_3 V_5 t H1 locs ht hvm hw_4 hB hz1 hk1 hS => ?_)
  obtain ⟨hP, hD⟩ := va_joinA hP hD hk1 hFx (by rw [← ht]; exact hB.1) hB.2
  generalize H1 = H at hP hS ⊢
  obtain ⟨hp9, iv2, fI2, hch, hXJ⟩ := hw_4
  refine lv_pop hx hb dL_law_723 rfl ?_
  refine lv_aload_n hx hb dL_law_724 rfl (lv_at hl 1 rfl) ?_
  refine lv_aload_n hx hb dL_law_725 rfl (lv_at hl 3 rfl) ?_
  refine lv_iload_n hx hb dL_law_726 rfl (lv_at hl 0 rfl) ?_
  refine lv_iconst (v := 1) hx hb dL_law_727 (by decide) ?_
  refine lv_iadd hx hb dL_law_728 ?_
  refine lv_topi (fun z_6 ez_6 => ?_)
  obtain rfl : z_6 = nI ((6 * k) + 1) := ez_6.trans (nI_add ((6 * k)) 1)
  refine va_sld hx hb hX hbl hbA hS (vp_in_nI (by omega) (by omega)) dL_law_729 ?_
  refine lv_topi (fun a_7 ea_7 => ?_)
  obtain rfl : a_2 = a_7 := ea_2.trans ea_7.symm
  obtain ⟨jv, jl, jb, hR2, rfl⟩ := hMN
  obtain ⟨hP, hD⟩ := va_swap hP hD
  have hFx := free_of hD.left hS hA
  refine va_calli (va_runV (As := [.int a_2]) (rest := []) ⟨hx, hb, hml, hown, hts⟩ (km_gone l dC dI H.size bd kd jv jl ja jb hR2 a_2) (cwV 1 hts g_law_X7_gone rfl rfl rfl (by decide +kernel) ⟨Nat.le_of_ble_eq_true rfl, Nat.le_of_ble_eq_true rfl⟩) ⟨fun a U g mk q => by obtain ⟨q0, q1, qP, qK, qD, qE⟩ := q; exact ⟨q0, q1, qP, va_K.moved (u := U) (U := U.calling g mk a) (Vm.Alike.refl U.vm) qK, qD, trivial⟩, va_recv hK2 hP.left (ci := 7) (q0 := 0) rfl rfl, fun U hU hW => ⟨rfl, by rw [hU], by rw [hU]; exact hP.left, va_K.moved hW.alike hK2, hD.left.weaken (fun _ _ _ _ => trivial), trivial⟩⟩ rfl rfl hl.1 rfl (lv_room (Nat.le_of_ble_eq_true rfl)) dL_law_730 ⟨by show 70 + 9 * k + 0 + 0 ≤ 600000; omega, by show 7203 + 400 * k + 0 + 0 ≤ 7302250; omega⟩) hS (fun q _ h => hFx q h) hFx (fun r_8 V_10 t H1 locs ht hvm hw_9 hB hz1 hk1 hS => ?_)
  obtain ⟨hP, hD⟩ := va_joinA hP hD hk1 hFx (by rw [← ht]; exact hB.1) hB.2
  generalize H1 = H at hP hS ⊢
  obtain ⟨hP, hD⟩ := va_swap hP hD
  obtain ⟨hq9, jv2, jl2, ja2, jb2, hcm, hMR, rfl⟩ := hw_9
  refine lv_pop hx hb dL_law_733 rfl ?_
  refine lv_goto (tgt := 1569) hx hb dL_law_734 (by decide) ?_
  refine lv_iinc (v := nI (6 * (k + 1))) (lv' := [(3, .int (nI (6 * (k + 1)))), (2, .ref (bd 0)), (1, .ref (ad 0)), (0, .ref b)]) hx hb dL_law_1569 hl (k := 0) rfl (show nI (6 * k) + nI 6 = nI (6 * (k + 1)) from nI_add (6 * k) 6) (by decide) rfl (fun ls hl => ?_)
  refine lv_goto (tgt := 18) hx hb dL_law_1572 (by decide) ?_
  refine W.widen (k := 70 + 9 * (k + 1)) (n := 7203 + 400 * (k + 1)) (by omega) (by omega) ?_
  exact ih _ _ _ ⟨V_5, _, iv2, fI2, ja2, hREL.same hch.1 hcm.1 hcm.2.1, hKR.same hch.2 hcm.2.2, hXJ, ⟨jv2, jl2, jb2, hMR, rfl⟩, hP, hD, hS, lv_sub hl [0, 1, 2, 3] rfl⟩

set_option maxHeartbeats 4000000 in
set_option maxRecDepth 100000 in
/-- the law, its call 19: may -/
theorem lc_19 {p : Program} {e : Env} {s : State} {m : MethodId} {below : List Frame} {meth : Method} {c : Code} (l : Launch) {b L : Nat} {xs : Nat → Int32} (hL : L ≤ 3072) (C0 : lw_At p s m meth c b L xs) {A : Nat → Prop} (hA : ∀ q, s.heap.size ≤ q → A q) (hA2 : ∀ q, A q → s.heap.size ≤ q) (hE0 : Kx s) {sa sv sn : Nat → Nat} (hE9 : sx sa sv sn A s) {dC : Nat → ClassId} {dI : Nat → Nat → Nat} {ad : Nat → Nat} {kc : Nat → ClassId} {fr gnS wS : Nat → Option Nat} {bd : Nat → Nat} {kd : Nat → ClassId} (hFX : FX ad fr gnS wS) (hK : va_K (dC, dI) vwCl (XT kc) s) (hK2 : va_K (dC, dI) vwCl (MT kd) s) {k : Nat} (hk : 6 * k + 6 ≤ L) {H : Heap} {locs : List Loc} {ls : Array Slot} (hW : LW (dC, dI) A s b ad kc fr gnS wS bd kd k H locs ls) (ih : ∀ (H : Heap) (locs : List Loc) (ls : Array Slot), LW (dC, dI) A s b ad kc fr gnS wS bd kd (k + 1) H locs ls → W p l e room_1 s m #[Value.ref b] below meth c H locs (70 + 9 * (k + 1)) (7203 + 400 * (k + 1)) (lw_Z below #[Value.ref b] s) (F0 m 18 ls [])) : W p l e room_1 s m #[Value.ref b] below meth c H locs (70 + 9 * k) (7203 + 400 * k) (lw_Z below #[Value.ref b] s) (F0 m 737 ls []) := by
  obtain ⟨hx, hb, hr, hml, hown, hts, hX, hbl, hlocks, hgv⟩ := id C0
  have hown : s.vm.findClass RL = some m.cls := hown
  have hts := fun w (h : w ∈ wz_law) => hts w (wz_law_in w h)
  have hbA : ¬ A b := fun h => absurd (hA2 b h) (Nat.not_le.mpr hbl)
  obtain ⟨Wx, Wm, iv, fI, ja, hREL, hKR, hXI, hMN, hP, hD, hS, hl⟩ := hW
  refine lv_aload_n hx hb dL_law_737 rfl (lv_at hl 2 rfl) ?_
  refine lv_aload_n hx hb dL_law_738 rfl (lv_at hl 3 rfl) ?_
  refine lv_iload_n hx hb dL_law_739 rfl (lv_at hl 0 rfl) ?_
  refine lv_iconst (v := 1) hx hb dL_law_740 (by decide) ?_
  refine lv_iadd hx hb dL_law_741 ?_
  refine lv_topi (fun z_1 ez_1 => ?_)
  obtain rfl : z_1 = nI ((6 * k) + 1) := ez_1.trans (nI_add ((6 * k)) 1)
  refine va_sld hx hb hX hbl hbA hS (vp_in_nI (by omega) (by omega)) dL_law_742 ?_
  refine lv_topi (fun a_2 ea_2 => ?_)
  refine lv_aload_n hx hb dL_law_743 rfl (lv_at hl 3 rfl) ?_
  refine lv_iload_n hx hb dL_law_744 rfl (lv_at hl 0 rfl) ?_
  refine lv_iconst (v := 2) hx hb dL_law_745 (by decide) ?_
  refine lv_iadd hx hb dL_law_746 ?_
  refine lv_topi (fun z_3 ez_3 => ?_)
  obtain rfl : z_3 = nI ((6 * k) + 2) := ez_3.trans (nI_add ((6 * k)) 2)
  refine va_sld hx hb hX hbl hbA hS (vp_in_nI (by omega) (by omega)) dL_law_747 ?_
  refine lv_topi (fun a_4 ea_4 => ?_)
  obtain ⟨lv, ia, la, ot, t0, t1, t2, hR, i0, i1, i2, rfl⟩ := hXI
  have hFx := free_of hD.left hS hA
  refine va_calli (va_runV (As := [.int a_2, .int a_4]) (rest := []) ⟨hx, hb, hml, hown, hts⟩ (Met_xi (kx_may l dC dI H.size ad kc fr gnS wS iv lv ia la ot fI hFX hR a_2 a_4) i0 i1 i2 (EY := fun _ => True) (fun _ _ h => h)) (cwV 2 hts g_law_X6_may rfl rfl rfl (by decide +kernel) ⟨Nat.le_of_ble_eq_true rfl, Nat.le_of_ble_eq_true rfl⟩) ⟨fun a U g mk q => by obtain ⟨q0, q1, qP, qK, qD, qE⟩ := q; exact ⟨q0, q1, qP, va_K.moved (u := U) (U := U.calling g mk a) (Vm.Alike.refl U.vm) qK, qD, trivial⟩, va_recv hK hP.left (ci := 6) (q0 := 0) rfl rfl, fun U hU hW => ⟨rfl, by rw [hU], by rw [hU]; exact hP.left, va_K.moved hW.alike hK, hD.left.weaken (fun _ _ _ _ => trivial), trivial⟩⟩ rfl rfl hl.1 rfl (lv_room (Nat.le_of_ble_eq_true rfl)) dL_law_748 ⟨by show 70 + 9 * k + 0 + 0 ≤ 600000; omega, by show 7203 + 400 * k + 0 + 0 ≤ 7302250; omega⟩) hS (fun q _ h => hFx q h) hFx (fun r_5 V_7 t H1 locs ht hvm hw_6 hB hz1 hk1 hS => ?_)
  obtain ⟨hP, hD⟩ := va_joinA hP hD hk1 hFx (by rw [← ht]; exact hB.1) hB.2
  generalize H1 = H at hP hS ⊢
  obtain ⟨hp9, iv2, fI2, hch, hXJ⟩ := hw_6
  refine lv_pop hx hb dL_law_751 rfl ?_
  refine lv_aload_n hx hb dL_law_752 rfl (lv_at hl 1 rfl) ?_
  refine lv_aload_n hx hb dL_law_753 rfl (lv_at hl 3 rfl) ?_
  refine lv_iload_n hx hb dL_law_754 rfl (lv_at hl 0 rfl) ?_
  refine lv_iconst (v := 1) hx hb dL_law_755 (by decide) ?_
  refine lv_iadd hx hb dL_law_756 ?_
  refine lv_topi (fun z_8 ez_8 => ?_)
  obtain rfl : z_8 = nI ((6 * k) + 1) := ez_8.trans (nI_add ((6 * k)) 1)
  refine va_sld hx hb hX hbl hbA hS (vp_in_nI (by omega) (by omega)) dL_law_757 ?_
  refine lv_topi (fun a_9 ea_9 => ?_)
  obtain rfl : a_2 = a_9 := ea_2.trans ea_9.symm
  refine lv_aload_n hx hb dL_law_758 rfl (lv_at hl 3 rfl) ?_
  refine lv_iload_n hx hb dL_law_759 rfl (lv_at hl 0 rfl) ?_
  refine lv_iconst (v := 2) hx hb dL_law_760 (by decide) ?_
  refine lv_iadd hx hb dL_law_761 ?_
  refine lv_topi (fun z_10 ez_10 => ?_)
  obtain rfl : z_10 = nI ((6 * k) + 2) := ez_10.trans (nI_add ((6 * k)) 2)
  refine va_sld hx hb hX hbl hbA hS (vp_in_nI (by omega) (by omega)) dL_law_762 ?_
  refine lv_topi (fun a_11 ea_11 => ?_)
  obtain rfl : a_4 = a_11 := ea_4.trans ea_11.symm
  obtain ⟨jv, jl, jb, hR2, rfl⟩ := hMN
  obtain ⟨hP, hD⟩ := va_swap hP hD
  have hFx := free_of hD.left hS hA
  refine va_calli (va_runV (As := [.int a_2, .int a_4]) (rest := []) ⟨hx, hb, hml, hown, hts⟩ (km_may l dC dI H.size bd kd jv jl ja jb hR2 a_2 a_4) (cwV 2 hts g_law_X7_may rfl rfl rfl (by decide +kernel) ⟨Nat.le_of_ble_eq_true rfl, Nat.le_of_ble_eq_true rfl⟩) ⟨fun a U g mk q => by obtain ⟨q0, q1, qP, qK, qD, qE⟩ := q; exact ⟨q0, q1, qP, va_K.moved (u := U) (U := U.calling g mk a) (Vm.Alike.refl U.vm) qK, qD, trivial⟩, va_recv hK2 hP.left (ci := 7) (q0 := 0) rfl rfl, fun U hU hW => ⟨rfl, by rw [hU], by rw [hU]; exact hP.left, va_K.moved hW.alike hK2, hD.left.weaken (fun _ _ _ _ => trivial), trivial⟩⟩ rfl rfl hl.1 rfl (lv_room (Nat.le_of_ble_eq_true rfl)) dL_law_763 ⟨by show 70 + 9 * k + 0 + 0 ≤ 600000; omega, by show 7203 + 400 * k + 0 + 0 ≤ 7302250; omega⟩) hS (fun q _ h => hFx q h) hFx (fun r_12 V_14 t H1 locs ht hvm hw_13 hB hz1 hk1 hS => ?_)
  obtain ⟨hP, hD⟩ := va_joinA hP hD hk1 hFx (by rw [← ht]; exact hB.1) hB.2
  generalize H1 = H at hP hS ⊢
  obtain ⟨hP, hD⟩ := va_swap hP hD
  obtain ⟨hq9, jv2, jl2, ja2, jb2, hcm, hMR, rfl⟩ := hw_13
  refine lv_pop hx hb dL_law_766 rfl ?_
  refine lv_goto (tgt := 1569) hx hb dL_law_767 (by decide) ?_
  refine lv_iinc (v := nI (6 * (k + 1))) (lv' := [(3, .int (nI (6 * (k + 1)))), (2, .ref (bd 0)), (1, .ref (ad 0)), (0, .ref b)]) hx hb dL_law_1569 hl (k := 0) rfl (show nI (6 * k) + nI 6 = nI (6 * (k + 1)) from nI_add (6 * k) 6) (by decide) rfl (fun ls hl => ?_)
  refine lv_goto (tgt := 18) hx hb dL_law_1572 (by decide) ?_
  refine W.widen (k := 70 + 9 * (k + 1)) (n := 7203 + 400 * (k + 1)) (by omega) (by omega) ?_
  exact ih _ _ _ ⟨V_7, _, iv2, fI2, ja2, hREL.same hch.1 hcm.1 hcm.2.1, hKR.same hch.2 hcm.2.2, hXJ, ⟨jv2, jl2, jb2, hMR, rfl⟩, hP, hD, hS, lv_sub hl [0, 1, 2, 3] rfl⟩

set_option maxHeartbeats 4000000 in
set_option maxRecDepth 100000 in
/-- the law, its call 20: nights -/
theorem lc_20 {p : Program} {e : Env} {s : State} {m : MethodId} {below : List Frame} {meth : Method} {c : Code} (l : Launch) {b L : Nat} {xs : Nat → Int32} (hL : L ≤ 3072) (C0 : lw_At p s m meth c b L xs) {A : Nat → Prop} (hA : ∀ q, s.heap.size ≤ q → A q) (hA2 : ∀ q, A q → s.heap.size ≤ q) (hE0 : Kx s) {sa sv sn : Nat → Nat} (hE9 : sx sa sv sn A s) {dC : Nat → ClassId} {dI : Nat → Nat → Nat} {ad : Nat → Nat} {kc : Nat → ClassId} {fr gnS wS : Nat → Option Nat} {bd : Nat → Nat} {kd : Nat → ClassId} (hFX : FX ad fr gnS wS) (hK : va_K (dC, dI) vwCl (XT kc) s) (hK2 : va_K (dC, dI) vwCl (MT kd) s) {k : Nat} (hk : 6 * k + 6 ≤ L) {H : Heap} {locs : List Loc} {ls : Array Slot} (hW : LW (dC, dI) A s b ad kc fr gnS wS bd kd k H locs ls) (ih : ∀ (H : Heap) (locs : List Loc) (ls : Array Slot), LW (dC, dI) A s b ad kc fr gnS wS bd kd (k + 1) H locs ls → W p l e room_1 s m #[Value.ref b] below meth c H locs (70 + 9 * (k + 1)) (7203 + 400 * (k + 1)) (lw_Z below #[Value.ref b] s) (F0 m 18 ls [])) : W p l e room_1 s m #[Value.ref b] below meth c H locs (70 + 9 * k) (7203 + 400 * k) (lw_Z below #[Value.ref b] s) (F0 m 770 ls []) := by
  obtain ⟨hx, hb, hr, hml, hown, hts, hX, hbl, hlocks, hgv⟩ := id C0
  have hown : s.vm.findClass RL = some m.cls := hown
  have hts := fun w (h : w ∈ wz_law) => hts w (wz_law_in w h)
  have hbA : ¬ A b := fun h => absurd (hA2 b h) (Nat.not_le.mpr hbl)
  obtain ⟨Wx, Wm, iv, fI, ja, hREL, hKR, hXI, hMN, hP, hD, hS, hl⟩ := hW
  refine lv_aload_n hx hb dL_law_770 rfl (lv_at hl 2 rfl) ?_
  refine lv_aload_n hx hb dL_law_771 rfl (lv_at hl 3 rfl) ?_
  refine lv_iload_n hx hb dL_law_772 rfl (lv_at hl 0 rfl) ?_
  refine lv_iconst (v := 1) hx hb dL_law_773 (by decide) ?_
  refine lv_iadd hx hb dL_law_774 ?_
  refine lv_topi (fun z_1 ez_1 => ?_)
  obtain rfl : z_1 = nI ((6 * k) + 1) := ez_1.trans (nI_add ((6 * k)) 1)
  refine va_sld hx hb hX hbl hbA hS (vp_in_nI (by omega) (by omega)) dL_law_775 ?_
  refine lv_topi (fun a_2 ea_2 => ?_)
  obtain ⟨lv, ia, la, ot, t0, t1, t2, hR, i0, i1, i2, rfl⟩ := hXI
  have hFx := free_of hD.left hS hA
  refine va_calli (va_runV (As := [.int a_2]) (rest := []) ⟨hx, hb, hml, hown, hts⟩ (Met_xi (kx_nights l dC dI H.size ad kc fr gnS wS iv lv ia la ot fI hFX hR a_2) i0 i1 i2 (EY := fun _ => True) (fun _ _ h => h)) (cwV 1 hts g_law_X6_nights rfl rfl rfl (by decide +kernel) ⟨Nat.le_of_ble_eq_true rfl, Nat.le_of_ble_eq_true rfl⟩) ⟨fun a U g mk q => by obtain ⟨q0, q1, qP, qK, qD, qE⟩ := q; exact ⟨q0, q1, qP, va_K.moved (u := U) (U := U.calling g mk a) (Vm.Alike.refl U.vm) qK, qD, trivial⟩, va_recv hK hP.left (ci := 6) (q0 := 0) rfl rfl, fun U hU hW => ⟨rfl, by rw [hU], by rw [hU]; exact hP.left, va_K.moved hW.alike hK, hD.left.weaken (fun _ _ _ _ => trivial), trivial⟩⟩ rfl rfl hl.1 rfl (lv_room (Nat.le_of_ble_eq_true rfl)) dL_law_776 ⟨by show 70 + 9 * k + 0 + 0 ≤ 600000; omega, by show 7203 + 400 * k + 0 + 0 ≤ 7302250; omega⟩) hS (fun q _ h => hFx q h) hFx (fun r_3 V_5 t H1 locs ht hvm hw_4 hB hz1 hk1 hS => ?_)
  obtain ⟨hP, hD⟩ := va_joinA hP hD hk1 hFx (by rw [← ht]; exact hB.1) hB.2
  generalize H1 = H at hP hS ⊢
  obtain ⟨hp9, iv2, fI2, hch, hXJ⟩ := hw_4
  refine lv_pop hx hb dL_law_779 rfl ?_
  refine lv_aload_n hx hb dL_law_780 rfl (lv_at hl 1 rfl) ?_
  refine lv_aload_n hx hb dL_law_781 rfl (lv_at hl 3 rfl) ?_
  refine lv_iload_n hx hb dL_law_782 rfl (lv_at hl 0 rfl) ?_
  refine lv_iconst (v := 1) hx hb dL_law_783 (by decide) ?_
  refine lv_iadd hx hb dL_law_784 ?_
  refine lv_topi (fun z_6 ez_6 => ?_)
  obtain rfl : z_6 = nI ((6 * k) + 1) := ez_6.trans (nI_add ((6 * k)) 1)
  refine va_sld hx hb hX hbl hbA hS (vp_in_nI (by omega) (by omega)) dL_law_785 ?_
  refine lv_topi (fun a_7 ea_7 => ?_)
  obtain rfl : a_2 = a_7 := ea_2.trans ea_7.symm
  obtain ⟨jv, jl, jb, hR2, rfl⟩ := hMN
  obtain ⟨hP, hD⟩ := va_swap hP hD
  have hFx := free_of hD.left hS hA
  refine va_calli (va_runV (As := [.int a_2]) (rest := []) ⟨hx, hb, hml, hown, hts⟩ (km_nights l dC dI H.size bd kd jv jl ja jb hR2 a_2) (cwV 1 hts g_law_X7_nights rfl rfl rfl (by decide +kernel) ⟨Nat.le_of_ble_eq_true rfl, Nat.le_of_ble_eq_true rfl⟩) ⟨fun a U g mk q => by obtain ⟨q0, q1, qP, qK, qD, qE⟩ := q; exact ⟨q0, q1, qP, va_K.moved (u := U) (U := U.calling g mk a) (Vm.Alike.refl U.vm) qK, qD, trivial⟩, va_recv hK2 hP.left (ci := 7) (q0 := 0) rfl rfl, fun U hU hW => ⟨rfl, by rw [hU], by rw [hU]; exact hP.left, va_K.moved hW.alike hK2, hD.left.weaken (fun _ _ _ _ => trivial), trivial⟩⟩ rfl rfl hl.1 rfl (lv_room (Nat.le_of_ble_eq_true rfl)) dL_law_786 ⟨by show 70 + 9 * k + 0 + 0 ≤ 600000; omega, by show 7203 + 400 * k + 0 + 0 ≤ 7302250; omega⟩) hS (fun q _ h => hFx q h) hFx (fun r_8 V_10 t H1 locs ht hvm hw_9 hB hz1 hk1 hS => ?_)
  obtain ⟨hP, hD⟩ := va_joinA hP hD hk1 hFx (by rw [← ht]; exact hB.1) hB.2
  generalize H1 = H at hP hS ⊢
  obtain ⟨hP, hD⟩ := va_swap hP hD
  obtain ⟨hq9, jv2, jl2, ja2, jb2, hcm, hMR, rfl⟩ := hw_9
  refine lv_pop hx hb dL_law_789 rfl ?_
  refine lv_goto (tgt := 1569) hx hb dL_law_790 (by decide) ?_
  refine lv_iinc (v := nI (6 * (k + 1))) (lv' := [(3, .int (nI (6 * (k + 1)))), (2, .ref (bd 0)), (1, .ref (ad 0)), (0, .ref b)]) hx hb dL_law_1569 hl (k := 0) rfl (show nI (6 * k) + nI 6 = nI (6 * (k + 1)) from nI_add (6 * k) 6) (by decide) rfl (fun ls hl => ?_)
  refine lv_goto (tgt := 18) hx hb dL_law_1572 (by decide) ?_
  refine W.widen (k := 70 + 9 * (k + 1)) (n := 7203 + 400 * (k + 1)) (by omega) (by omega) ?_
  exact ih _ _ _ ⟨V_5, _, iv2, fI2, ja2, hREL.same hch.1 hcm.1 hcm.2.1, hKR.same hch.2 hcm.2.2, hXJ, ⟨jv2, jl2, jb2, hMR, rfl⟩, hP, hD, hS, lv_sub hl [0, 1, 2, 3] rfl⟩

set_option maxHeartbeats 4000000 in
set_option maxRecDepth 100000 in
/-- the law, its call 21: out -/
theorem lc_21 {p : Program} {e : Env} {s : State} {m : MethodId} {below : List Frame} {meth : Method} {c : Code} (l : Launch) {b L : Nat} {xs : Nat → Int32} (hL : L ≤ 3072) (C0 : lw_At p s m meth c b L xs) {A : Nat → Prop} (hA : ∀ q, s.heap.size ≤ q → A q) (hA2 : ∀ q, A q → s.heap.size ≤ q) (hE0 : Kx s) {sa sv sn : Nat → Nat} (hE9 : sx sa sv sn A s) {dC : Nat → ClassId} {dI : Nat → Nat → Nat} {ad : Nat → Nat} {kc : Nat → ClassId} {fr gnS wS : Nat → Option Nat} {bd : Nat → Nat} {kd : Nat → ClassId} (hFX : FX ad fr gnS wS) (hK : va_K (dC, dI) vwCl (XT kc) s) (hK2 : va_K (dC, dI) vwCl (MT kd) s) {k : Nat} (hk : 6 * k + 6 ≤ L) {H : Heap} {locs : List Loc} {ls : Array Slot} (hW : LW (dC, dI) A s b ad kc fr gnS wS bd kd k H locs ls) (ih : ∀ (H : Heap) (locs : List Loc) (ls : Array Slot), LW (dC, dI) A s b ad kc fr gnS wS bd kd (k + 1) H locs ls → W p l e room_1 s m #[Value.ref b] below meth c H locs (70 + 9 * (k + 1)) (7203 + 400 * (k + 1)) (lw_Z below #[Value.ref b] s) (F0 m 18 ls [])) : W p l e room_1 s m #[Value.ref b] below meth c H locs (70 + 9 * k) (7203 + 400 * k) (lw_Z below #[Value.ref b] s) (F0 m 793 ls []) := by
  obtain ⟨hx, hb, hr, hml, hown, hts, hX, hbl, hlocks, hgv⟩ := id C0
  have hown : s.vm.findClass RL = some m.cls := hown
  have hts := fun w (h : w ∈ wz_law) => hts w (wz_law_in w h)
  have hbA : ¬ A b := fun h => absurd (hA2 b h) (Nat.not_le.mpr hbl)
  obtain ⟨Wx, Wm, iv, fI, ja, hREL, hKR, hXI, hMN, hP, hD, hS, hl⟩ := hW
  refine lv_aload_n hx hb dL_law_793 rfl (lv_at hl 2 rfl) ?_
  refine lv_aload_n hx hb dL_law_794 rfl (lv_at hl 3 rfl) ?_
  refine lv_iload_n hx hb dL_law_795 rfl (lv_at hl 0 rfl) ?_
  refine lv_iconst (v := 1) hx hb dL_law_796 (by decide) ?_
  refine lv_iadd hx hb dL_law_797 ?_
  refine lv_topi (fun z_1 ez_1 => ?_)
  obtain rfl : z_1 = nI ((6 * k) + 1) := ez_1.trans (nI_add ((6 * k)) 1)
  refine va_sld hx hb hX hbl hbA hS (vp_in_nI (by omega) (by omega)) dL_law_798 ?_
  refine lv_topi (fun a_2 ea_2 => ?_)
  refine lv_aload_n hx hb dL_law_799 rfl (lv_at hl 3 rfl) ?_
  refine lv_iload_n hx hb dL_law_800 rfl (lv_at hl 0 rfl) ?_
  refine lv_iconst (v := 2) hx hb dL_law_801 (by decide) ?_
  refine lv_iadd hx hb dL_law_802 ?_
  refine lv_topi (fun z_3 ez_3 => ?_)
  obtain rfl : z_3 = nI ((6 * k) + 2) := ez_3.trans (nI_add ((6 * k)) 2)
  refine va_sld hx hb hX hbl hbA hS (vp_in_nI (by omega) (by omega)) dL_law_803 ?_
  refine lv_topi (fun a_4 ea_4 => ?_)
  refine lv_aload_n hx hb dL_law_804 rfl (lv_at hl 3 rfl) ?_
  refine lv_iload_n hx hb dL_law_805 rfl (lv_at hl 0 rfl) ?_
  refine lv_iconst (v := 3) hx hb dL_law_806 (by decide) ?_
  refine lv_iadd hx hb dL_law_807 ?_
  refine lv_topi (fun z_5 ez_5 => ?_)
  obtain rfl : z_5 = nI ((6 * k) + 3) := ez_5.trans (nI_add ((6 * k)) 3)
  refine va_sld hx hb hX hbl hbA hS (vp_in_nI (by omega) (by omega)) dL_law_808 ?_
  refine lv_topi (fun a_6 ea_6 => ?_)
  obtain ⟨lv, ia, la, ot, t0, t1, t2, hR, i0, i1, i2, rfl⟩ := hXI
  have hFx := free_of hD.left hS hA
  refine va_calli (va_runV (As := [.int a_2, .int a_4, .int a_6]) (rest := []) ⟨hx, hb, hml, hown, hts⟩ (Met_xi (kx_out l dC dI H.size ad kc fr gnS wS iv lv ia la ot fI hFX hR a_2 a_4 a_6) i0 i1 i2 (EY := fun _ => True) (fun _ _ h => h)) (cwV 3 hts g_law_X6_out rfl rfl rfl (by decide +kernel) ⟨Nat.le_of_ble_eq_true rfl, Nat.le_of_ble_eq_true rfl⟩) ⟨fun a U g mk q => by obtain ⟨q0, q1, qP, qK, qD, qE⟩ := q; exact ⟨q0, q1, qP, va_K.moved (u := U) (U := U.calling g mk a) (Vm.Alike.refl U.vm) qK, qD, trivial⟩, va_recv hK hP.left (ci := 6) (q0 := 0) rfl rfl, fun U hU hW => ⟨rfl, by rw [hU], by rw [hU]; exact hP.left, va_K.moved hW.alike hK, hD.left.weaken (fun _ _ _ _ => trivial), trivial⟩⟩ rfl rfl hl.1 rfl (lv_room (Nat.le_of_ble_eq_true rfl)) dL_law_809 ⟨by show 70 + 9 * k + 0 + 0 ≤ 600000; omega, by show 7203 + 400 * k + 0 + 0 ≤ 7302250; omega⟩) hS (fun q _ h => hFx q h) hFx (fun r_7 V_9 t H1 locs ht hvm hw_8 hB hz1 hk1 hS => ?_)
  obtain ⟨hP, hD⟩ := va_joinA hP hD hk1 hFx (by rw [← ht]; exact hB.1) hB.2
  generalize H1 = H at hP hS ⊢
  obtain ⟨hp9, iv2, fI2, hch, hXJ⟩ := hw_8
  refine lv_pop hx hb dL_law_812 rfl ?_
  refine lv_aload_n hx hb dL_law_813 rfl (lv_at hl 1 rfl) ?_
  refine lv_aload_n hx hb dL_law_814 rfl (lv_at hl 3 rfl) ?_
  refine lv_iload_n hx hb dL_law_815 rfl (lv_at hl 0 rfl) ?_
  refine lv_iconst (v := 1) hx hb dL_law_816 (by decide) ?_
  refine lv_iadd hx hb dL_law_817 ?_
  refine lv_topi (fun z_10 ez_10 => ?_)
  obtain rfl : z_10 = nI ((6 * k) + 1) := ez_10.trans (nI_add ((6 * k)) 1)
  refine va_sld hx hb hX hbl hbA hS (vp_in_nI (by omega) (by omega)) dL_law_818 ?_
  refine lv_topi (fun a_11 ea_11 => ?_)
  obtain rfl : a_2 = a_11 := ea_2.trans ea_11.symm
  refine lv_aload_n hx hb dL_law_819 rfl (lv_at hl 3 rfl) ?_
  refine lv_iload_n hx hb dL_law_820 rfl (lv_at hl 0 rfl) ?_
  refine lv_iconst (v := 2) hx hb dL_law_821 (by decide) ?_
  refine lv_iadd hx hb dL_law_822 ?_
  refine lv_topi (fun z_12 ez_12 => ?_)
  obtain rfl : z_12 = nI ((6 * k) + 2) := ez_12.trans (nI_add ((6 * k)) 2)
  refine va_sld hx hb hX hbl hbA hS (vp_in_nI (by omega) (by omega)) dL_law_823 ?_
  refine lv_topi (fun a_13 ea_13 => ?_)
  obtain rfl : a_4 = a_13 := ea_4.trans ea_13.symm
  refine lv_aload_n hx hb dL_law_824 rfl (lv_at hl 3 rfl) ?_
  refine lv_iload_n hx hb dL_law_825 rfl (lv_at hl 0 rfl) ?_
  refine lv_iconst (v := 3) hx hb dL_law_826 (by decide) ?_
  refine lv_iadd hx hb dL_law_827 ?_
  refine lv_topi (fun z_14 ez_14 => ?_)
  obtain rfl : z_14 = nI ((6 * k) + 3) := ez_14.trans (nI_add ((6 * k)) 3)
  refine va_sld hx hb hX hbl hbA hS (vp_in_nI (by omega) (by omega)) dL_law_828 ?_
  refine lv_topi (fun a_15 ea_15 => ?_)
  obtain rfl : a_6 = a_15 := ea_6.trans ea_15.symm
  obtain ⟨jv, jl, jb, hR2, rfl⟩ := hMN
  obtain ⟨hP, hD⟩ := va_swap hP hD
  have hFx := free_of hD.left hS hA
  refine va_calli (va_runV (As := [.int a_2, .int a_4, .int a_6]) (rest := []) ⟨hx, hb, hml, hown, hts⟩ (km_out l dC dI H.size bd kd jv jl ja jb hR2 a_2 a_4 a_6) (cwV 3 hts g_law_X7_out rfl rfl rfl (by decide +kernel) ⟨Nat.le_of_ble_eq_true rfl, Nat.le_of_ble_eq_true rfl⟩) ⟨fun a U g mk q => by obtain ⟨q0, q1, qP, qK, qD, qE⟩ := q; exact ⟨q0, q1, qP, va_K.moved (u := U) (U := U.calling g mk a) (Vm.Alike.refl U.vm) qK, qD, trivial⟩, va_recv hK2 hP.left (ci := 7) (q0 := 0) rfl rfl, fun U hU hW => ⟨rfl, by rw [hU], by rw [hU]; exact hP.left, va_K.moved hW.alike hK2, hD.left.weaken (fun _ _ _ _ => trivial), trivial⟩⟩ rfl rfl hl.1 rfl (lv_room (Nat.le_of_ble_eq_true rfl)) dL_law_829 ⟨by show 70 + 9 * k + 0 + 0 ≤ 600000; omega, by show 7203 + 400 * k + 0 + 0 ≤ 7302250; omega⟩) hS (fun q _ h => hFx q h) hFx (fun r_16 V_18 t H1 locs ht hvm hw_17 hB hz1 hk1 hS => ?_)
  obtain ⟨hP, hD⟩ := va_joinA hP hD hk1 hFx (by rw [← ht]; exact hB.1) hB.2
  generalize H1 = H at hP hS ⊢
  obtain ⟨hP, hD⟩ := va_swap hP hD
  obtain ⟨hq9, jv2, jl2, ja2, jb2, hcm, hMR, rfl⟩ := hw_17
  refine lv_pop hx hb dL_law_832 rfl ?_
  refine lv_goto (tgt := 1569) hx hb dL_law_833 (by decide) ?_
  refine lv_iinc (v := nI (6 * (k + 1))) (lv' := [(3, .int (nI (6 * (k + 1)))), (2, .ref (bd 0)), (1, .ref (ad 0)), (0, .ref b)]) hx hb dL_law_1569 hl (k := 0) rfl (show nI (6 * k) + nI 6 = nI (6 * (k + 1)) from nI_add (6 * k) 6) (by decide) rfl (fun ls hl => ?_)
  refine lv_goto (tgt := 18) hx hb dL_law_1572 (by decide) ?_
  refine W.widen (k := 70 + 9 * (k + 1)) (n := 7203 + 400 * (k + 1)) (by omega) (by omega) ?_
  exact ih _ _ _ ⟨V_9, _, iv2, fI2, ja2, hREL.same hch.1 hcm.1 hcm.2.1, hKR.same hch.2 hcm.2.2, hXJ, ⟨jv2, jl2, jb2, hMR, rfl⟩, hP, hD, hS, lv_sub hl [0, 1, 2, 3] rfl⟩

