set_option maxHeartbeats 4000000 in
set_option maxRecDepth 100000 in
/-- the law, its call 22: held -/
theorem lc_22 {p : Program} {e : Env} {s : State} {m : MethodId} {below : List Frame} {meth : Method} {c : Code} (l : Launch) {b L : Nat} {xs : Nat → Int32} (hL : L ≤ 3072) (C0 : lw_At p s m meth c b L xs) {A : Nat → Prop} (hA : ∀ q, s.heap.size ≤ q → A q) (hA2 : ∀ q, A q → s.heap.size ≤ q) (hE0 : Kx s) {sa sv sn : Nat → Nat} (hE9 : sx sa sv sn A s) {dC : Nat → ClassId} {dI : Nat → Nat → Nat} {ad : Nat → Nat} {kc : Nat → ClassId} {fr gnS wS : Nat → Option Nat} {bd : Nat → Nat} {kd : Nat → ClassId} (hFX : FX ad fr gnS wS) (hK : va_K (dC, dI) vwCl (XT kc) s) (hK2 : va_K (dC, dI) vwCl (MT kd) s) {k : Nat} (hk : 6 * k + 6 ≤ L) {H : Heap} {locs : List Loc} {ls : Array Slot} (hW : LW (dC, dI) A s b ad kc fr gnS wS bd kd k H locs ls) (ih : ∀ (H : Heap) (locs : List Loc) (ls : Array Slot), LW (dC, dI) A s b ad kc fr gnS wS bd kd (k + 1) H locs ls → W p l e room_1 s m #[Value.ref b] below meth c H locs (70 + 9 * (k + 1)) (7203 + 400 * (k + 1)) (lw_Z below #[Value.ref b] s) (F0 m 18 ls [])) : W p l e room_1 s m #[Value.ref b] below meth c H locs (70 + 9 * k) (7203 + 400 * k) (lw_Z below #[Value.ref b] s) (F0 m 836 ls []) := by
  obtain ⟨hx, hb, hr, hml, hown, hts, hX, hbl, hlocks, hgv⟩ := id C0
  have hown : s.vm.findClass RL = some m.cls := hown
  have hts := fun w (h : w ∈ wz_law) => hts w (wz_law_in w h)
  have hbA : ¬ A b := fun h => absurd (hA2 b h) (Nat.not_le.mpr hbl)
  obtain ⟨Wx, Wm, iv, fI, ja, hREL, hKR, hXI, hMN, hP, hD, hS, hl⟩ := hW
  refine lv_aload_n hx hb dL_law_836 rfl (lv_at hl 2 rfl) ?_
  refine lv_aload_n hx hb dL_law_837 rfl (lv_at hl 3 rfl) ?_
  refine lv_iload_n hx hb dL_law_838 rfl (lv_at hl 0 rfl) ?_
  refine lv_iconst (v := 1) hx hb dL_law_839 (by decide) ?_
  refine lv_iadd hx hb dL_law_840 ?_
  refine lv_topi (fun z_1 ez_1 => ?_)
  obtain rfl : z_1 = nI ((6 * k) + 1) := ez_1.trans (nI_add ((6 * k)) 1)
  refine va_sld hx hb hX hbl hbA hS (vp_in_nI (by omega) (by omega)) dL_law_841 ?_
  refine lv_topi (fun a_2 ea_2 => ?_)
  refine lv_aload_n hx hb dL_law_842 rfl (lv_at hl 3 rfl) ?_
  refine lv_iload_n hx hb dL_law_843 rfl (lv_at hl 0 rfl) ?_
  refine lv_iconst (v := 2) hx hb dL_law_844 (by decide) ?_
  refine lv_iadd hx hb dL_law_845 ?_
  refine lv_topi (fun z_3 ez_3 => ?_)
  obtain rfl : z_3 = nI ((6 * k) + 2) := ez_3.trans (nI_add ((6 * k)) 2)
  refine va_sld hx hb hX hbl hbA hS (vp_in_nI (by omega) (by omega)) dL_law_846 ?_
  refine lv_topi (fun a_4 ea_4 => ?_)
  refine lv_aload_n hx hb dL_law_847 rfl (lv_at hl 3 rfl) ?_
  refine lv_iload_n hx hb dL_law_848 rfl (lv_at hl 0 rfl) ?_
  refine lv_iconst (v := 3) hx hb dL_law_849 (by decide) ?_
  refine lv_iadd hx hb dL_law_850 ?_
  refine lv_topi (fun z_5 ez_5 => ?_)
  obtain rfl : z_5 = nI ((6 * k) + 3) := ez_5.trans (nI_add ((6 * k)) 3)
  refine va_sld hx hb hX hbl hbA hS (vp_in_nI (by omega) (by omega)) dL_law_851 ?_
  refine lv_topi (fun a_6 ea_6 => ?_)
  obtain ⟨lv, ia, la, ot, t0, t1, t2, hR, i0, i1, i2, rfl⟩ := hXI
  have hFx := free_of hD.left hS hA
  refine va_calli (va_runV (As := [.int a_2, .int a_4, .int a_6]) (rest := []) ⟨hx, hb, hml, hown, hts⟩ (Met_xi (kx_held l dC dI H.size ad kc fr gnS wS iv lv ia la ot fI hFX hR a_2 a_4 a_6) i0 i1 i2 (EY := fun _ => True) (fun _ _ h => h)) (cwV 3 hts g_law_X6_held rfl rfl rfl (by decide +kernel) ⟨Nat.le_of_ble_eq_true rfl, Nat.le_of_ble_eq_true rfl⟩) ⟨fun a U g mk q => by obtain ⟨q0, q1, qP, qK, qD, qE⟩ := q; exact ⟨q0, q1, qP, va_K.moved (u := U) (U := U.calling g mk a) (Vm.Alike.refl U.vm) qK, qD, trivial⟩, va_recv hK hP.left (ci := 6) (q0 := 0) rfl rfl, fun U hU hW => ⟨rfl, by rw [hU], by rw [hU]; exact hP.left, va_K.moved hW.alike hK, hD.left.weaken (fun _ _ _ _ => trivial), trivial⟩⟩ rfl rfl hl.1 rfl (lv_room (Nat.le_of_ble_eq_true rfl)) dL_law_852 ⟨by show 70 + 9 * k + 0 + 0 ≤ 600000; omega, by show 7203 + 400 * k + 0 + 0 ≤ 7302250; omega⟩) hS (fun q _ h => hFx q h) hFx (fun r_7 V_9 t H1 locs ht hvm hw_8 hB hz1 hk1 hS => ?_)
  obtain ⟨hP, hD⟩ := va_joinA hP hD hk1 hFx (by rw [← ht]; exact hB.1) hB.2
  generalize H1 = H at hP hS ⊢
  obtain ⟨hp9, iv2, fI2, hch, hXJ⟩ := hw_8
  refine lv_pop hx hb dL_law_855 rfl ?_
  refine lv_aload_n hx hb dL_law_856 rfl (lv_at hl 1 rfl) ?_
  refine lv_aload_n hx hb dL_law_857 rfl (lv_at hl 3 rfl) ?_
  refine lv_iload_n hx hb dL_law_858 rfl (lv_at hl 0 rfl) ?_
  refine lv_iconst (v := 1) hx hb dL_law_859 (by decide) ?_
  refine lv_iadd hx hb dL_law_860 ?_
  refine lv_topi (fun z_10 ez_10 => ?_)
  obtain rfl : z_10 = nI ((6 * k) + 1) := ez_10.trans (nI_add ((6 * k)) 1)
  refine va_sld hx hb hX hbl hbA hS (vp_in_nI (by omega) (by omega)) dL_law_861 ?_
  refine lv_topi (fun a_11 ea_11 => ?_)
  obtain rfl : a_2 = a_11 := ea_2.trans ea_11.symm
  refine lv_aload_n hx hb dL_law_862 rfl (lv_at hl 3 rfl) ?_
  refine lv_iload_n hx hb dL_law_863 rfl (lv_at hl 0 rfl) ?_
  refine lv_iconst (v := 2) hx hb dL_law_864 (by decide) ?_
  refine lv_iadd hx hb dL_law_865 ?_
  refine lv_topi (fun z_12 ez_12 => ?_)
  obtain rfl : z_12 = nI ((6 * k) + 2) := ez_12.trans (nI_add ((6 * k)) 2)
  refine va_sld hx hb hX hbl hbA hS (vp_in_nI (by omega) (by omega)) dL_law_866 ?_
  refine lv_topi (fun a_13 ea_13 => ?_)
  obtain rfl : a_4 = a_13 := ea_4.trans ea_13.symm
  refine lv_aload_n hx hb dL_law_867 rfl (lv_at hl 3 rfl) ?_
  refine lv_iload_n hx hb dL_law_868 rfl (lv_at hl 0 rfl) ?_
  refine lv_iconst (v := 3) hx hb dL_law_869 (by decide) ?_
  refine lv_iadd hx hb dL_law_870 ?_
  refine lv_topi (fun z_14 ez_14 => ?_)
  obtain rfl : z_14 = nI ((6 * k) + 3) := ez_14.trans (nI_add ((6 * k)) 3)
  refine va_sld hx hb hX hbl hbA hS (vp_in_nI (by omega) (by omega)) dL_law_871 ?_
  refine lv_topi (fun a_15 ea_15 => ?_)
  obtain rfl : a_6 = a_15 := ea_6.trans ea_15.symm
  obtain ⟨jv, jl, jb, hR2, rfl⟩ := hMN
  obtain ⟨hP, hD⟩ := va_swap hP hD
  have hFx := free_of hD.left hS hA
  refine va_calli (va_runV (As := [.int a_2, .int a_4, .int a_6]) (rest := []) ⟨hx, hb, hml, hown, hts⟩ (km_held l dC dI H.size bd kd jv jl ja jb hR2 a_2 a_4 a_6) (cwV 3 hts g_law_X7_held rfl rfl rfl (by decide +kernel) ⟨Nat.le_of_ble_eq_true rfl, Nat.le_of_ble_eq_true rfl⟩) ⟨fun a U g mk q => by obtain ⟨q0, q1, qP, qK, qD, qE⟩ := q; exact ⟨q0, q1, qP, va_K.moved (u := U) (U := U.calling g mk a) (Vm.Alike.refl U.vm) qK, qD, trivial⟩, va_recv hK2 hP.left (ci := 7) (q0 := 0) rfl rfl, fun U hU hW => ⟨rfl, by rw [hU], by rw [hU]; exact hP.left, va_K.moved hW.alike hK2, hD.left.weaken (fun _ _ _ _ => trivial), trivial⟩⟩ rfl rfl hl.1 rfl (lv_room (Nat.le_of_ble_eq_true rfl)) dL_law_872 ⟨by show 70 + 9 * k + 0 + 0 ≤ 600000; omega, by show 7203 + 400 * k + 0 + 0 ≤ 7302250; omega⟩) hS (fun q _ h => hFx q h) hFx (fun r_16 V_18 t H1 locs ht hvm hw_17 hB hz1 hk1 hS => ?_)
  obtain ⟨hP, hD⟩ := va_joinA hP hD hk1 hFx (by rw [← ht]; exact hB.1) hB.2
  generalize H1 = H at hP hS ⊢
  obtain ⟨hP, hD⟩ := va_swap hP hD
  obtain ⟨hq9, jv2, jl2, ja2, jb2, hcm, hMR, rfl⟩ := hw_17
  refine lv_pop hx hb dL_law_875 rfl ?_
  refine lv_goto (tgt := 1569) hx hb dL_law_876 (by decide) ?_
  refine lv_iinc (v := nI (6 * (k + 1))) (lv' := [(3, .int (nI (6 * (k + 1)))), (2, .ref (bd 0)), (1, .ref (ad 0)), (0, .ref b)]) hx hb dL_law_1569 hl (k := 0) rfl (show nI (6 * k) + nI 6 = nI (6 * (k + 1)) from nI_add (6 * k) 6) (by decide) rfl (fun ls hl => ?_)
  refine lv_goto (tgt := 18) hx hb dL_law_1572 (by decide) ?_
  refine W.widen (k := 70 + 9 * (k + 1)) (n := 7203 + 400 * (k + 1)) (by omega) (by omega) ?_
  exact ih _ _ _ ⟨V_9, _, iv2, fI2, ja2, hREL.same hch.1 hcm.1 hcm.2.1, hKR.same hch.2 hcm.2.2, hXJ, ⟨jv2, jl2, jb2, hMR, rfl⟩, hP, hD, hS, lv_sub hl [0, 1, 2, 3] rfl⟩

set_option maxHeartbeats 4000000 in
set_option maxRecDepth 100000 in
/-- the law, its call 23: hold -/
theorem lc_23 {p : Program} {e : Env} {s : State} {m : MethodId} {below : List Frame} {meth : Method} {c : Code} (l : Launch) {b L : Nat} {xs : Nat → Int32} (hL : L ≤ 3072) (C0 : lw_At p s m meth c b L xs) {A : Nat → Prop} (hA : ∀ q, s.heap.size ≤ q → A q) (hA2 : ∀ q, A q → s.heap.size ≤ q) (hE0 : Kx s) {sa sv sn : Nat → Nat} (hE9 : sx sa sv sn A s) {dC : Nat → ClassId} {dI : Nat → Nat → Nat} {ad : Nat → Nat} {kc : Nat → ClassId} {fr gnS wS : Nat → Option Nat} {bd : Nat → Nat} {kd : Nat → ClassId} (hFX : FX ad fr gnS wS) (hK : va_K (dC, dI) vwCl (XT kc) s) (hK2 : va_K (dC, dI) vwCl (MT kd) s) {k : Nat} (hk : 6 * k + 6 ≤ L) {H : Heap} {locs : List Loc} {ls : Array Slot} (hW : LW (dC, dI) A s b ad kc fr gnS wS bd kd k H locs ls) (ih : ∀ (H : Heap) (locs : List Loc) (ls : Array Slot), LW (dC, dI) A s b ad kc fr gnS wS bd kd (k + 1) H locs ls → W p l e room_1 s m #[Value.ref b] below meth c H locs (70 + 9 * (k + 1)) (7203 + 400 * (k + 1)) (lw_Z below #[Value.ref b] s) (F0 m 18 ls [])) : W p l e room_1 s m #[Value.ref b] below meth c H locs (70 + 9 * k) (7203 + 400 * k) (lw_Z below #[Value.ref b] s) (F0 m 879 ls []) := by
  obtain ⟨hx, hb, hr, hml, hown, hts, hX, hbl, hlocks, hgv⟩ := id C0
  have hown : s.vm.findClass RL = some m.cls := hown
  have hts := fun w (h : w ∈ wz_law) => hts w (wz_law_in w h)
  have hbA : ¬ A b := fun h => absurd (hA2 b h) (Nat.not_le.mpr hbl)
  obtain ⟨Wx, Wm, iv, fI, ja, hREL, hKR, hXI, hMN, hP, hD, hS, hl⟩ := hW
  refine lv_aload_n hx hb dL_law_879 rfl (lv_at hl 2 rfl) ?_
  refine lv_aload_n hx hb dL_law_880 rfl (lv_at hl 3 rfl) ?_
  refine lv_iload_n hx hb dL_law_881 rfl (lv_at hl 0 rfl) ?_
  refine lv_iconst (v := 1) hx hb dL_law_882 (by decide) ?_
  refine lv_iadd hx hb dL_law_883 ?_
  refine lv_topi (fun z_1 ez_1 => ?_)
  obtain rfl : z_1 = nI ((6 * k) + 1) := ez_1.trans (nI_add ((6 * k)) 1)
  refine va_sld hx hb hX hbl hbA hS (vp_in_nI (by omega) (by omega)) dL_law_884 ?_
  refine lv_topi (fun a_2 ea_2 => ?_)
  refine lv_aload_n hx hb dL_law_885 rfl (lv_at hl 3 rfl) ?_
  refine lv_iload_n hx hb dL_law_886 rfl (lv_at hl 0 rfl) ?_
  refine lv_iconst (v := 2) hx hb dL_law_887 (by decide) ?_
  refine lv_iadd hx hb dL_law_888 ?_
  refine lv_topi (fun z_3 ez_3 => ?_)
  obtain rfl : z_3 = nI ((6 * k) + 2) := ez_3.trans (nI_add ((6 * k)) 2)
  refine va_sld hx hb hX hbl hbA hS (vp_in_nI (by omega) (by omega)) dL_law_889 ?_
  refine lv_topi (fun a_4 ea_4 => ?_)
  obtain ⟨lv, ia, la, ot, t0, t1, t2, hR, i0, i1, i2, rfl⟩ := hXI
  have hFx := free_of hD.left hS hA
  refine va_calli (va_runV (As := [.int a_2, .int a_4]) (rest := []) ⟨hx, hb, hml, hown, hts⟩ (Met_xi (kx_hold l dC dI H.size ad kc fr gnS wS iv lv ia la ot fI hFX hR a_2 a_4) i0 i1 i2 (EY := fun _ => True) (fun _ _ h => h)) (cwV 2 hts g_law_X6_hold rfl rfl rfl (by decide +kernel) ⟨Nat.le_of_ble_eq_true rfl, Nat.le_of_ble_eq_true rfl⟩) ⟨fun a U g mk q => by obtain ⟨q0, q1, qP, qK, qD, qE⟩ := q; exact ⟨q0, q1, qP, va_K.moved (u := U) (U := U.calling g mk a) (Vm.Alike.refl U.vm) qK, qD, trivial⟩, va_recv hK hP.left (ci := 6) (q0 := 0) rfl rfl, fun U hU hW => ⟨rfl, by rw [hU], by rw [hU]; exact hP.left, va_K.moved hW.alike hK, hD.left.weaken (fun _ _ _ _ => trivial), trivial⟩⟩ rfl rfl hl.1 rfl (lv_room (Nat.le_of_ble_eq_true rfl)) dL_law_890 ⟨by show 70 + 9 * k + 0 + 0 ≤ 600000; omega, by show 7203 + 400 * k + 0 + 0 ≤ 7302250; omega⟩) hS (fun q _ h => hFx q h) hFx (fun r_5 V_7 t H1 locs ht hvm hw_6 hB hz1 hk1 hS => ?_)
  obtain ⟨hP, hD⟩ := va_joinA hP hD hk1 hFx (by rw [← ht]; exact hB.1) hB.2
  generalize H1 = H at hP hS ⊢
  obtain ⟨hp9, iv2, fI2, hch, hXJ⟩ := hw_6
  refine lv_pop hx hb dL_law_893 rfl ?_
  refine lv_aload_n hx hb dL_law_894 rfl (lv_at hl 1 rfl) ?_
  refine lv_aload_n hx hb dL_law_895 rfl (lv_at hl 3 rfl) ?_
  refine lv_iload_n hx hb dL_law_896 rfl (lv_at hl 0 rfl) ?_
  refine lv_iconst (v := 1) hx hb dL_law_897 (by decide) ?_
  refine lv_iadd hx hb dL_law_898 ?_
  refine lv_topi (fun z_8 ez_8 => ?_)
  obtain rfl : z_8 = nI ((6 * k) + 1) := ez_8.trans (nI_add ((6 * k)) 1)
  refine va_sld hx hb hX hbl hbA hS (vp_in_nI (by omega) (by omega)) dL_law_899 ?_
  refine lv_topi (fun a_9 ea_9 => ?_)
  obtain rfl : a_2 = a_9 := ea_2.trans ea_9.symm
  refine lv_aload_n hx hb dL_law_900 rfl (lv_at hl 3 rfl) ?_
  refine lv_iload_n hx hb dL_law_901 rfl (lv_at hl 0 rfl) ?_
  refine lv_iconst (v := 2) hx hb dL_law_902 (by decide) ?_
  refine lv_iadd hx hb dL_law_903 ?_
  refine lv_topi (fun z_10 ez_10 => ?_)
  obtain rfl : z_10 = nI ((6 * k) + 2) := ez_10.trans (nI_add ((6 * k)) 2)
  refine va_sld hx hb hX hbl hbA hS (vp_in_nI (by omega) (by omega)) dL_law_904 ?_
  refine lv_topi (fun a_11 ea_11 => ?_)
  obtain rfl : a_4 = a_11 := ea_4.trans ea_11.symm
  obtain ⟨jv, jl, jb, hR2, rfl⟩ := hMN
  obtain ⟨hP, hD⟩ := va_swap hP hD
  have hFx := free_of hD.left hS hA
  refine va_calli (va_runV (As := [.int a_2, .int a_4]) (rest := []) ⟨hx, hb, hml, hown, hts⟩ (km_hold l dC dI H.size bd kd jv jl ja jb hR2 a_2 a_4) (cwV 2 hts g_law_X7_hold rfl rfl rfl (by decide +kernel) ⟨Nat.le_of_ble_eq_true rfl, Nat.le_of_ble_eq_true rfl⟩) ⟨fun a U g mk q => by obtain ⟨q0, q1, qP, qK, qD, qE⟩ := q; exact ⟨q0, q1, qP, va_K.moved (u := U) (U := U.calling g mk a) (Vm.Alike.refl U.vm) qK, qD, trivial⟩, va_recv hK2 hP.left (ci := 7) (q0 := 0) rfl rfl, fun U hU hW => ⟨rfl, by rw [hU], by rw [hU]; exact hP.left, va_K.moved hW.alike hK2, hD.left.weaken (fun _ _ _ _ => trivial), trivial⟩⟩ rfl rfl hl.1 rfl (lv_room (Nat.le_of_ble_eq_true rfl)) dL_law_905 ⟨by show 70 + 9 * k + 0 + 0 ≤ 600000; omega, by show 7203 + 400 * k + 0 + 0 ≤ 7302250; omega⟩) hS (fun q _ h => hFx q h) hFx (fun r_12 V_14 t H1 locs ht hvm hw_13 hB hz1 hk1 hS => ?_)
  obtain ⟨hP, hD⟩ := va_joinA hP hD hk1 hFx (by rw [← ht]; exact hB.1) hB.2
  generalize H1 = H at hP hS ⊢
  obtain ⟨hP, hD⟩ := va_swap hP hD
  obtain ⟨hq9, jv2, jl2, ja2, jb2, hcm, hMR, rfl⟩ := hw_13
  refine lv_pop hx hb dL_law_908 rfl ?_
  refine lv_goto (tgt := 1569) hx hb dL_law_909 (by decide) ?_
  refine lv_iinc (v := nI (6 * (k + 1))) (lv' := [(3, .int (nI (6 * (k + 1)))), (2, .ref (bd 0)), (1, .ref (ad 0)), (0, .ref b)]) hx hb dL_law_1569 hl (k := 0) rfl (show nI (6 * k) + nI 6 = nI (6 * (k + 1)) from nI_add (6 * k) 6) (by decide) rfl (fun ls hl => ?_)
  refine lv_goto (tgt := 18) hx hb dL_law_1572 (by decide) ?_
  refine W.widen (k := 70 + 9 * (k + 1)) (n := 7203 + 400 * (k + 1)) (by omega) (by omega) ?_
  exact ih _ _ _ ⟨V_7, _, iv2, fI2, ja2, hREL.same hch.1 hcm.1 hcm.2.1, hKR.same hch.2 hcm.2.2, hXJ, ⟨jv2, jl2, jb2, hMR, rfl⟩, hP, hD, hS, lv_sub hl [0, 1, 2, 3] rfl⟩

set_option maxHeartbeats 4000000 in
set_option maxRecDepth 100000 in
/-- the law, its call 24: worst -/
theorem lc_24 {p : Program} {e : Env} {s : State} {m : MethodId} {below : List Frame} {meth : Method} {c : Code} (l : Launch) {b L : Nat} {xs : Nat → Int32} (hL : L ≤ 3072) (C0 : lw_At p s m meth c b L xs) {A : Nat → Prop} (hA : ∀ q, s.heap.size ≤ q → A q) (hA2 : ∀ q, A q → s.heap.size ≤ q) (hE0 : Kx s) {sa sv sn : Nat → Nat} (hE9 : sx sa sv sn A s) {dC : Nat → ClassId} {dI : Nat → Nat → Nat} {ad : Nat → Nat} {kc : Nat → ClassId} {fr gnS wS : Nat → Option Nat} {bd : Nat → Nat} {kd : Nat → ClassId} (hFX : FX ad fr gnS wS) (hK : va_K (dC, dI) vwCl (XT kc) s) (hK2 : va_K (dC, dI) vwCl (MT kd) s) {k : Nat} (hk : 6 * k + 6 ≤ L) {H : Heap} {locs : List Loc} {ls : Array Slot} (hW : LW (dC, dI) A s b ad kc fr gnS wS bd kd k H locs ls) (ih : ∀ (H : Heap) (locs : List Loc) (ls : Array Slot), LW (dC, dI) A s b ad kc fr gnS wS bd kd (k + 1) H locs ls → W p l e room_1 s m #[Value.ref b] below meth c H locs (70 + 9 * (k + 1)) (7203 + 400 * (k + 1)) (lw_Z below #[Value.ref b] s) (F0 m 18 ls [])) : W p l e room_1 s m #[Value.ref b] below meth c H locs (70 + 9 * k) (7203 + 400 * k) (lw_Z below #[Value.ref b] s) (F0 m 912 ls []) := by
  obtain ⟨hx, hb, hr, hml, hown, hts, hX, hbl, hlocks, hgv⟩ := id C0
  have hown : s.vm.findClass RL = some m.cls := hown
  have hts := fun w (h : w ∈ wz_law) => hts w (wz_law_in w h)
  have hbA : ¬ A b := fun h => absurd (hA2 b h) (Nat.not_le.mpr hbl)
  obtain ⟨Wx, Wm, iv, fI, ja, hREL, hKR, hXI, hMN, hP, hD, hS, hl⟩ := hW
  refine lv_aload_n hx hb dL_law_912 rfl (lv_at hl 2 rfl) ?_
  refine lv_aload_n hx hb dL_law_913 rfl (lv_at hl 3 rfl) ?_
  refine lv_iload_n hx hb dL_law_914 rfl (lv_at hl 0 rfl) ?_
  refine lv_iconst (v := 1) hx hb dL_law_915 (by decide) ?_
  refine lv_iadd hx hb dL_law_916 ?_
  refine lv_topi (fun z_1 ez_1 => ?_)
  obtain rfl : z_1 = nI ((6 * k) + 1) := ez_1.trans (nI_add ((6 * k)) 1)
  refine va_sld hx hb hX hbl hbA hS (vp_in_nI (by omega) (by omega)) dL_law_917 ?_
  refine lv_topi (fun a_2 ea_2 => ?_)
  obtain ⟨lv, ia, la, ot, t0, t1, t2, hR, i0, i1, i2, rfl⟩ := hXI
  have hFx := free_of hD.left hS hA
  refine va_calli (va_runV (As := [.int a_2]) (rest := []) ⟨hx, hb, hml, hown, hts⟩ (Met_xi (kx_worst l dC dI H.size ad kc fr gnS wS iv lv ia la ot fI hFX hR a_2) i0 i1 i2 (EY := fun _ => True) (fun _ _ h => h)) (cwV 1 hts g_law_X6_worst rfl rfl rfl (by decide +kernel) ⟨Nat.le_of_ble_eq_true rfl, Nat.le_of_ble_eq_true rfl⟩) ⟨fun a U g mk q => by obtain ⟨q0, q1, qP, qK, qD, qE⟩ := q; exact ⟨q0, q1, qP, va_K.moved (u := U) (U := U.calling g mk a) (Vm.Alike.refl U.vm) qK, qD, trivial⟩, va_recv hK hP.left (ci := 6) (q0 := 0) rfl rfl, fun U hU hW => ⟨rfl, by rw [hU], by rw [hU]; exact hP.left, va_K.moved hW.alike hK, hD.left.weaken (fun _ _ _ _ => trivial), trivial⟩⟩ rfl rfl hl.1 rfl (lv_room (Nat.le_of_ble_eq_true rfl)) dL_law_918 ⟨by show 70 + 9 * k + 0 + 0 ≤ 600000; omega, by show 7203 + 400 * k + 0 + 0 ≤ 7302250; omega⟩) hS (fun q _ h => hFx q h) hFx (fun r_3 V_5 t H1 locs ht hvm hw_4 hB hz1 hk1 hS => ?_)
  obtain ⟨hP, hD⟩ := va_joinA hP hD hk1 hFx (by rw [← ht]; exact hB.1) hB.2
  generalize H1 = H at hP hS ⊢
  obtain ⟨hp9, iv2, fI2, hch, hXJ⟩ := hw_4
  refine lv_pop hx hb dL_law_921 rfl ?_
  refine lv_aload_n hx hb dL_law_922 rfl (lv_at hl 1 rfl) ?_
  refine lv_aload_n hx hb dL_law_923 rfl (lv_at hl 3 rfl) ?_
  refine lv_iload_n hx hb dL_law_924 rfl (lv_at hl 0 rfl) ?_
  refine lv_iconst (v := 1) hx hb dL_law_925 (by decide) ?_
  refine lv_iadd hx hb dL_law_926 ?_
  refine lv_topi (fun z_6 ez_6 => ?_)
  obtain rfl : z_6 = nI ((6 * k) + 1) := ez_6.trans (nI_add ((6 * k)) 1)
  refine va_sld hx hb hX hbl hbA hS (vp_in_nI (by omega) (by omega)) dL_law_927 ?_
  refine lv_topi (fun a_7 ea_7 => ?_)
  obtain rfl : a_2 = a_7 := ea_2.trans ea_7.symm
  obtain ⟨jv, jl, jb, hR2, rfl⟩ := hMN
  obtain ⟨hP, hD⟩ := va_swap hP hD
  have hFx := free_of hD.left hS hA
  refine va_calli (va_runV (As := [.int a_2]) (rest := []) ⟨hx, hb, hml, hown, hts⟩ (km_worst l dC dI H.size bd kd jv jl ja jb hR2 a_2) (cwV 1 hts g_law_X7_worst rfl rfl rfl (by decide +kernel) ⟨Nat.le_of_ble_eq_true rfl, Nat.le_of_ble_eq_true rfl⟩) ⟨fun a U g mk q => by obtain ⟨q0, q1, qP, qK, qD, qE⟩ := q; exact ⟨q0, q1, qP, va_K.moved (u := U) (U := U.calling g mk a) (Vm.Alike.refl U.vm) qK, qD, trivial⟩, va_recv hK2 hP.left (ci := 7) (q0 := 0) rfl rfl, fun U hU hW => ⟨rfl, by rw [hU], by rw [hU]; exact hP.left, va_K.moved hW.alike hK2, hD.left.weaken (fun _ _ _ _ => trivial), trivial⟩⟩ rfl rfl hl.1 rfl (lv_room (Nat.le_of_ble_eq_true rfl)) dL_law_928 ⟨by show 70 + 9 * k + 0 + 0 ≤ 600000; omega, by show 7203 + 400 * k + 0 + 0 ≤ 7302250; omega⟩) hS (fun q _ h => hFx q h) hFx (fun r_8 V_10 t H1 locs ht hvm hw_9 hB hz1 hk1 hS => ?_)
  obtain ⟨hP, hD⟩ := va_joinA hP hD hk1 hFx (by rw [← ht]; exact hB.1) hB.2
  generalize H1 = H at hP hS ⊢
  obtain ⟨hP, hD⟩ := va_swap hP hD
  obtain ⟨hq9, jv2, jl2, ja2, jb2, hcm, hMR, rfl⟩ := hw_9
  refine lv_pop hx hb dL_law_931 rfl ?_
  refine lv_goto (tgt := 1569) hx hb dL_law_932 (by decide) ?_
  refine lv_iinc (v := nI (6 * (k + 1))) (lv' := [(3, .int (nI (6 * (k + 1)))), (2, .ref (bd 0)), (1, .ref (ad 0)), (0, .ref b)]) hx hb dL_law_1569 hl (k := 0) rfl (show nI (6 * k) + nI 6 = nI (6 * (k + 1)) from nI_add (6 * k) 6) (by decide) rfl (fun ls hl => ?_)
  refine lv_goto (tgt := 18) hx hb dL_law_1572 (by decide) ?_
  refine W.widen (k := 70 + 9 * (k + 1)) (n := 7203 + 400 * (k + 1)) (by omega) (by omega) ?_
  exact ih _ _ _ ⟨V_5, _, iv2, fI2, ja2, hREL.same hch.1 hcm.1 hcm.2.1, hKR.same hch.2 hcm.2.2, hXJ, ⟨jv2, jl2, jb2, hMR, rfl⟩, hP, hD, hS, lv_sub hl [0, 1, 2, 3] rfl⟩

set_option maxHeartbeats 4000000 in
set_option maxRecDepth 100000 in
/-- the law, its call 25: guest -/
theorem lc_25 {p : Program} {e : Env} {s : State} {m : MethodId} {below : List Frame} {meth : Method} {c : Code} (l : Launch) {b L : Nat} {xs : Nat → Int32} (hL : L ≤ 3072) (C0 : lw_At p s m meth c b L xs) {A : Nat → Prop} (hA : ∀ q, s.heap.size ≤ q → A q) (hA2 : ∀ q, A q → s.heap.size ≤ q) (hE0 : Kx s) {sa sv sn : Nat → Nat} (hE9 : sx sa sv sn A s) {dC : Nat → ClassId} {dI : Nat → Nat → Nat} {ad : Nat → Nat} {kc : Nat → ClassId} {fr gnS wS : Nat → Option Nat} {bd : Nat → Nat} {kd : Nat → ClassId} (hFX : FX ad fr gnS wS) (hK : va_K (dC, dI) vwCl (XT kc) s) (hK2 : va_K (dC, dI) vwCl (MT kd) s) {k : Nat} (hk : 6 * k + 6 ≤ L) {H : Heap} {locs : List Loc} {ls : Array Slot} (hW : LW (dC, dI) A s b ad kc fr gnS wS bd kd k H locs ls) (ih : ∀ (H : Heap) (locs : List Loc) (ls : Array Slot), LW (dC, dI) A s b ad kc fr gnS wS bd kd (k + 1) H locs ls → W p l e room_1 s m #[Value.ref b] below meth c H locs (70 + 9 * (k + 1)) (7203 + 400 * (k + 1)) (lw_Z below #[Value.ref b] s) (F0 m 18 ls [])) : W p l e room_1 s m #[Value.ref b] below meth c H locs (70 + 9 * k) (7203 + 400 * k) (lw_Z below #[Value.ref b] s) (F0 m 935 ls []) := by
  obtain ⟨hx, hb, hr, hml, hown, hts, hX, hbl, hlocks, hgv⟩ := id C0
  have hown : s.vm.findClass RL = some m.cls := hown
  have hts := fun w (h : w ∈ wz_law) => hts w (wz_law_in w h)
  have hbA : ¬ A b := fun h => absurd (hA2 b h) (Nat.not_le.mpr hbl)
  obtain ⟨Wx, Wm, iv, fI, ja, hREL, hKR, hXI, hMN, hP, hD, hS, hl⟩ := hW
  refine lv_aload_n hx hb dL_law_935 rfl (lv_at hl 2 rfl) ?_
  refine lv_aload_n hx hb dL_law_936 rfl (lv_at hl 3 rfl) ?_
  refine lv_iload_n hx hb dL_law_937 rfl (lv_at hl 0 rfl) ?_
  refine lv_iconst (v := 1) hx hb dL_law_938 (by decide) ?_
  refine lv_iadd hx hb dL_law_939 ?_
  refine lv_topi (fun z_1 ez_1 => ?_)
  obtain rfl : z_1 = nI ((6 * k) + 1) := ez_1.trans (nI_add ((6 * k)) 1)
  refine va_sld hx hb hX hbl hbA hS (vp_in_nI (by omega) (by omega)) dL_law_940 ?_
  refine lv_topi (fun a_2 ea_2 => ?_)
  obtain ⟨lv, ia, la, ot, t0, t1, t2, hR, i0, i1, i2, rfl⟩ := hXI
  have hFx := free_of hD.left hS hA
  refine va_calli (va_runV (As := [.int a_2]) (rest := []) ⟨hx, hb, hml, hown, hts⟩ (Met_xi (kx_guest l dC dI H.size ad kc fr gnS wS iv lv ia la ot fI hFX hR a_2) i0 i1 i2 (EY := fun _ => True) (fun _ _ h => h)) (cwV 1 hts g_law_X6_guest rfl rfl rfl (by decide +kernel) ⟨Nat.le_of_ble_eq_true rfl, Nat.le_of_ble_eq_true rfl⟩) ⟨fun a U g mk q => by obtain ⟨q0, q1, qP, qK, qD, qE⟩ := q; exact ⟨q0, q1, qP, va_K.moved (u := U) (U := U.calling g mk a) (Vm.Alike.refl U.vm) qK, qD, trivial⟩, va_recv hK hP.left (ci := 6) (q0 := 0) rfl rfl, fun U hU hW => ⟨rfl, by rw [hU], by rw [hU]; exact hP.left, va_K.moved hW.alike hK, hD.left.weaken (fun _ _ _ _ => trivial), trivial⟩⟩ rfl rfl hl.1 rfl (lv_room (Nat.le_of_ble_eq_true rfl)) dL_law_941 ⟨by show 70 + 9 * k + 0 + 0 ≤ 600000; omega, by show 7203 + 400 * k + 0 + 0 ≤ 7302250; omega⟩) hS (fun q _ h => hFx q h) hFx (fun r_3 V_5 t H1 locs ht hvm hw_4 hB hz1 hk1 hS => ?_)
  obtain ⟨hP, hD⟩ := va_joinA hP hD hk1 hFx (by rw [← ht]; exact hB.1) hB.2
  generalize H1 = H at hP hS ⊢
  obtain ⟨hp9, iv2, fI2, hch, hXJ⟩ := hw_4
  refine lv_pop hx hb dL_law_944 rfl ?_
  refine lv_aload_n hx hb dL_law_945 rfl (lv_at hl 1 rfl) ?_
  refine lv_aload_n hx hb dL_law_946 rfl (lv_at hl 3 rfl) ?_
  refine lv_iload_n hx hb dL_law_947 rfl (lv_at hl 0 rfl) ?_
  refine lv_iconst (v := 1) hx hb dL_law_948 (by decide) ?_
  refine lv_iadd hx hb dL_law_949 ?_
  refine lv_topi (fun z_6 ez_6 => ?_)
  obtain rfl : z_6 = nI ((6 * k) + 1) := ez_6.trans (nI_add ((6 * k)) 1)
  refine va_sld hx hb hX hbl hbA hS (vp_in_nI (by omega) (by omega)) dL_law_950 ?_
  refine lv_topi (fun a_7 ea_7 => ?_)
  obtain rfl : a_2 = a_7 := ea_2.trans ea_7.symm
  obtain ⟨jv, jl, jb, hR2, rfl⟩ := hMN
  obtain ⟨hP, hD⟩ := va_swap hP hD
  have hFx := free_of hD.left hS hA
  refine va_calli (va_runV (As := [.int a_2]) (rest := []) ⟨hx, hb, hml, hown, hts⟩ (km_guest l dC dI H.size bd kd jv jl ja jb hR2 a_2) (cwV 1 hts g_law_X7_guest rfl rfl rfl (by decide +kernel) ⟨Nat.le_of_ble_eq_true rfl, Nat.le_of_ble_eq_true rfl⟩) ⟨fun a U g mk q => by obtain ⟨q0, q1, qP, qK, qD, qE⟩ := q; exact ⟨q0, q1, qP, va_K.moved (u := U) (U := U.calling g mk a) (Vm.Alike.refl U.vm) qK, qD, trivial⟩, va_recv hK2 hP.left (ci := 7) (q0 := 0) rfl rfl, fun U hU hW => ⟨rfl, by rw [hU], by rw [hU]; exact hP.left, va_K.moved hW.alike hK2, hD.left.weaken (fun _ _ _ _ => trivial), trivial⟩⟩ rfl rfl hl.1 rfl (lv_room (Nat.le_of_ble_eq_true rfl)) dL_law_951 ⟨by show 70 + 9 * k + 0 + 0 ≤ 600000; omega, by show 7203 + 400 * k + 0 + 0 ≤ 7302250; omega⟩) hS (fun q _ h => hFx q h) hFx (fun r_8 V_10 t H1 locs ht hvm hw_9 hB hz1 hk1 hS => ?_)
  obtain ⟨hP, hD⟩ := va_joinA hP hD hk1 hFx (by rw [← ht]; exact hB.1) hB.2
  generalize H1 = H at hP hS ⊢
  obtain ⟨hP, hD⟩ := va_swap hP hD
  obtain ⟨hq9, jv2, jl2, ja2, jb2, hcm, hMR, rfl⟩ := hw_9
  refine lv_pop hx hb dL_law_954 rfl ?_
  refine lv_goto (tgt := 1569) hx hb dL_law_955 (by decide) ?_
  refine lv_iinc (v := nI (6 * (k + 1))) (lv' := [(3, .int (nI (6 * (k + 1)))), (2, .ref (bd 0)), (1, .ref (ad 0)), (0, .ref b)]) hx hb dL_law_1569 hl (k := 0) rfl (show nI (6 * k) + nI 6 = nI (6 * (k + 1)) from nI_add (6 * k) 6) (by decide) rfl (fun ls hl => ?_)
  refine lv_goto (tgt := 18) hx hb dL_law_1572 (by decide) ?_
  refine W.widen (k := 70 + 9 * (k + 1)) (n := 7203 + 400 * (k + 1)) (by omega) (by omega) ?_
  exact ih _ _ _ ⟨V_5, _, iv2, fI2, ja2, hREL.same hch.1 hcm.1 hcm.2.1, hKR.same hch.2 hcm.2.2, hXJ, ⟨jv2, jl2, jb2, hMR, rfl⟩, hP, hD, hS, lv_sub hl [0, 1, 2, 3] rfl⟩

set_option maxHeartbeats 4000000 in
set_option maxRecDepth 100000 in
/-- the law, its call 26: meet -/
theorem lc_26 {p : Program} {e : Env} {s : State} {m : MethodId} {below : List Frame} {meth : Method} {c : Code} (l : Launch) {b L : Nat} {xs : Nat → Int32} (hL : L ≤ 3072) (C0 : lw_At p s m meth c b L xs) {A : Nat → Prop} (hA : ∀ q, s.heap.size ≤ q → A q) (hA2 : ∀ q, A q → s.heap.size ≤ q) (hE0 : Kx s) {sa sv sn : Nat → Nat} (hE9 : sx sa sv sn A s) {dC : Nat → ClassId} {dI : Nat → Nat → Nat} {ad : Nat → Nat} {kc : Nat → ClassId} {fr gnS wS : Nat → Option Nat} {bd : Nat → Nat} {kd : Nat → ClassId} (hFX : FX ad fr gnS wS) (hK : va_K (dC, dI) vwCl (XT kc) s) (hK2 : va_K (dC, dI) vwCl (MT kd) s) {k : Nat} (hk : 6 * k + 6 ≤ L) {H : Heap} {locs : List Loc} {ls : Array Slot} (hW : LW (dC, dI) A s b ad kc fr gnS wS bd kd k H locs ls) (ih : ∀ (H : Heap) (locs : List Loc) (ls : Array Slot), LW (dC, dI) A s b ad kc fr gnS wS bd kd (k + 1) H locs ls → W p l e room_1 s m #[Value.ref b] below meth c H locs (70 + 9 * (k + 1)) (7203 + 400 * (k + 1)) (lw_Z below #[Value.ref b] s) (F0 m 18 ls [])) : W p l e room_1 s m #[Value.ref b] below meth c H locs (70 + 9 * k) (7203 + 400 * k) (lw_Z below #[Value.ref b] s) (F0 m 958 ls []) := by
  obtain ⟨hx, hb, hr, hml, hown, hts, hX, hbl, hlocks, hgv⟩ := id C0
  have hown : s.vm.findClass RL = some m.cls := hown
  have hts := fun w (h : w ∈ wz_law) => hts w (wz_law_in w h)
  have hbA : ¬ A b := fun h => absurd (hA2 b h) (Nat.not_le.mpr hbl)
  obtain ⟨Wx, Wm, iv, fI, ja, hREL, hKR, hXI, hMN, hP, hD, hS, hl⟩ := hW
  refine lv_aload_n hx hb dL_law_958 rfl (lv_at hl 2 rfl) ?_
  refine lv_aload_n hx hb dL_law_959 rfl (lv_at hl 3 rfl) ?_
  refine lv_iload_n hx hb dL_law_960 rfl (lv_at hl 0 rfl) ?_
  refine lv_iconst (v := 1) hx hb dL_law_961 (by decide) ?_
  refine lv_iadd hx hb dL_law_962 ?_
  refine lv_topi (fun z_1 ez_1 => ?_)
  obtain rfl : z_1 = nI ((6 * k) + 1) := ez_1.trans (nI_add ((6 * k)) 1)
  refine va_sld hx hb hX hbl hbA hS (vp_in_nI (by omega) (by omega)) dL_law_963 ?_
  refine lv_topi (fun a_2 ea_2 => ?_)
  obtain ⟨lv, ia, la, ot, t0, t1, t2, hR, i0, i1, i2, rfl⟩ := hXI
  have hFx := free_of hD.left hS hA
  refine va_calli (va_runV (As := [.int a_2]) (rest := []) ⟨hx, hb, hml, hown, hts⟩ (Met_xi (kx_meet l dC dI H.size ad kc fr gnS wS iv lv ia la ot fI hFX hR a_2) i0 i1 i2 (EY := fun _ => True) (fun _ _ h => h)) (cwV 1 hts g_law_X6_meet rfl rfl rfl (by decide +kernel) ⟨Nat.le_of_ble_eq_true rfl, Nat.le_of_ble_eq_true rfl⟩) ⟨fun a U g mk q => by obtain ⟨q0, q1, qP, qK, qD, qE⟩ := q; exact ⟨q0, q1, qP, va_K.moved (u := U) (U := U.calling g mk a) (Vm.Alike.refl U.vm) qK, qD, trivial⟩, va_recv hK hP.left (ci := 6) (q0 := 0) rfl rfl, fun U hU hW => ⟨rfl, by rw [hU], by rw [hU]; exact hP.left, va_K.moved hW.alike hK, hD.left.weaken (fun _ _ _ _ => trivial), trivial⟩⟩ rfl rfl hl.1 rfl (lv_room (Nat.le_of_ble_eq_true rfl)) dL_law_964 ⟨by show 70 + 9 * k + 0 + 0 ≤ 600000; omega, by show 7203 + 400 * k + 0 + 0 ≤ 7302250; omega⟩) hS (fun q _ h => hFx q h) hFx (fun r_3 V_5 t H1 locs ht hvm hw_4 hB hz1 hk1 hS => ?_)
  obtain ⟨hP, hD⟩ := va_joinA hP hD hk1 hFx (by rw [← ht]; exact hB.1) hB.2
  generalize H1 = H at hP hS ⊢
  obtain ⟨hp9, iv2, fI2, hch, hXJ⟩ := hw_4
  refine lv_pop hx hb dL_law_967 rfl ?_
  refine lv_aload_n hx hb dL_law_968 rfl (lv_at hl 1 rfl) ?_
  refine lv_aload_n hx hb dL_law_969 rfl (lv_at hl 3 rfl) ?_
  refine lv_iload_n hx hb dL_law_970 rfl (lv_at hl 0 rfl) ?_
  refine lv_iconst (v := 1) hx hb dL_law_971 (by decide) ?_
  refine lv_iadd hx hb dL_law_972 ?_
  refine lv_topi (fun z_6 ez_6 => ?_)
  obtain rfl : z_6 = nI ((6 * k) + 1) := ez_6.trans (nI_add ((6 * k)) 1)
  refine va_sld hx hb hX hbl hbA hS (vp_in_nI (by omega) (by omega)) dL_law_973 ?_
  refine lv_topi (fun a_7 ea_7 => ?_)
  obtain rfl : a_2 = a_7 := ea_2.trans ea_7.symm
  obtain ⟨jv, jl, jb, hR2, rfl⟩ := hMN
  obtain ⟨hP, hD⟩ := va_swap hP hD
  have hFx := free_of hD.left hS hA
  refine va_calli (va_runV (As := [.int a_2]) (rest := []) ⟨hx, hb, hml, hown, hts⟩ (km_meet l dC dI H.size bd kd jv jl ja jb hR2 a_2) (cwV 1 hts g_law_X7_meet rfl rfl rfl (by decide +kernel) ⟨Nat.le_of_ble_eq_true rfl, Nat.le_of_ble_eq_true rfl⟩) ⟨fun a U g mk q => by obtain ⟨q0, q1, qP, qK, qD, qE⟩ := q; exact ⟨q0, q1, qP, va_K.moved (u := U) (U := U.calling g mk a) (Vm.Alike.refl U.vm) qK, qD, trivial⟩, va_recv hK2 hP.left (ci := 7) (q0 := 0) rfl rfl, fun U hU hW => ⟨rfl, by rw [hU], by rw [hU]; exact hP.left, va_K.moved hW.alike hK2, hD.left.weaken (fun _ _ _ _ => trivial), trivial⟩⟩ rfl rfl hl.1 rfl (lv_room (Nat.le_of_ble_eq_true rfl)) dL_law_974 ⟨by show 70 + 9 * k + 0 + 0 ≤ 600000; omega, by show 7203 + 400 * k + 0 + 0 ≤ 7302250; omega⟩) hS (fun q _ h => hFx q h) hFx (fun r_8 V_10 t H1 locs ht hvm hw_9 hB hz1 hk1 hS => ?_)
  obtain ⟨hP, hD⟩ := va_joinA hP hD hk1 hFx (by rw [← ht]; exact hB.1) hB.2
  generalize H1 = H at hP hS ⊢
  obtain ⟨hP, hD⟩ := va_swap hP hD
  obtain ⟨hq9, jv2, jl2, ja2, jb2, hcm, hMR, rfl⟩ := hw_9
  refine lv_pop hx hb dL_law_977 rfl ?_
  refine lv_goto (tgt := 1569) hx hb dL_law_978 (by decide) ?_
  refine lv_iinc (v := nI (6 * (k + 1))) (lv' := [(3, .int (nI (6 * (k + 1)))), (2, .ref (bd 0)), (1, .ref (ad 0)), (0, .ref b)]) hx hb dL_law_1569 hl (k := 0) rfl (show nI (6 * k) + nI 6 = nI (6 * (k + 1)) from nI_add (6 * k) 6) (by decide) rfl (fun ls hl => ?_)
  refine lv_goto (tgt := 18) hx hb dL_law_1572 (by decide) ?_
  refine W.widen (k := 70 + 9 * (k + 1)) (n := 7203 + 400 * (k + 1)) (by omega) (by omega) ?_
  exact ih _ _ _ ⟨V_5, _, iv2, fI2, ja2, hREL.same hch.1 hcm.1 hcm.2.1, hKR.same hch.2 hcm.2.2, hXJ, ⟨jv2, jl2, jb2, hMR, rfl⟩, hP, hD, hS, lv_sub hl [0, 1, 2, 3] rfl⟩

set_option maxHeartbeats 4000000 in
set_option maxRecDepth 100000 in
/-- the law, its call 27: tea -/
theorem lc_27 {p : Program} {e : Env} {s : State} {m : MethodId} {below : List Frame} {meth : Method} {c : Code} (l : Launch) {b L : Nat} {xs : Nat → Int32} (hL : L ≤ 3072) (C0 : lw_At p s m meth c b L xs) {A : Nat → Prop} (hA : ∀ q, s.heap.size ≤ q → A q) (hA2 : ∀ q, A q → s.heap.size ≤ q) (hE0 : Kx s) {sa sv sn : Nat → Nat} (hE9 : sx sa sv sn A s) {dC : Nat → ClassId} {dI : Nat → Nat → Nat} {ad : Nat → Nat} {kc : Nat → ClassId} {fr gnS wS : Nat → Option Nat} {bd : Nat → Nat} {kd : Nat → ClassId} (hFX : FX ad fr gnS wS) (hK : va_K (dC, dI) vwCl (XT kc) s) (hK2 : va_K (dC, dI) vwCl (MT kd) s) {k : Nat} (hk : 6 * k + 6 ≤ L) {H : Heap} {locs : List Loc} {ls : Array Slot} (hW : LW (dC, dI) A s b ad kc fr gnS wS bd kd k H locs ls) (ih : ∀ (H : Heap) (locs : List Loc) (ls : Array Slot), LW (dC, dI) A s b ad kc fr gnS wS bd kd (k + 1) H locs ls → W p l e room_1 s m #[Value.ref b] below meth c H locs (70 + 9 * (k + 1)) (7203 + 400 * (k + 1)) (lw_Z below #[Value.ref b] s) (F0 m 18 ls [])) : W p l e room_1 s m #[Value.ref b] below meth c H locs (70 + 9 * k) (7203 + 400 * k) (lw_Z below #[Value.ref b] s) (F0 m 981 ls []) := by
  obtain ⟨hx, hb, hr, hml, hown, hts, hX, hbl, hlocks, hgv⟩ := id C0
  have hown : s.vm.findClass RL = some m.cls := hown
  have hts := fun w (h : w ∈ wz_law) => hts w (wz_law_in w h)
  have hbA : ¬ A b := fun h => absurd (hA2 b h) (Nat.not_le.mpr hbl)
  obtain ⟨Wx, Wm, iv, fI, ja, hREL, hKR, hXI, hMN, hP, hD, hS, hl⟩ := hW
  refine lv_aload_n hx hb dL_law_981 rfl (lv_at hl 2 rfl) ?_
  refine lv_aload_n hx hb dL_law_982 rfl (lv_at hl 3 rfl) ?_
  refine lv_iload_n hx hb dL_law_983 rfl (lv_at hl 0 rfl) ?_
  refine lv_iconst (v := 1) hx hb dL_law_984 (by decide) ?_
  refine lv_iadd hx hb dL_law_985 ?_
  refine lv_topi (fun z_1 ez_1 => ?_)
  obtain rfl : z_1 = nI ((6 * k) + 1) := ez_1.trans (nI_add ((6 * k)) 1)
  refine va_sld hx hb hX hbl hbA hS (vp_in_nI (by omega) (by omega)) dL_law_986 ?_
  refine lv_topi (fun a_2 ea_2 => ?_)
  obtain ⟨lv, ia, la, ot, t0, t1, t2, hR, i0, i1, i2, rfl⟩ := hXI
  have hFx := free_of hD.left hS hA
  refine va_calli (va_runV (As := [.int a_2]) (rest := []) ⟨hx, hb, hml, hown, hts⟩ (Met_xi (kx_tea l dC dI H.size ad kc fr gnS wS iv lv ia la ot fI hFX hR a_2) i0 i1 i2 (EY := fun _ => True) (fun _ _ h => h)) (cwV 1 hts g_law_X6_tea rfl rfl rfl (by decide +kernel) ⟨Nat.le_of_ble_eq_true rfl, Nat.le_of_ble_eq_true rfl⟩) ⟨fun a U g mk q => by obtain ⟨q0, q1, qP, qK, qD, qE⟩ := q; exact ⟨q0, q1, qP, va_K.moved (u := U) (U := U.calling g mk a) (Vm.Alike.refl U.vm) qK, qD, trivial⟩, va_recv hK hP.left (ci := 6) (q0 := 0) rfl rfl, fun U hU hW => ⟨rfl, by rw [hU], by rw [hU]; exact hP.left, va_K.moved hW.alike hK, hD.left.weaken (fun _ _ _ _ => trivial), trivial⟩⟩ rfl rfl hl.1 rfl (lv_room (Nat.le_of_ble_eq_true rfl)) dL_law_987 ⟨by show 70 + 9 * k + 0 + 0 ≤ 600000; omega, by show 7203 + 400 * k + 0 + 0 ≤ 7302250; omega⟩) hS (fun q _ h => hFx q h) hFx (fun r_3 V_5 t H1 locs ht hvm hw_4 hB hz1 hk1 hS => ?_)
  obtain ⟨hP, hD⟩ := va_joinA hP hD hk1 hFx (by rw [← ht]; exact hB.1) hB.2
  generalize H1 = H at hP hS ⊢
  obtain ⟨hp9, iv2, fI2, hch, hXJ⟩ := hw_4
  refine lv_pop hx hb dL_law_990 rfl ?_
  refine lv_aload_n hx hb dL_law_991 rfl (lv_at hl 1 rfl) ?_
  refine lv_aload_n hx hb dL_law_992 rfl (lv_at hl 3 rfl) ?_
  refine lv_iload_n hx hb dL_law_993 rfl (lv_at hl 0 rfl) ?_
  refine lv_iconst (v := 1) hx hb dL_law_994 (by decide) ?_
  refine lv_iadd hx hb dL_law_995 ?_
  refine lv_topi (fun z_6 ez_6 => ?_)
  obtain rfl : z_6 = nI ((6 * k) + 1) := ez_6.trans (nI_add ((6 * k)) 1)
  refine va_sld hx hb hX hbl hbA hS (vp_in_nI (by omega) (by omega)) dL_law_996 ?_
  refine lv_topi (fun a_7 ea_7 => ?_)
  obtain rfl : a_2 = a_7 := ea_2.trans ea_7.symm
  obtain ⟨jv, jl, jb, hR2, rfl⟩ := hMN
  obtain ⟨hP, hD⟩ := va_swap hP hD
  have hFx := free_of hD.left hS hA
  refine va_calli (va_runV (As := [.int a_2]) (rest := []) ⟨hx, hb, hml, hown, hts⟩ (km_tea l dC dI H.size bd kd jv jl ja jb hR2 a_2) (cwV 1 hts g_law_X7_tea rfl rfl rfl (by decide +kernel) ⟨Nat.le_of_ble_eq_true rfl, Nat.le_of_ble_eq_true rfl⟩) ⟨fun a U g mk q => by obtain ⟨q0, q1, qP, qK, qD, qE⟩ := q; exact ⟨q0, q1, qP, va_K.moved (u := U) (U := U.calling g mk a) (Vm.Alike.refl U.vm) qK, qD, trivial⟩, va_recv hK2 hP.left (ci := 7) (q0 := 0) rfl rfl, fun U hU hW => ⟨rfl, by rw [hU], by rw [hU]; exact hP.left, va_K.moved hW.alike hK2, hD.left.weaken (fun _ _ _ _ => trivial), trivial⟩⟩ rfl rfl hl.1 rfl (lv_room (Nat.le_of_ble_eq_true rfl)) dL_law_997 ⟨by show 70 + 9 * k + 0 + 0 ≤ 600000; omega, by show 7203 + 400 * k + 0 + 0 ≤ 7302250; omega⟩) hS (fun q _ h => hFx q h) hFx (fun r_8 V_10 t H1 locs ht hvm hw_9 hB hz1 hk1 hS => ?_)
  obtain ⟨hP, hD⟩ := va_joinA hP hD hk1 hFx (by rw [← ht]; exact hB.1) hB.2
  generalize H1 = H at hP hS ⊢
  obtain ⟨hP, hD⟩ := va_swap hP hD
  obtain ⟨hq9, jv2, jl2, ja2, jb2, hcm, hMR, rfl⟩ := hw_9
  refine lv_pop hx hb dL_law_1000 rfl ?_
  refine lv_goto (tgt := 1569) hx hb dL_law_1001 (by decide) ?_
  refine lv_iinc (v := nI (6 * (k + 1))) (lv' := [(3, .int (nI (6 * (k + 1)))), (2, .ref (bd 0)), (1, .ref (ad 0)), (0, .ref b)]) hx hb dL_law_1569 hl (k := 0) rfl (show nI (6 * k) + nI 6 = nI (6 * (k + 1)) from nI_add (6 * k) 6) (by decide) rfl (fun ls hl => ?_)
  refine lv_goto (tgt := 18) hx hb dL_law_1572 (by decide) ?_
  refine W.widen (k := 70 + 9 * (k + 1)) (n := 7203 + 400 * (k + 1)) (by omega) (by omega) ?_
  exact ih _ _ _ ⟨V_5, _, iv2, fI2, ja2, hREL.same hch.1 hcm.1 hcm.2.1, hKR.same hch.2 hcm.2.2, hXJ, ⟨jv2, jl2, jb2, hMR, rfl⟩, hP, hD, hS, lv_sub hl [0, 1, 2, 3] rfl⟩

set_option maxHeartbeats 4000000 in
set_option maxRecDepth 100000 in
/-- the law, its call 28: served -/
theorem lc_28 {p : Program} {e : Env} {s : State} {m : MethodId} {below : List Frame} {meth : Method} {c : Code} (l : Launch) {b L : Nat} {xs : Nat → Int32} (hL : L ≤ 3072) (C0 : lw_At p s m meth c b L xs) {A : Nat → Prop} (hA : ∀ q, s.heap.size ≤ q → A q) (hA2 : ∀ q, A q → s.heap.size ≤ q) (hE0 : Kx s) {sa sv sn : Nat → Nat} (hE9 : sx sa sv sn A s) {dC : Nat → ClassId} {dI : Nat → Nat → Nat} {ad : Nat → Nat} {kc : Nat → ClassId} {fr gnS wS : Nat → Option Nat} {bd : Nat → Nat} {kd : Nat → ClassId} (hFX : FX ad fr gnS wS) (hK : va_K (dC, dI) vwCl (XT kc) s) (hK2 : va_K (dC, dI) vwCl (MT kd) s) {k : Nat} (hk : 6 * k + 6 ≤ L) {H : Heap} {locs : List Loc} {ls : Array Slot} (hW : LW (dC, dI) A s b ad kc fr gnS wS bd kd k H locs ls) (ih : ∀ (H : Heap) (locs : List Loc) (ls : Array Slot), LW (dC, dI) A s b ad kc fr gnS wS bd kd (k + 1) H locs ls → W p l e room_1 s m #[Value.ref b] below meth c H locs (70 + 9 * (k + 1)) (7203 + 400 * (k + 1)) (lw_Z below #[Value.ref b] s) (F0 m 18 ls [])) : W p l e room_1 s m #[Value.ref b] below meth c H locs (70 + 9 * k) (7203 + 400 * k) (lw_Z below #[Value.ref b] s) (F0 m 1004 ls []) := by
  obtain ⟨hx, hb, hr, hml, hown, hts, hX, hbl, hlocks, hgv⟩ := id C0
  have hown : s.vm.findClass RL = some m.cls := hown
  have hts := fun w (h : w ∈ wz_law) => hts w (wz_law_in w h)
  have hbA : ¬ A b := fun h => absurd (hA2 b h) (Nat.not_le.mpr hbl)
  obtain ⟨Wx, Wm, iv, fI, ja, hREL, hKR, hXI, hMN, hP, hD, hS, hl⟩ := hW
  refine lv_aload_n hx hb dL_law_1004 rfl (lv_at hl 2 rfl) ?_
  refine lv_aload_n hx hb dL_law_1005 rfl (lv_at hl 3 rfl) ?_
  refine lv_iload_n hx hb dL_law_1006 rfl (lv_at hl 0 rfl) ?_
  refine lv_iconst (v := 1) hx hb dL_law_1007 (by decide) ?_
  refine lv_iadd hx hb dL_law_1008 ?_
  refine lv_topi (fun z_1 ez_1 => ?_)
  obtain rfl : z_1 = nI ((6 * k) + 1) := ez_1.trans (nI_add ((6 * k)) 1)
  refine va_sld hx hb hX hbl hbA hS (vp_in_nI (by omega) (by omega)) dL_law_1009 ?_
  refine lv_topi (fun a_2 ea_2 => ?_)
  refine lv_aload_n hx hb dL_law_1010 rfl (lv_at hl 3 rfl) ?_
  refine lv_iload_n hx hb dL_law_1011 rfl (lv_at hl 0 rfl) ?_
  refine lv_iconst (v := 2) hx hb dL_law_1012 (by decide) ?_
  refine lv_iadd hx hb dL_law_1013 ?_
  refine lv_topi (fun z_3 ez_3 => ?_)
  obtain rfl : z_3 = nI ((6 * k) + 2) := ez_3.trans (nI_add ((6 * k)) 2)
  refine va_sld hx hb hX hbl hbA hS (vp_in_nI (by omega) (by omega)) dL_law_1014 ?_
  refine lv_topi (fun a_4 ea_4 => ?_)
  obtain ⟨lv, ia, la, ot, t0, t1, t2, hR, i0, i1, i2, rfl⟩ := hXI
  have hFx := free_of hD.left hS hA
  refine va_calli (va_runV (As := [.int a_2, .int a_4]) (rest := []) ⟨hx, hb, hml, hown, hts⟩ (Met_xi (kx_served l dC dI H.size ad kc fr gnS wS iv lv ia la ot fI hFX hR a_2 a_4) i0 i1 i2 (EY := fun _ => True) (fun _ _ h => h)) (cwV 2 hts g_law_X6_served rfl rfl rfl (by decide +kernel) ⟨Nat.le_of_ble_eq_true rfl, Nat.le_of_ble_eq_true rfl⟩) ⟨fun a U g mk q => by obtain ⟨q0, q1, qP, qK, qD, qE⟩ := q; exact ⟨q0, q1, qP, va_K.moved (u := U) (U := U.calling g mk a) (Vm.Alike.refl U.vm) qK, qD, trivial⟩, va_recv hK hP.left (ci := 6) (q0 := 0) rfl rfl, fun U hU hW => ⟨rfl, by rw [hU], by rw [hU]; exact hP.left, va_K.moved hW.alike hK, hD.left.weaken (fun _ _ _ _ => trivial), trivial⟩⟩ rfl rfl hl.1 rfl (lv_room (Nat.le_of_ble_eq_true rfl)) dL_law_1015 ⟨by show 70 + 9 * k + 0 + 0 ≤ 600000; omega, by show 7203 + 400 * k + 0 + 0 ≤ 7302250; omega⟩) hS (fun q _ h => hFx q h) hFx (fun r_5 V_7 t H1 locs ht hvm hw_6 hB hz1 hk1 hS => ?_)
  obtain ⟨hP, hD⟩ := va_joinA hP hD hk1 hFx (by rw [← ht]; exact hB.1) hB.2
  generalize H1 = H at hP hS ⊢
  obtain ⟨hp9, iv2, fI2, hch, hXJ⟩ := hw_6
  refine lv_pop hx hb dL_law_1018 rfl ?_
  refine lv_aload_n hx hb dL_law_1019 rfl (lv_at hl 1 rfl) ?_
  refine lv_aload_n hx hb dL_law_1020 rfl (lv_at hl 3 rfl) ?_
  refine lv_iload_n hx hb dL_law_1021 rfl (lv_at hl 0 rfl) ?_
  refine lv_iconst (v := 1) hx hb dL_law_1022 (by decide) ?_
  refine lv_iadd hx hb dL_law_1023 ?_
  refine lv_topi (fun z_8 ez_8 => ?_)
  obtain rfl : z_8 = nI ((6 * k) + 1) := ez_8.trans (nI_add ((6 * k)) 1)
  refine va_sld hx hb hX hbl hbA hS (vp_in_nI (by omega) (by omega)) dL_law_1024 ?_
  refine lv_topi (fun a_9 ea_9 => ?_)
  obtain rfl : a_2 = a_9 := ea_2.trans ea_9.symm
  refine lv_aload_n hx hb dL_law_1025 rfl (lv_at hl 3 rfl) ?_
  refine lv_iload_n hx hb dL_law_1026 rfl (lv_at hl 0 rfl) ?_
  refine lv_iconst (v := 2) hx hb dL_law_1027 (by decide) ?_
  refine lv_iadd hx hb dL_law_1028 ?_
  refine lv_topi (fun z_10 ez_10 => ?_)
  obtain rfl : z_10 = nI ((6 * k) + 2) := ez_10.trans (nI_add ((6 * k)) 2)
  refine va_sld hx hb hX hbl hbA hS (vp_in_nI (by omega) (by omega)) dL_law_1029 ?_
  refine lv_topi (fun a_11 ea_11 => ?_)
  obtain rfl : a_4 = a_11 := ea_4.trans ea_11.symm
  obtain ⟨jv, jl, jb, hR2, rfl⟩ := hMN
  obtain ⟨hP, hD⟩ := va_swap hP hD
  have hFx := free_of hD.left hS hA
  refine va_calli (va_runV (As := [.int a_2, .int a_4]) (rest := []) ⟨hx, hb, hml, hown, hts⟩ (km_served l dC dI H.size bd kd jv jl ja jb hR2 a_2 a_4) (cwV 2 hts g_law_X7_served rfl rfl rfl (by decide +kernel) ⟨Nat.le_of_ble_eq_true rfl, Nat.le_of_ble_eq_true rfl⟩) ⟨fun a U g mk q => by obtain ⟨q0, q1, qP, qK, qD, qE⟩ := q; exact ⟨q0, q1, qP, va_K.moved (u := U) (U := U.calling g mk a) (Vm.Alike.refl U.vm) qK, qD, trivial⟩, va_recv hK2 hP.left (ci := 7) (q0 := 0) rfl rfl, fun U hU hW => ⟨rfl, by rw [hU], by rw [hU]; exact hP.left, va_K.moved hW.alike hK2, hD.left.weaken (fun _ _ _ _ => trivial), trivial⟩⟩ rfl rfl hl.1 rfl (lv_room (Nat.le_of_ble_eq_true rfl)) dL_law_1030 ⟨by show 70 + 9 * k + 0 + 0 ≤ 600000; omega, by show 7203 + 400 * k + 0 + 0 ≤ 7302250; omega⟩) hS (fun q _ h => hFx q h) hFx (fun r_12 V_14 t H1 locs ht hvm hw_13 hB hz1 hk1 hS => ?_)
  obtain ⟨hP, hD⟩ := va_joinA hP hD hk1 hFx (by rw [← ht]; exact hB.1) hB.2
  generalize H1 = H at hP hS ⊢
  obtain ⟨hP, hD⟩ := va_swap hP hD
  obtain ⟨hq9, jv2, jl2, ja2, jb2, hcm, hMR, rfl⟩ := hw_13
  refine lv_pop hx hb dL_law_1033 rfl ?_
  refine lv_goto (tgt := 1569) hx hb dL_law_1034 (by decide) ?_
  refine lv_iinc (v := nI (6 * (k + 1))) (lv' := [(3, .int (nI (6 * (k + 1)))), (2, .ref (bd 0)), (1, .ref (ad 0)), (0, .ref b)]) hx hb dL_law_1569 hl (k := 0) rfl (show nI (6 * k) + nI 6 = nI (6 * (k + 1)) from nI_add (6 * k) 6) (by decide) rfl (fun ls hl => ?_)
  refine lv_goto (tgt := 18) hx hb dL_law_1572 (by decide) ?_
  refine W.widen (k := 70 + 9 * (k + 1)) (n := 7203 + 400 * (k + 1)) (by omega) (by omega) ?_
  exact ih _ _ _ ⟨V_7, _, iv2, fI2, ja2, hREL.same hch.1 hcm.1 hcm.2.1, hKR.same hch.2 hcm.2.2, hXJ, ⟨jv2, jl2, jb2, hMR, rfl⟩, hP, hD, hS, lv_sub hl [0, 1, 2, 3] rfl⟩

set_option maxHeartbeats 4000000 in
set_option maxRecDepth 100000 in
/-- the law, its call 29: letter -/
theorem lc_29 {p : Program} {e : Env} {s : State} {m : MethodId} {below : List Frame} {meth : Method} {c : Code} (l : Launch) {b L : Nat} {xs : Nat → Int32} (hL : L ≤ 3072) (C0 : lw_At p s m meth c b L xs) {A : Nat → Prop} (hA : ∀ q, s.heap.size ≤ q → A q) (hA2 : ∀ q, A q → s.heap.size ≤ q) (hE0 : Kx s) {sa sv sn : Nat → Nat} (hE9 : sx sa sv sn A s) {dC : Nat → ClassId} {dI : Nat → Nat → Nat} {ad : Nat → Nat} {kc : Nat → ClassId} {fr gnS wS : Nat → Option Nat} {bd : Nat → Nat} {kd : Nat → ClassId} (hFX : FX ad fr gnS wS) (hK : va_K (dC, dI) vwCl (XT kc) s) (hK2 : va_K (dC, dI) vwCl (MT kd) s) {k : Nat} (hk : 6 * k + 6 ≤ L) {H : Heap} {locs : List Loc} {ls : Array Slot} (hW : LW (dC, dI) A s b ad kc fr gnS wS bd kd k H locs ls) (ih : ∀ (H : Heap) (locs : List Loc) (ls : Array Slot), LW (dC, dI) A s b ad kc fr gnS wS bd kd (k + 1) H locs ls → W p l e room_1 s m #[Value.ref b] below meth c H locs (70 + 9 * (k + 1)) (7203 + 400 * (k + 1)) (lw_Z below #[Value.ref b] s) (F0 m 18 ls [])) : W p l e room_1 s m #[Value.ref b] below meth c H locs (70 + 9 * k) (7203 + 400 * k) (lw_Z below #[Value.ref b] s) (F0 m 1037 ls []) := by
  obtain ⟨hx, hb, hr, hml, hown, hts, hX, hbl, hlocks, hgv⟩ := id C0
  have hown : s.vm.findClass RL = some m.cls := hown
  have hts := fun w (h : w ∈ wz_law) => hts w (wz_law_in w h)
  have hbA : ¬ A b := fun h => absurd (hA2 b h) (Nat.not_le.mpr hbl)
  obtain ⟨Wx, Wm, iv, fI, ja, hREL, hKR, hXI, hMN, hP, hD, hS, hl⟩ := hW
  refine lv_aload_n hx hb dL_law_1037 rfl (lv_at hl 2 rfl) ?_
  refine lv_aload_n hx hb dL_law_1038 rfl (lv_at hl 3 rfl) ?_
  refine lv_iload_n hx hb dL_law_1039 rfl (lv_at hl 0 rfl) ?_
  refine lv_iconst (v := 1) hx hb dL_law_1040 (by decide) ?_
  refine lv_iadd hx hb dL_law_1041 ?_
  refine lv_topi (fun z_1 ez_1 => ?_)
  obtain rfl : z_1 = nI ((6 * k) + 1) := ez_1.trans (nI_add ((6 * k)) 1)
  refine va_sld hx hb hX hbl hbA hS (vp_in_nI (by omega) (by omega)) dL_law_1042 ?_
  refine lv_topi (fun a_2 ea_2 => ?_)
  obtain ⟨lv, ia, la, ot, t0, t1, t2, hR, i0, i1, i2, rfl⟩ := hXI
  have hFx := free_of hD.left hS hA
  refine va_calli (va_runV (As := [.int a_2]) (rest := []) ⟨hx, hb, hml, hown, hts⟩ (Met_xi (kx_letter l dC dI H.size ad kc fr gnS wS iv lv ia la ot fI hFX hR a_2) i0 i1 i2 (EY := fun _ => True) (fun _ _ h => h)) (cwV 1 hts g_law_X6_letter rfl rfl rfl (by decide +kernel) ⟨Nat.le_of_ble_eq_true rfl, Nat.le_of_ble_eq_true rfl⟩) ⟨fun a U g mk q => by obtain ⟨q0, q1, qP, qK, qD, qE⟩ := q; exact ⟨q0, q1, qP, va_K.moved (u := U) (U := U.calling g mk a) (Vm.Alike.refl U.vm) qK, qD, trivial⟩, va_recv hK hP.left (ci := 6) (q0 := 0) rfl rfl, fun U hU hW => ⟨rfl, by rw [hU], by rw [hU]; exact hP.left, va_K.moved hW.alike hK, hD.left.weaken (fun _ _ _ _ => trivial), trivial⟩⟩ rfl rfl hl.1 rfl (lv_room (Nat.le_of_ble_eq_true rfl)) dL_law_1043 ⟨by show 70 + 9 * k + 0 + 0 ≤ 600000; omega, by show 7203 + 400 * k + 0 + 0 ≤ 7302250; omega⟩) hS (fun q _ h => hFx q h) hFx (fun r_3 V_5 t H1 locs ht hvm hw_4 hB hz1 hk1 hS => ?_)
  obtain ⟨hP, hD⟩ := va_joinA hP hD hk1 hFx (by rw [← ht]; exact hB.1) hB.2
  generalize H1 = H at hP hS ⊢
  obtain ⟨hp9, iv2, fI2, hch, hXJ⟩ := hw_4
  refine lv_pop hx hb dL_law_1046 rfl ?_
  refine lv_aload_n hx hb dL_law_1047 rfl (lv_at hl 1 rfl) ?_
  refine lv_aload_n hx hb dL_law_1048 rfl (lv_at hl 3 rfl) ?_
  refine lv_iload_n hx hb dL_law_1049 rfl (lv_at hl 0 rfl) ?_
  refine lv_iconst (v := 1) hx hb dL_law_1050 (by decide) ?_
  refine lv_iadd hx hb dL_law_1051 ?_
  refine lv_topi (fun z_6 ez_6 => ?_)
  obtain rfl : z_6 = nI ((6 * k) + 1) := ez_6.trans (nI_add ((6 * k)) 1)
  refine va_sld hx hb hX hbl hbA hS (vp_in_nI (by omega) (by omega)) dL_law_1052 ?_
  refine lv_topi (fun a_7 ea_7 => ?_)
  obtain rfl : a_2 = a_7 := ea_2.trans ea_7.symm
  obtain ⟨jv, jl, jb, hR2, rfl⟩ := hMN
  obtain ⟨hP, hD⟩ := va_swap hP hD
  have hFx := free_of hD.left hS hA
  refine va_calli (va_runV (As := [.int a_2]) (rest := []) ⟨hx, hb, hml, hown, hts⟩ (km_letter l dC dI H.size bd kd jv jl ja jb hR2 a_2) (cwV 1 hts g_law_X7_letter rfl rfl rfl (by decide +kernel) ⟨Nat.le_of_ble_eq_true rfl, Nat.le_of_ble_eq_true rfl⟩) ⟨fun a U g mk q => by obtain ⟨q0, q1, qP, qK, qD, qE⟩ := q; exact ⟨q0, q1, qP, va_K.moved (u := U) (U := U.calling g mk a) (Vm.Alike.refl U.vm) qK, qD, trivial⟩, va_recv hK2 hP.left (ci := 7) (q0 := 0) rfl rfl, fun U hU hW => ⟨rfl, by rw [hU], by rw [hU]; exact hP.left, va_K.moved hW.alike hK2, hD.left.weaken (fun _ _ _ _ => trivial), trivial⟩⟩ rfl rfl hl.1 rfl (lv_room (Nat.le_of_ble_eq_true rfl)) dL_law_1053 ⟨by show 70 + 9 * k + 0 + 0 ≤ 600000; omega, by show 7203 + 400 * k + 0 + 0 ≤ 7302250; omega⟩) hS (fun q _ h => hFx q h) hFx (fun r_8 V_10 t H1 locs ht hvm hw_9 hB hz1 hk1 hS => ?_)
  obtain ⟨hP, hD⟩ := va_joinA hP hD hk1 hFx (by rw [← ht]; exact hB.1) hB.2
  generalize H1 = H at hP hS ⊢
  obtain ⟨hP, hD⟩ := va_swap hP hD
  obtain ⟨hq9, jv2, jl2, ja2, jb2, hcm, hMR, rfl⟩ := hw_9
  refine lv_pop hx hb dL_law_1056 rfl ?_
  refine lv_goto (tgt := 1569) hx hb dL_law_1057 (by decide) ?_
  refine lv_iinc (v := nI (6 * (k + 1))) (lv' := [(3, .int (nI (6 * (k + 1)))), (2, .ref (bd 0)), (1, .ref (ad 0)), (0, .ref b)]) hx hb dL_law_1569 hl (k := 0) rfl (show nI (6 * k) + nI 6 = nI (6 * (k + 1)) from nI_add (6 * k) 6) (by decide) rfl (fun ls hl => ?_)
  refine lv_goto (tgt := 18) hx hb dL_law_1572 (by decide) ?_
  refine W.widen (k := 70 + 9 * (k + 1)) (n := 7203 + 400 * (k + 1)) (by omega) (by omega) ?_
  exact ih _ _ _ ⟨V_5, _, iv2, fI2, ja2, hREL.same hch.1 hcm.1 hcm.2.1, hKR.same hch.2 hcm.2.2, hXJ, ⟨jv2, jl2, jb2, hMR, rfl⟩, hP, hD, hS, lv_sub hl [0, 1, 2, 3] rfl⟩

set_option maxHeartbeats 4000000 in
set_option maxRecDepth 100000 in
/-- the law, its call 30: goes -/
theorem lc_30 {p : Program} {e : Env} {s : State} {m : MethodId} {below : List Frame} {meth : Method} {c : Code} (l : Launch) {b L : Nat} {xs : Nat → Int32} (hL : L ≤ 3072) (C0 : lw_At p s m meth c b L xs) {A : Nat → Prop} (hA : ∀ q, s.heap.size ≤ q → A q) (hA2 : ∀ q, A q → s.heap.size ≤ q) (hE0 : Kx s) {sa sv sn : Nat → Nat} (hE9 : sx sa sv sn A s) {dC : Nat → ClassId} {dI : Nat → Nat → Nat} {ad : Nat → Nat} {kc : Nat → ClassId} {fr gnS wS : Nat → Option Nat} {bd : Nat → Nat} {kd : Nat → ClassId} (hFX : FX ad fr gnS wS) (hK : va_K (dC, dI) vwCl (XT kc) s) (hK2 : va_K (dC, dI) vwCl (MT kd) s) {k : Nat} (hk : 6 * k + 6 ≤ L) {H : Heap} {locs : List Loc} {ls : Array Slot} (hW : LW (dC, dI) A s b ad kc fr gnS wS bd kd k H locs ls) (ih : ∀ (H : Heap) (locs : List Loc) (ls : Array Slot), LW (dC, dI) A s b ad kc fr gnS wS bd kd (k + 1) H locs ls → W p l e room_1 s m #[Value.ref b] below meth c H locs (70 + 9 * (k + 1)) (7203 + 400 * (k + 1)) (lw_Z below #[Value.ref b] s) (F0 m 18 ls [])) : W p l e room_1 s m #[Value.ref b] below meth c H locs (70 + 9 * k) (7203 + 400 * k) (lw_Z below #[Value.ref b] s) (F0 m 1060 ls []) := by
  obtain ⟨hx, hb, hr, hml, hown, hts, hX, hbl, hlocks, hgv⟩ := id C0
  have hown : s.vm.findClass RL = some m.cls := hown
  have hts := fun w (h : w ∈ wz_law) => hts w (wz_law_in w h)
  have hbA : ¬ A b := fun h => absurd (hA2 b h) (Nat.not_le.mpr hbl)
  obtain ⟨Wx, Wm, iv, fI, ja, hREL, hKR, hXI, hMN, hP, hD, hS, hl⟩ := hW
  refine lv_aload_n hx hb dL_law_1060 rfl (lv_at hl 2 rfl) ?_
  refine lv_aload_n hx hb dL_law_1061 rfl (lv_at hl 3 rfl) ?_
  refine lv_iload_n hx hb dL_law_1062 rfl (lv_at hl 0 rfl) ?_
  refine lv_iconst (v := 1) hx hb dL_law_1063 (by decide) ?_
  refine lv_iadd hx hb dL_law_1064 ?_
  refine lv_topi (fun z_1 ez_1 => ?_)
  obtain rfl : z_1 = nI ((6 * k) + 1) := ez_1.trans (nI_add ((6 * k)) 1)
  refine va_sld hx hb hX hbl hbA hS (vp_in_nI (by omega) (by omega)) dL_law_1065 ?_
  refine lv_topi (fun a_2 ea_2 => ?_)
  refine lv_aload_n hx hb dL_law_1066 rfl (lv_at hl 3 rfl) ?_
  refine lv_iload_n hx hb dL_law_1067 rfl (lv_at hl 0 rfl) ?_
  refine lv_iconst (v := 2) hx hb dL_law_1068 (by decide) ?_
  refine lv_iadd hx hb dL_law_1069 ?_
  refine lv_topi (fun z_3 ez_3 => ?_)
  obtain rfl : z_3 = nI ((6 * k) + 2) := ez_3.trans (nI_add ((6 * k)) 2)
  refine va_sld hx hb hX hbl hbA hS (vp_in_nI (by omega) (by omega)) dL_law_1070 ?_
  refine lv_topi (fun a_4 ea_4 => ?_)
  obtain ⟨lv, ia, la, ot, t0, t1, t2, hR, i0, i1, i2, rfl⟩ := hXI
  have hFx := free_of hD.left hS hA
  refine va_calli (va_runV (As := [.int a_2, .int a_4]) (rest := []) ⟨hx, hb, hml, hown, hts⟩ (Met_xi (kx_goes l dC dI H.size ad kc fr gnS wS iv lv ia la ot fI hFX hR a_2 a_4) i0 i1 i2 (EY := fun _ => True) (fun _ _ h => h)) (cwV 2 hts g_law_X6_goes rfl rfl rfl (by decide +kernel) ⟨Nat.le_of_ble_eq_true rfl, Nat.le_of_ble_eq_true rfl⟩) ⟨fun a U g mk q => by obtain ⟨q0, q1, qP, qK, qD, qE⟩ := q; exact ⟨q0, q1, qP, va_K.moved (u := U) (U := U.calling g mk a) (Vm.Alike.refl U.vm) qK, qD, trivial⟩, va_recv hK hP.left (ci := 6) (q0 := 0) rfl rfl, fun U hU hW => ⟨rfl, by rw [hU], by rw [hU]; exact hP.left, va_K.moved hW.alike hK, hD.left.weaken (fun _ _ _ _ => trivial), trivial⟩⟩ rfl rfl hl.1 rfl (lv_room (Nat.le_of_ble_eq_true rfl)) dL_law_1071 ⟨by show 70 + 9 * k + 0 + 0 ≤ 600000; omega, by show 7203 + 400 * k + 0 + 0 ≤ 7302250; omega⟩) hS (fun q _ h => hFx q h) hFx (fun r_5 V_7 t H1 locs ht hvm hw_6 hB hz1 hk1 hS => ?_)
  obtain ⟨hP, hD⟩ := va_joinA hP hD hk1 hFx (by rw [← ht]; exact hB.1) hB.2
  generalize H1 = H at hP hS ⊢
  obtain ⟨hp9, iv2, fI2, hch, hXJ⟩ := hw_6
  refine lv_pop hx hb dL_law_1074 rfl ?_
  refine lv_aload_n hx hb dL_law_1075 rfl (lv_at hl 1 rfl) ?_
  refine lv_aload_n hx hb dL_law_1076 rfl (lv_at hl 3 rfl) ?_
  refine lv_iload_n hx hb dL_law_1077 rfl (lv_at hl 0 rfl) ?_
  refine lv_iconst (v := 1) hx hb dL_law_1078 (by decide) ?_
  refine lv_iadd hx hb dL_law_1079 ?_
  refine lv_topi (fun z_8 ez_8 => ?_)
  obtain rfl : z_8 = nI ((6 * k) + 1) := ez_8.trans (nI_add ((6 * k)) 1)
  refine va_sld hx hb hX hbl hbA hS (vp_in_nI (by omega) (by omega)) dL_law_1080 ?_
  refine lv_topi (fun a_9 ea_9 => ?_)
  obtain rfl : a_2 = a_9 := ea_2.trans ea_9.symm
  refine lv_aload_n hx hb dL_law_1081 rfl (lv_at hl 3 rfl) ?_
  refine lv_iload_n hx hb dL_law_1082 rfl (lv_at hl 0 rfl) ?_
  refine lv_iconst (v := 2) hx hb dL_law_1083 (by decide) ?_
  refine lv_iadd hx hb dL_law_1084 ?_
  refine lv_topi (fun z_10 ez_10 => ?_)
  obtain rfl : z_10 = nI ((6 * k) + 2) := ez_10.trans (nI_add ((6 * k)) 2)
  refine va_sld hx hb hX hbl hbA hS (vp_in_nI (by omega) (by omega)) dL_law_1085 ?_
  refine lv_topi (fun a_11 ea_11 => ?_)
  obtain rfl : a_4 = a_11 := ea_4.trans ea_11.symm
  obtain ⟨jv, jl, jb, hR2, rfl⟩ := hMN
  obtain ⟨hP, hD⟩ := va_swap hP hD
  have hFx := free_of hD.left hS hA
  refine va_calli (va_runV (As := [.int a_2, .int a_4]) (rest := []) ⟨hx, hb, hml, hown, hts⟩ (km_goes l dC dI H.size bd kd jv jl ja jb hR2 a_2 a_4) (cwV 2 hts g_law_X7_goes rfl rfl rfl (by decide +kernel) ⟨Nat.le_of_ble_eq_true rfl, Nat.le_of_ble_eq_true rfl⟩) ⟨fun a U g mk q => by obtain ⟨q0, q1, qP, qK, qD, qE⟩ := q; exact ⟨q0, q1, qP, va_K.moved (u := U) (U := U.calling g mk a) (Vm.Alike.refl U.vm) qK, qD, trivial⟩, va_recv hK2 hP.left (ci := 7) (q0 := 0) rfl rfl, fun U hU hW => ⟨rfl, by rw [hU], by rw [hU]; exact hP.left, va_K.moved hW.alike hK2, hD.left.weaken (fun _ _ _ _ => trivial), trivial⟩⟩ rfl rfl hl.1 rfl (lv_room (Nat.le_of_ble_eq_true rfl)) dL_law_1086 ⟨by show 70 + 9 * k + 0 + 0 ≤ 600000; omega, by show 7203 + 400 * k + 0 + 0 ≤ 7302250; omega⟩) hS (fun q _ h => hFx q h) hFx (fun r_12 V_14 t H1 locs ht hvm hw_13 hB hz1 hk1 hS => ?_)
  obtain ⟨hP, hD⟩ := va_joinA hP hD hk1 hFx (by rw [← ht]; exact hB.1) hB.2
  generalize H1 = H at hP hS ⊢
  obtain ⟨hP, hD⟩ := va_swap hP hD
  obtain ⟨hq9, jv2, jl2, ja2, jb2, hcm, hMR, rfl⟩ := hw_13
  refine lv_pop hx hb dL_law_1089 rfl ?_
  refine lv_goto (tgt := 1569) hx hb dL_law_1090 (by decide) ?_
  refine lv_iinc (v := nI (6 * (k + 1))) (lv' := [(3, .int (nI (6 * (k + 1)))), (2, .ref (bd 0)), (1, .ref (ad 0)), (0, .ref b)]) hx hb dL_law_1569 hl (k := 0) rfl (show nI (6 * k) + nI 6 = nI (6 * (k + 1)) from nI_add (6 * k) 6) (by decide) rfl (fun ls hl => ?_)
  refine lv_goto (tgt := 18) hx hb dL_law_1572 (by decide) ?_
  refine W.widen (k := 70 + 9 * (k + 1)) (n := 7203 + 400 * (k + 1)) (by omega) (by omega) ?_
  exact ih _ _ _ ⟨V_7, _, iv2, fI2, ja2, hREL.same hch.1 hcm.1 hcm.2.1, hKR.same hch.2 hcm.2.2, hXJ, ⟨jv2, jl2, jb2, hMR, rfl⟩, hP, hD, hS, lv_sub hl [0, 1, 2, 3] rfl⟩

set_option maxHeartbeats 4000000 in
set_option maxRecDepth 100000 in
/-- the law, its call 31: walk -/
theorem lc_31 {p : Program} {e : Env} {s : State} {m : MethodId} {below : List Frame} {meth : Method} {c : Code} (l : Launch) {b L : Nat} {xs : Nat → Int32} (hL : L ≤ 3072) (C0 : lw_At p s m meth c b L xs) {A : Nat → Prop} (hA : ∀ q, s.heap.size ≤ q → A q) (hA2 : ∀ q, A q → s.heap.size ≤ q) (hE0 : Kx s) {sa sv sn : Nat → Nat} (hE9 : sx sa sv sn A s) {dC : Nat → ClassId} {dI : Nat → Nat → Nat} {ad : Nat → Nat} {kc : Nat → ClassId} {fr gnS wS : Nat → Option Nat} {bd : Nat → Nat} {kd : Nat → ClassId} (hFX : FX ad fr gnS wS) (hK : va_K (dC, dI) vwCl (XT kc) s) (hK2 : va_K (dC, dI) vwCl (MT kd) s) {k : Nat} (hk : 6 * k + 6 ≤ L) {H : Heap} {locs : List Loc} {ls : Array Slot} (hW : LW (dC, dI) A s b ad kc fr gnS wS bd kd k H locs ls) (ih : ∀ (H : Heap) (locs : List Loc) (ls : Array Slot), LW (dC, dI) A s b ad kc fr gnS wS bd kd (k + 1) H locs ls → W p l e room_1 s m #[Value.ref b] below meth c H locs (70 + 9 * (k + 1)) (7203 + 400 * (k + 1)) (lw_Z below #[Value.ref b] s) (F0 m 18 ls [])) : W p l e room_1 s m #[Value.ref b] below meth c H locs (70 + 9 * k) (7203 + 400 * k) (lw_Z below #[Value.ref b] s) (F0 m 1093 ls []) := by
  obtain ⟨hx, hb, hr, hml, hown, hts, hX, hbl, hlocks, hgv⟩ := id C0
  have hown : s.vm.findClass RL = some m.cls := hown
  have hts := fun w (h : w ∈ wz_law) => hts w (wz_law_in w h)
  have hbA : ¬ A b := fun h => absurd (hA2 b h) (Nat.not_le.mpr hbl)
  obtain ⟨Wx, Wm, iv, fI, ja, hREL, hKR, hXI, hMN, hP, hD, hS, hl⟩ := hW
  refine lv_aload_n hx hb dL_law_1093 rfl (lv_at hl 2 rfl) ?_
  refine lv_aload_n hx hb dL_law_1094 rfl (lv_at hl 3 rfl) ?_
  refine lv_iload_n hx hb dL_law_1095 rfl (lv_at hl 0 rfl) ?_
  refine lv_iconst (v := 1) hx hb dL_law_1096 (by decide) ?_
  refine lv_iadd hx hb dL_law_1097 ?_
  refine lv_topi (fun z_1 ez_1 => ?_)
  obtain rfl : z_1 = nI ((6 * k) + 1) := ez_1.trans (nI_add ((6 * k)) 1)
  refine va_sld hx hb hX hbl hbA hS (vp_in_nI (by omega) (by omega)) dL_law_1098 ?_
  refine lv_topi (fun a_2 ea_2 => ?_)
  refine lv_aload_n hx hb dL_law_1099 rfl (lv_at hl 3 rfl) ?_
  refine lv_iload_n hx hb dL_law_1100 rfl (lv_at hl 0 rfl) ?_
  refine lv_iconst (v := 2) hx hb dL_law_1101 (by decide) ?_
  refine lv_iadd hx hb dL_law_1102 ?_
  refine lv_topi (fun z_3 ez_3 => ?_)
  obtain rfl : z_3 = nI ((6 * k) + 2) := ez_3.trans (nI_add ((6 * k)) 2)
  refine va_sld hx hb hX hbl hbA hS (vp_in_nI (by omega) (by omega)) dL_law_1103 ?_
  refine lv_topi (fun a_4 ea_4 => ?_)
  obtain ⟨lv, ia, la, ot, t0, t1, t2, hR, i0, i1, i2, rfl⟩ := hXI
  have hFx := free_of hD.left hS hA
  refine va_calli (va_runV (As := [.int a_2, .int a_4]) (rest := []) ⟨hx, hb, hml, hown, hts⟩ (Met_xi (kx_walk l dC dI H.size ad kc fr gnS wS iv lv ia la ot fI hFX hR a_2 a_4) i0 i1 i2 (EY := fun _ => True) (fun _ _ h => h)) (cwV 2 hts g_law_X6_walk rfl rfl rfl (by decide +kernel) ⟨Nat.le_of_ble_eq_true rfl, Nat.le_of_ble_eq_true rfl⟩) ⟨fun a U g mk q => by obtain ⟨q0, q1, qP, qK, qD, qE⟩ := q; exact ⟨q0, q1, qP, va_K.moved (u := U) (U := U.calling g mk a) (Vm.Alike.refl U.vm) qK, qD, trivial⟩, va_recv hK hP.left (ci := 6) (q0 := 0) rfl rfl, fun U hU hW => ⟨rfl, by rw [hU], by rw [hU]; exact hP.left, va_K.moved hW.alike hK, hD.left.weaken (fun _ _ _ _ => trivial), trivial⟩⟩ rfl rfl hl.1 rfl (lv_room (Nat.le_of_ble_eq_true rfl)) dL_law_1104 ⟨by show 70 + 9 * k + 0 + 0 ≤ 600000; omega, by show 7203 + 400 * k + 0 + 0 ≤ 7302250; omega⟩) hS (fun q _ h => hFx q h) hFx (fun r_5 V_7 t H1 locs ht hvm hw_6 hB hz1 hk1 hS => ?_)
  obtain ⟨hP, hD⟩ := va_joinA hP hD hk1 hFx (by rw [← ht]; exact hB.1) hB.2
  generalize H1 = H at hP hS ⊢
  obtain ⟨hp9, iv2, fI2, hch, hXJ⟩ := hw_6
  refine lv_pop hx hb dL_law_1107 rfl ?_
  refine lv_aload_n hx hb dL_law_1108 rfl (lv_at hl 1 rfl) ?_
  refine lv_aload_n hx hb dL_law_1109 rfl (lv_at hl 3 rfl) ?_
  refine lv_iload_n hx hb dL_law_1110 rfl (lv_at hl 0 rfl) ?_
  refine lv_iconst (v := 1) hx hb dL_law_1111 (by decide) ?_
  refine lv_iadd hx hb dL_law_1112 ?_
  refine lv_topi (fun z_8 ez_8 => ?_)
  obtain rfl : z_8 = nI ((6 * k) + 1) := ez_8.trans (nI_add ((6 * k)) 1)
  refine va_sld hx hb hX hbl hbA hS (vp_in_nI (by omega) (by omega)) dL_law_1113 ?_
  refine lv_topi (fun a_9 ea_9 => ?_)
  obtain rfl : a_2 = a_9 := ea_2.trans ea_9.symm
  refine lv_aload_n hx hb dL_law_1114 rfl (lv_at hl 3 rfl) ?_
  refine lv_iload_n hx hb dL_law_1115 rfl (lv_at hl 0 rfl) ?_
  refine lv_iconst (v := 2) hx hb dL_law_1116 (by decide) ?_
  refine lv_iadd hx hb dL_law_1117 ?_
  refine lv_topi (fun z_10 ez_10 => ?_)
  obtain rfl : z_10 = nI ((6 * k) + 2) := ez_10.trans (nI_add ((6 * k)) 2)
  refine va_sld hx hb hX hbl hbA hS (vp_in_nI (by omega) (by omega)) dL_law_1118 ?_
  refine lv_topi (fun a_11 ea_11 => ?_)
  obtain rfl : a_4 = a_11 := ea_4.trans ea_11.symm
  obtain ⟨jv, jl, jb, hR2, rfl⟩ := hMN
  obtain ⟨hP, hD⟩ := va_swap hP hD
  have hFx := free_of hD.left hS hA
  refine va_calli (va_runV (As := [.int a_2, .int a_4]) (rest := []) ⟨hx, hb, hml, hown, hts⟩ (km_walk l dC dI H.size bd kd jv jl ja jb hR2 a_2 a_4) (cwV 2 hts g_law_X7_walk rfl rfl rfl (by decide +kernel) ⟨Nat.le_of_ble_eq_true rfl, Nat.le_of_ble_eq_true rfl⟩) ⟨fun a U g mk q => by obtain ⟨q0, q1, qP, qK, qD, qE⟩ := q; exact ⟨q0, q1, qP, va_K.moved (u := U) (U := U.calling g mk a) (Vm.Alike.refl U.vm) qK, qD, trivial⟩, va_recv hK2 hP.left (ci := 7) (q0 := 0) rfl rfl, fun U hU hW => ⟨rfl, by rw [hU], by rw [hU]; exact hP.left, va_K.moved hW.alike hK2, hD.left.weaken (fun _ _ _ _ => trivial), trivial⟩⟩ rfl rfl hl.1 rfl (lv_room (Nat.le_of_ble_eq_true rfl)) dL_law_1119 ⟨by show 70 + 9 * k + 0 + 0 ≤ 600000; omega, by show 7203 + 400 * k + 0 + 0 ≤ 7302250; omega⟩) hS (fun q _ h => hFx q h) hFx (fun r_12 V_14 t H1 locs ht hvm hw_13 hB hz1 hk1 hS => ?_)
  obtain ⟨hP, hD⟩ := va_joinA hP hD hk1 hFx (by rw [← ht]; exact hB.1) hB.2
  generalize H1 = H at hP hS ⊢
  obtain ⟨hP, hD⟩ := va_swap hP hD
  obtain ⟨hq9, jv2, jl2, ja2, jb2, hcm, hMR, rfl⟩ := hw_13
  refine lv_pop hx hb dL_law_1122 rfl ?_
  refine lv_goto (tgt := 1569) hx hb dL_law_1123 (by decide) ?_
  refine lv_iinc (v := nI (6 * (k + 1))) (lv' := [(3, .int (nI (6 * (k + 1)))), (2, .ref (bd 0)), (1, .ref (ad 0)), (0, .ref b)]) hx hb dL_law_1569 hl (k := 0) rfl (show nI (6 * k) + nI 6 = nI (6 * (k + 1)) from nI_add (6 * k) 6) (by decide) rfl (fun ls hl => ?_)
  refine lv_goto (tgt := 18) hx hb dL_law_1572 (by decide) ?_
  refine W.widen (k := 70 + 9 * (k + 1)) (n := 7203 + 400 * (k + 1)) (by omega) (by omega) ?_
  exact ih _ _ _ ⟨V_7, _, iv2, fI2, ja2, hREL.same hch.1 hcm.1 hcm.2.1, hKR.same hch.2 hcm.2.2, hXJ, ⟨jv2, jl2, jb2, hMR, rfl⟩, hP, hD, hS, lv_sub hl [0, 1, 2, 3] rfl⟩

set_option maxHeartbeats 4000000 in
set_option maxRecDepth 100000 in
/-- the law, its call 32: ends -/
theorem lc_32 {p : Program} {e : Env} {s : State} {m : MethodId} {below : List Frame} {meth : Method} {c : Code} (l : Launch) {b L : Nat} {xs : Nat → Int32} (hL : L ≤ 3072) (C0 : lw_At p s m meth c b L xs) {A : Nat → Prop} (hA : ∀ q, s.heap.size ≤ q → A q) (hA2 : ∀ q, A q → s.heap.size ≤ q) (hE0 : Kx s) {sa sv sn : Nat → Nat} (hE9 : sx sa sv sn A s) {dC : Nat → ClassId} {dI : Nat → Nat → Nat} {ad : Nat → Nat} {kc : Nat → ClassId} {fr gnS wS : Nat → Option Nat} {bd : Nat → Nat} {kd : Nat → ClassId} (hFX : FX ad fr gnS wS) (hK : va_K (dC, dI) vwCl (XT kc) s) (hK2 : va_K (dC, dI) vwCl (MT kd) s) {k : Nat} (hk : 6 * k + 6 ≤ L) {H : Heap} {locs : List Loc} {ls : Array Slot} (hW : LW (dC, dI) A s b ad kc fr gnS wS bd kd k H locs ls) (ih : ∀ (H : Heap) (locs : List Loc) (ls : Array Slot), LW (dC, dI) A s b ad kc fr gnS wS bd kd (k + 1) H locs ls → W p l e room_1 s m #[Value.ref b] below meth c H locs (70 + 9 * (k + 1)) (7203 + 400 * (k + 1)) (lw_Z below #[Value.ref b] s) (F0 m 18 ls [])) : W p l e room_1 s m #[Value.ref b] below meth c H locs (70 + 9 * k) (7203 + 400 * k) (lw_Z below #[Value.ref b] s) (F0 m 1126 ls []) := by
  obtain ⟨hx, hb, hr, hml, hown, hts, hX, hbl, hlocks, hgv⟩ := id C0
  have hown : s.vm.findClass RL = some m.cls := hown
  have hts := fun w (h : w ∈ wz_law) => hts w (wz_law_in w h)
  have hbA : ¬ A b := fun h => absurd (hA2 b h) (Nat.not_le.mpr hbl)
  obtain ⟨Wx, Wm, iv, fI, ja, hREL, hKR, hXI, hMN, hP, hD, hS, hl⟩ := hW
  refine lv_aload_n hx hb dL_law_1126 rfl (lv_at hl 2 rfl) ?_
  refine lv_aload_n hx hb dL_law_1127 rfl (lv_at hl 3 rfl) ?_
  refine lv_iload_n hx hb dL_law_1128 rfl (lv_at hl 0 rfl) ?_
  refine lv_iconst (v := 1) hx hb dL_law_1129 (by decide) ?_
  refine lv_iadd hx hb dL_law_1130 ?_
  refine lv_topi (fun z_1 ez_1 => ?_)
  obtain rfl : z_1 = nI ((6 * k) + 1) := ez_1.trans (nI_add ((6 * k)) 1)
  refine va_sld hx hb hX hbl hbA hS (vp_in_nI (by omega) (by omega)) dL_law_1131 ?_
  refine lv_topi (fun a_2 ea_2 => ?_)
  refine lv_aload_n hx hb dL_law_1132 rfl (lv_at hl 3 rfl) ?_
  refine lv_iload_n hx hb dL_law_1133 rfl (lv_at hl 0 rfl) ?_
  refine lv_iconst (v := 2) hx hb dL_law_1134 (by decide) ?_
  refine lv_iadd hx hb dL_law_1135 ?_
  refine lv_topi (fun z_3 ez_3 => ?_)
  obtain rfl : z_3 = nI ((6 * k) + 2) := ez_3.trans (nI_add ((6 * k)) 2)
  refine va_sld hx hb hX hbl hbA hS (vp_in_nI (by omega) (by omega)) dL_law_1136 ?_
  refine lv_topi (fun a_4 ea_4 => ?_)
  obtain ⟨lv, ia, la, ot, t0, t1, t2, hR, i0, i1, i2, rfl⟩ := hXI
  have hFx := free_of hD.left hS hA
  refine va_calli (va_runV (As := [.int a_2, .int a_4]) (rest := []) ⟨hx, hb, hml, hown, hts⟩ (Met_xi (kx_ends l dC dI H.size ad kc fr gnS wS iv lv ia la ot fI hFX hR a_2 a_4) i0 i1 i2 (EY := fun _ => True) (fun _ _ h => h)) (cwV 2 hts g_law_X6_ends rfl rfl rfl (by decide +kernel) ⟨Nat.le_of_ble_eq_true rfl, Nat.le_of_ble_eq_true rfl⟩) ⟨fun a U g mk q => by obtain ⟨q0, q1, qP, qK, qD, qE⟩ := q; exact ⟨q0, q1, qP, va_K.moved (u := U) (U := U.calling g mk a) (Vm.Alike.refl U.vm) qK, qD, trivial⟩, va_recv hK hP.left (ci := 6) (q0 := 0) rfl rfl, fun U hU hW => ⟨rfl, by rw [hU], by rw [hU]; exact hP.left, va_K.moved hW.alike hK, hD.left.weaken (fun _ _ _ _ => trivial), trivial⟩⟩ rfl rfl hl.1 rfl (lv_room (Nat.le_of_ble_eq_true rfl)) dL_law_1137 ⟨by show 70 + 9 * k + 0 + 0 ≤ 600000; omega, by show 7203 + 400 * k + 0 + 0 ≤ 7302250; omega⟩) hS (fun q _ h => hFx q h) hFx (fun r_5 V_7 t H1 locs ht hvm hw_6 hB hz1 hk1 hS => ?_)
  obtain ⟨hP, hD⟩ := va_joinA hP hD hk1 hFx (by rw [← ht]; exact hB.1) hB.2
  generalize H1 = H at hP hS ⊢
  obtain ⟨hp9, iv2, fI2, hch, hXJ⟩ := hw_6
  refine lv_pop hx hb dL_law_1140 rfl ?_
  refine lv_aload_n hx hb dL_law_1141 rfl (lv_at hl 1 rfl) ?_
  refine lv_aload_n hx hb dL_law_1142 rfl (lv_at hl 3 rfl) ?_
  refine lv_iload_n hx hb dL_law_1143 rfl (lv_at hl 0 rfl) ?_
  refine lv_iconst (v := 1) hx hb dL_law_1144 (by decide) ?_
  refine lv_iadd hx hb dL_law_1145 ?_
  refine lv_topi (fun z_8 ez_8 => ?_)
  obtain rfl : z_8 = nI ((6 * k) + 1) := ez_8.trans (nI_add ((6 * k)) 1)
  refine va_sld hx hb hX hbl hbA hS (vp_in_nI (by omega) (by omega)) dL_law_1146 ?_
  refine lv_topi (fun a_9 ea_9 => ?_)
  obtain rfl : a_2 = a_9 := ea_2.trans ea_9.symm
  refine lv_aload_n hx hb dL_law_1147 rfl (lv_at hl 3 rfl) ?_
  refine lv_iload_n hx hb dL_law_1148 rfl (lv_at hl 0 rfl) ?_
  refine lv_iconst (v := 2) hx hb dL_law_1149 (by decide) ?_
  refine lv_iadd hx hb dL_law_1150 ?_
  refine lv_topi (fun z_10 ez_10 => ?_)
  obtain rfl : z_10 = nI ((6 * k) + 2) := ez_10.trans (nI_add ((6 * k)) 2)
  refine va_sld hx hb hX hbl hbA hS (vp_in_nI (by omega) (by omega)) dL_law_1151 ?_
  refine lv_topi (fun a_11 ea_11 => ?_)
  obtain rfl : a_4 = a_11 := ea_4.trans ea_11.symm
  obtain ⟨jv, jl, jb, hR2, rfl⟩ := hMN
  obtain ⟨hP, hD⟩ := va_swap hP hD
  have hFx := free_of hD.left hS hA
  refine va_calli (va_runV (As := [.int a_2, .int a_4]) (rest := []) ⟨hx, hb, hml, hown, hts⟩ (km_ends l dC dI H.size bd kd jv jl ja jb hR2 a_2 a_4) (cwV 2 hts g_law_X7_ends_ rfl rfl rfl (by decide +kernel) ⟨Nat.le_of_ble_eq_true rfl, Nat.le_of_ble_eq_true rfl⟩) ⟨fun a U g mk q => by obtain ⟨q0, q1, qP, qK, qD, qE⟩ := q; exact ⟨q0, q1, qP, va_K.moved (u := U) (U := U.calling g mk a) (Vm.Alike.refl U.vm) qK, qD, trivial⟩, va_recv hK2 hP.left (ci := 7) (q0 := 0) rfl rfl, fun U hU hW => ⟨rfl, by rw [hU], by rw [hU]; exact hP.left, va_K.moved hW.alike hK2, hD.left.weaken (fun _ _ _ _ => trivial), trivial⟩⟩ rfl rfl hl.1 rfl (lv_room (Nat.le_of_ble_eq_true rfl)) dL_law_1152 ⟨by show 70 + 9 * k + 0 + 0 ≤ 600000; omega, by show 7203 + 400 * k + 0 + 0 ≤ 7302250; omega⟩) hS (fun q _ h => hFx q h) hFx (fun r_12 V_14 t H1 locs ht hvm hw_13 hB hz1 hk1 hS => ?_)
  obtain ⟨hP, hD⟩ := va_joinA hP hD hk1 hFx (by rw [← ht]; exact hB.1) hB.2
  generalize H1 = H at hP hS ⊢
  obtain ⟨hP, hD⟩ := va_swap hP hD
  obtain ⟨hq9, jv2, jl2, ja2, jb2, hcm, hMR, rfl⟩ := hw_13
  refine lv_pop hx hb dL_law_1155 rfl ?_
  refine lv_goto (tgt := 1569) hx hb dL_law_1156 (by decide) ?_
  refine lv_iinc (v := nI (6 * (k + 1))) (lv' := [(3, .int (nI (6 * (k + 1)))), (2, .ref (bd 0)), (1, .ref (ad 0)), (0, .ref b)]) hx hb dL_law_1569 hl (k := 0) rfl (show nI (6 * k) + nI 6 = nI (6 * (k + 1)) from nI_add (6 * k) 6) (by decide) rfl (fun ls hl => ?_)
  refine lv_goto (tgt := 18) hx hb dL_law_1572 (by decide) ?_
  refine W.widen (k := 70 + 9 * (k + 1)) (n := 7203 + 400 * (k + 1)) (by omega) (by omega) ?_
  exact ih _ _ _ ⟨V_7, _, iv2, fI2, ja2, hREL.same hch.1 hcm.1 hcm.2.1, hKR.same hch.2 hcm.2.2, hXJ, ⟨jv2, jl2, jb2, hMR, rfl⟩, hP, hD, hS, lv_sub hl [0, 1, 2, 3] rfl⟩

set_option maxHeartbeats 4000000 in
set_option maxRecDepth 100000 in
/-- the law, its call 33: odd -/
theorem lc_33 {p : Program} {e : Env} {s : State} {m : MethodId} {below : List Frame} {meth : Method} {c : Code} (l : Launch) {b L : Nat} {xs : Nat → Int32} (hL : L ≤ 3072) (C0 : lw_At p s m meth c b L xs) {A : Nat → Prop} (hA : ∀ q, s.heap.size ≤ q → A q) (hA2 : ∀ q, A q → s.heap.size ≤ q) (hE0 : Kx s) {sa sv sn : Nat → Nat} (hE9 : sx sa sv sn A s) {dC : Nat → ClassId} {dI : Nat → Nat → Nat} {ad : Nat → Nat} {kc : Nat → ClassId} {fr gnS wS : Nat → Option Nat} {bd : Nat → Nat} {kd : Nat → ClassId} (hFX : FX ad fr gnS wS) (hK : va_K (dC, dI) vwCl (XT kc) s) (hK2 : va_K (dC, dI) vwCl (MT kd) s) {k : Nat} (hk : 6 * k + 6 ≤ L) {H : Heap} {locs : List Loc} {ls : Array Slot} (hW : LW (dC, dI) A s b ad kc fr gnS wS bd kd k H locs ls) (ih : ∀ (H : Heap) (locs : List Loc) (ls : Array Slot), LW (dC, dI) A s b ad kc fr gnS wS bd kd (k + 1) H locs ls → W p l e room_1 s m #[Value.ref b] below meth c H locs (70 + 9 * (k + 1)) (7203 + 400 * (k + 1)) (lw_Z below #[Value.ref b] s) (F0 m 18 ls [])) : W p l e room_1 s m #[Value.ref b] below meth c H locs (70 + 9 * k) (7203 + 400 * k) (lw_Z below #[Value.ref b] s) (F0 m 1159 ls []) := by
  obtain ⟨hx, hb, hr, hml, hown, hts, hX, hbl, hlocks, hgv⟩ := id C0
  have hown : s.vm.findClass RL = some m.cls := hown
  have hts := fun w (h : w ∈ wz_law) => hts w (wz_law_in w h)
  have hbA : ¬ A b := fun h => absurd (hA2 b h) (Nat.not_le.mpr hbl)
  obtain ⟨Wx, Wm, iv, fI, ja, hREL, hKR, hXI, hMN, hP, hD, hS, hl⟩ := hW
  refine lv_aload_n hx hb dL_law_1159 rfl (lv_at hl 2 rfl) ?_
  refine lv_aload_n hx hb dL_law_1160 rfl (lv_at hl 3 rfl) ?_
  refine lv_iload_n hx hb dL_law_1161 rfl (lv_at hl 0 rfl) ?_
  refine lv_iconst (v := 1) hx hb dL_law_1162 (by decide) ?_
  refine lv_iadd hx hb dL_law_1163 ?_
  refine lv_topi (fun z_1 ez_1 => ?_)
  obtain rfl : z_1 = nI ((6 * k) + 1) := ez_1.trans (nI_add ((6 * k)) 1)
  refine va_sld hx hb hX hbl hbA hS (vp_in_nI (by omega) (by omega)) dL_law_1164 ?_
  refine lv_topi (fun a_2 ea_2 => ?_)
  refine lv_aload_n hx hb dL_law_1165 rfl (lv_at hl 3 rfl) ?_
  refine lv_iload_n hx hb dL_law_1166 rfl (lv_at hl 0 rfl) ?_
  refine lv_iconst (v := 2) hx hb dL_law_1167 (by decide) ?_
  refine lv_iadd hx hb dL_law_1168 ?_
  refine lv_topi (fun z_3 ez_3 => ?_)
  obtain rfl : z_3 = nI ((6 * k) + 2) := ez_3.trans (nI_add ((6 * k)) 2)
  refine va_sld hx hb hX hbl hbA hS (vp_in_nI (by omega) (by omega)) dL_law_1169 ?_
  refine lv_topi (fun a_4 ea_4 => ?_)
  refine lv_aload_n hx hb dL_law_1170 rfl (lv_at hl 3 rfl) ?_
  refine lv_iload_n hx hb dL_law_1171 rfl (lv_at hl 0 rfl) ?_
  refine lv_iconst (v := 3) hx hb dL_law_1172 (by decide) ?_
  refine lv_iadd hx hb dL_law_1173 ?_
  refine lv_topi (fun z_5 ez_5 => ?_)
  obtain rfl : z_5 = nI ((6 * k) + 3) := ez_5.trans (nI_add ((6 * k)) 3)
  refine va_sld hx hb hX hbl hbA hS (vp_in_nI (by omega) (by omega)) dL_law_1174 ?_
  refine lv_topi (fun a_6 ea_6 => ?_)
  refine lv_aload_n hx hb dL_law_1175 rfl (lv_at hl 3 rfl) ?_
  refine lv_iload_n hx hb dL_law_1176 rfl (lv_at hl 0 rfl) ?_
  refine lv_iconst (v := 4) hx hb dL_law_1177 (by decide) ?_
  refine lv_iadd hx hb dL_law_1178 ?_
  refine lv_topi (fun z_7 ez_7 => ?_)
  obtain rfl : z_7 = nI ((6 * k) + 4) := ez_7.trans (nI_add ((6 * k)) 4)
  refine va_sld hx hb hX hbl hbA hS (vp_in_nI (by omega) (by omega)) dL_law_1179 ?_
  refine lv_topi (fun a_8 ea_8 => ?_)
  refine lv_aload_n hx hb dL_law_1180 rfl (lv_at hl 3 rfl) ?_
  refine lv_iload_n hx hb dL_law_1181 rfl (lv_at hl 0 rfl) ?_
  refine lv_iconst (v := 5) hx hb dL_law_1182 (by decide) ?_
  refine lv_iadd hx hb dL_law_1183 ?_
  refine lv_topi (fun z_9 ez_9 => ?_)
  obtain rfl : z_9 = nI ((6 * k) + 5) := ez_9.trans (nI_add ((6 * k)) 5)
  refine va_sld hx hb hX hbl hbA hS (vp_in_nI (by omega) (by omega)) dL_law_1184 ?_
  refine lv_topi (fun a_10 ea_10 => ?_)
  obtain ⟨lv, ia, la, ot, t0, t1, t2, hR, i0, i1, i2, rfl⟩ := hXI
  have hFx := free_of hD.left hS hA
  refine va_calli (va_runV (As := [.int a_2, .int a_4, .int a_6, .int a_8, .int a_10]) (rest := []) ⟨hx, hb, hml, hown, hts⟩ (Met_xi (kx_odd l dC dI H.size ad kc fr gnS wS iv lv ia la ot fI hFX hR a_2 a_4 a_6 a_8 a_10) i0 i1 i2 (EY := fun _ => True) (fun _ _ h => h)) (cwV 5 hts g_law_X6_odd rfl rfl rfl (by decide +kernel) ⟨Nat.le_of_ble_eq_true rfl, Nat.le_of_ble_eq_true rfl⟩) ⟨fun a U g mk q => by obtain ⟨q0, q1, qP, qK, qD, qE⟩ := q; exact ⟨q0, q1, qP, va_K.moved (u := U) (U := U.calling g mk a) (Vm.Alike.refl U.vm) qK, qD, trivial⟩, va_recv hK hP.left (ci := 6) (q0 := 0) rfl rfl, fun U hU hW => ⟨rfl, by rw [hU], by rw [hU]; exact hP.left, va_K.moved hW.alike hK, hD.left.weaken (fun _ _ _ _ => trivial), trivial⟩⟩ rfl rfl hl.1 rfl (lv_room (Nat.le_of_ble_eq_true rfl)) dL_law_1185 ⟨by show 70 + 9 * k + 0 + 0 ≤ 600000; omega, by show 7203 + 400 * k + 0 + 0 ≤ 7302250; omega⟩) hS (fun q _ h => hFx q h) hFx (fun r_11 V_13 t H1 locs ht hvm hw_12 hB hz1 hk1 hS => ?_)
  obtain ⟨hP, hD⟩ := va_joinA hP hD hk1 hFx (by rw [← ht]; exact hB.1) hB.2
  generalize H1 = H at hP hS ⊢
  obtain ⟨hp9, iv2, fI2, hch, hXJ⟩ := hw_12
  refine lv_pop hx hb dL_law_1188 rfl ?_
  refine lv_aload_n hx hb dL_law_1189 rfl (lv_at hl 1 rfl) ?_
  refine lv_aload_n hx hb dL_law_1190 rfl (lv_at hl 3 rfl) ?_
  refine lv_iload_n hx hb dL_law_1191 rfl (lv_at hl 0 rfl) ?_
  refine lv_iconst (v := 1) hx hb dL_law_1192 (by decide) ?_
  refine lv_iadd hx hb dL_law_1193 ?_
  refine lv_topi (fun z_14 ez_14 => ?_)
  obtain rfl : z_14 = nI ((6 * k) + 1) := ez_14.trans (nI_add ((6 * k)) 1)
  refine va_sld hx hb hX hbl hbA hS (vp_in_nI (by omega) (by omega)) dL_law_1194 ?_
  refine lv_topi (fun a_15 ea_15 => ?_)
  obtain rfl : a_2 = a_15 := ea_2.trans ea_15.symm
  refine lv_aload_n hx hb dL_law_1195 rfl (lv_at hl 3 rfl) ?_
  refine lv_iload_n hx hb dL_law_1196 rfl (lv_at hl 0 rfl) ?_
  refine lv_iconst (v := 2) hx hb dL_law_1197 (by decide) ?_
  refine lv_iadd hx hb dL_law_1198 ?_
  refine lv_topi (fun z_16 ez_16 => ?_)
  obtain rfl : z_16 = nI ((6 * k) + 2) := ez_16.trans (nI_add ((6 * k)) 2)
  refine va_sld hx hb hX hbl hbA hS (vp_in_nI (by omega) (by omega)) dL_law_1199 ?_
  refine lv_topi (fun a_17 ea_17 => ?_)
  obtain rfl : a_4 = a_17 := ea_4.trans ea_17.symm
  refine lv_aload_n hx hb dL_law_1200 rfl (lv_at hl 3 rfl) ?_
  refine lv_iload_n hx hb dL_law_1201 rfl (lv_at hl 0 rfl) ?_
  refine lv_iconst (v := 3) hx hb dL_law_1202 (by decide) ?_
  refine lv_iadd hx hb dL_law_1203 ?_
  refine lv_topi (fun z_18 ez_18 => ?_)
  obtain rfl : z_18 = nI ((6 * k) + 3) := ez_18.trans (nI_add ((6 * k)) 3)
  refine va_sld hx hb hX hbl hbA hS (vp_in_nI (by omega) (by omega)) dL_law_1204 ?_
  refine lv_topi (fun a_19 ea_19 => ?_)
  obtain rfl : a_6 = a_19 := ea_6.trans ea_19.symm
  refine lv_aload_n hx hb dL_law_1205 rfl (lv_at hl 3 rfl) ?_
  refine lv_iload_n hx hb dL_law_1206 rfl (lv_at hl 0 rfl) ?_
  refine lv_iconst (v := 4) hx hb dL_law_1207 (by decide) ?_
  refine lv_iadd hx hb dL_law_1208 ?_
  refine lv_topi (fun z_20 ez_20 => ?_)
  obtain rfl : z_20 = nI ((6 * k) + 4) := ez_20.trans (nI_add ((6 * k)) 4)
  refine va_sld hx hb hX hbl hbA hS (vp_in_nI (by omega) (by omega)) dL_law_1209 ?_
  refine lv_topi (fun a_21 ea_21 => ?_)
  obtain rfl : a_8 = a_21 := ea_8.trans ea_21.symm
  refine lv_aload_n hx hb dL_law_1210 rfl (lv_at hl 3 rfl) ?_
  refine lv_iload_n hx hb dL_law_1211 rfl (lv_at hl 0 rfl) ?_
  refine lv_iconst (v := 5) hx hb dL_law_1212 (by decide) ?_
  refine lv_iadd hx hb dL_law_1213 ?_
  refine lv_topi (fun z_22 ez_22 => ?_)
  obtain rfl : z_22 = nI ((6 * k) + 5) := ez_22.trans (nI_add ((6 * k)) 5)
  refine va_sld hx hb hX hbl hbA hS (vp_in_nI (by omega) (by omega)) dL_law_1214 ?_
  refine lv_topi (fun a_23 ea_23 => ?_)
  obtain rfl : a_10 = a_23 := ea_10.trans ea_23.symm
  obtain ⟨jv, jl, jb, hR2, rfl⟩ := hMN
  obtain ⟨hP, hD⟩ := va_swap hP hD
  have hFx := free_of hD.left hS hA
  refine va_calli (va_runV (As := [.int a_2, .int a_4, .int a_6, .int a_8, .int a_10]) (rest := []) ⟨hx, hb, hml, hown, hts⟩ (km_odd l dC dI H.size bd kd jv jl ja jb hR2 a_2 a_4 a_6 a_8 a_10) (cwV 5 hts g_law_X7_odd rfl rfl rfl (by decide +kernel) ⟨Nat.le_of_ble_eq_true rfl, Nat.le_of_ble_eq_true rfl⟩) ⟨fun a U g mk q => by obtain ⟨q0, q1, qP, qK, qD, qE⟩ := q; exact ⟨q0, q1, qP, va_K.moved (u := U) (U := U.calling g mk a) (Vm.Alike.refl U.vm) qK, qD, trivial⟩, va_recv hK2 hP.left (ci := 7) (q0 := 0) rfl rfl, fun U hU hW => ⟨rfl, by rw [hU], by rw [hU]; exact hP.left, va_K.moved hW.alike hK2, hD.left.weaken (fun _ _ _ _ => trivial), trivial⟩⟩ rfl rfl hl.1 rfl (lv_room (Nat.le_of_ble_eq_true rfl)) dL_law_1215 ⟨by show 70 + 9 * k + 0 + 0 ≤ 600000; omega, by show 7203 + 400 * k + 0 + 0 ≤ 7302250; omega⟩) hS (fun q _ h => hFx q h) hFx (fun r_24 V_26 t H1 locs ht hvm hw_25 hB hz1 hk1 hS => ?_)
  obtain ⟨hP, hD⟩ := va_joinA hP hD hk1 hFx (by rw [← ht]; exact hB.1) hB.2
  generalize H1 = H at hP hS ⊢
  obtain ⟨hP, hD⟩ := va_swap hP hD
  obtain ⟨hq9, jv2, jl2, ja2, jb2, hcm, hMR, rfl⟩ := hw_25
  refine lv_pop hx hb dL_law_1218 rfl ?_
  refine lv_goto (tgt := 1569) hx hb dL_law_1219 (by decide) ?_
  refine lv_iinc (v := nI (6 * (k + 1))) (lv' := [(3, .int (nI (6 * (k + 1)))), (2, .ref (bd 0)), (1, .ref (ad 0)), (0, .ref b)]) hx hb dL_law_1569 hl (k := 0) rfl (show nI (6 * k) + nI 6 = nI (6 * (k + 1)) from nI_add (6 * k) 6) (by decide) rfl (fun ls hl => ?_)
  refine lv_goto (tgt := 18) hx hb dL_law_1572 (by decide) ?_
  refine W.widen (k := 70 + 9 * (k + 1)) (n := 7203 + 400 * (k + 1)) (by omega) (by omega) ?_
  exact ih _ _ _ ⟨V_13, _, iv2, fI2, ja2, hREL.same hch.1 hcm.1 hcm.2.1, hKR.same hch.2 hcm.2.2, hXJ, ⟨jv2, jl2, jb2, hMR, rfl⟩, hP, hD, hS, lv_sub hl [0, 1, 2, 3] rfl⟩

set_option maxHeartbeats 4000000 in
set_option maxRecDepth 100000 in
/-- the law, its call 34: openings -/
theorem lc_34 {p : Program} {e : Env} {s : State} {m : MethodId} {below : List Frame} {meth : Method} {c : Code} (l : Launch) {b L : Nat} {xs : Nat → Int32} (hL : L ≤ 3072) (C0 : lw_At p s m meth c b L xs) {A : Nat → Prop} (hA : ∀ q, s.heap.size ≤ q → A q) (hA2 : ∀ q, A q → s.heap.size ≤ q) (hE0 : Kx s) {sa sv sn : Nat → Nat} (hE9 : sx sa sv sn A s) {dC : Nat → ClassId} {dI : Nat → Nat → Nat} {ad : Nat → Nat} {kc : Nat → ClassId} {fr gnS wS : Nat → Option Nat} {bd : Nat → Nat} {kd : Nat → ClassId} (hFX : FX ad fr gnS wS) (hK : va_K (dC, dI) vwCl (XT kc) s) (hK2 : va_K (dC, dI) vwCl (MT kd) s) {k : Nat} (hk : 6 * k + 6 ≤ L) {H : Heap} {locs : List Loc} {ls : Array Slot} (hW : LW (dC, dI) A s b ad kc fr gnS wS bd kd k H locs ls) (ih : ∀ (H : Heap) (locs : List Loc) (ls : Array Slot), LW (dC, dI) A s b ad kc fr gnS wS bd kd (k + 1) H locs ls → W p l e room_1 s m #[Value.ref b] below meth c H locs (70 + 9 * (k + 1)) (7203 + 400 * (k + 1)) (lw_Z below #[Value.ref b] s) (F0 m 18 ls [])) : W p l e room_1 s m #[Value.ref b] below meth c H locs (70 + 9 * k) (7203 + 400 * k) (lw_Z below #[Value.ref b] s) (F0 m 1222 ls []) := by
  obtain ⟨hx, hb, hr, hml, hown, hts, hX, hbl, hlocks, hgv⟩ := id C0
  have hown : s.vm.findClass RL = some m.cls := hown
  have hts := fun w (h : w ∈ wz_law) => hts w (wz_law_in w h)
  have hbA : ¬ A b := fun h => absurd (hA2 b h) (Nat.not_le.mpr hbl)
  obtain ⟨Wx, Wm, iv, fI, ja, hREL, hKR, hXI, hMN, hP, hD, hS, hl⟩ := hW
  refine lv_aload_n hx hb dL_law_1222 rfl (lv_at hl 2 rfl) ?_
  refine lv_aload_n hx hb dL_law_1223 rfl (lv_at hl 3 rfl) ?_
  refine lv_iload_n hx hb dL_law_1224 rfl (lv_at hl 0 rfl) ?_
  refine lv_iconst (v := 1) hx hb dL_law_1225 (by decide) ?_
  refine lv_iadd hx hb dL_law_1226 ?_
  refine lv_topi (fun z_1 ez_1 => ?_)
  obtain rfl : z_1 = nI ((6 * k) + 1) := ez_1.trans (nI_add ((6 * k)) 1)
  refine va_sld hx hb hX hbl hbA hS (vp_in_nI (by omega) (by omega)) dL_law_1227 ?_
  refine lv_topi (fun a_2 ea_2 => ?_)
  obtain ⟨lv, ia, la, ot, t0, t1, t2, hR, i0, i1, i2, rfl⟩ := hXI
  have hFx := free_of hD.left hS hA
  refine va_calli (va_runV (As := [.int a_2]) (rest := []) ⟨hx, hb, hml, hown, hts⟩ (Met_xi (kx_openings l dC dI H.size ad kc fr gnS wS iv lv ia la ot fI hFX hR a_2) i0 i1 i2 (EY := fun _ => True) (fun _ _ h => h)) (cwV 1 hts g_law_X6_openings rfl rfl rfl (by decide +kernel) ⟨Nat.le_of_ble_eq_true rfl, Nat.le_of_ble_eq_true rfl⟩) ⟨fun a U g mk q => by obtain ⟨q0, q1, qP, qK, qD, qE⟩ := q; exact ⟨q0, q1, qP, va_K.moved (u := U) (U := U.calling g mk a) (Vm.Alike.refl U.vm) qK, qD, trivial⟩, va_recv hK hP.left (ci := 6) (q0 := 0) rfl rfl, fun U hU hW => ⟨rfl, by rw [hU], by rw [hU]; exact hP.left, va_K.moved hW.alike hK, hD.left.weaken (fun _ _ _ _ => trivial), trivial⟩⟩ rfl rfl hl.1 rfl (lv_room (Nat.le_of_ble_eq_true rfl)) dL_law_1228 ⟨by show 70 + 9 * k + 0 + 0 ≤ 600000; omega, by show 7203 + 400 * k + 0 + 0 ≤ 7302250; omega⟩) hS (fun q _ h => hFx q h) hFx (fun r_3 V_5 t H1 locs ht hvm hw_4 hB hz1 hk1 hS => ?_)
  obtain ⟨hP, hD⟩ := va_joinA hP hD hk1 hFx (by rw [← ht]; exact hB.1) hB.2
  generalize H1 = H at hP hS ⊢
  obtain ⟨hp9, iv2, fI2, hch, hXJ⟩ := hw_4
  refine lv_pop hx hb dL_law_1231 rfl ?_
  refine lv_aload_n hx hb dL_law_1232 rfl (lv_at hl 1 rfl) ?_
  refine lv_aload_n hx hb dL_law_1233 rfl (lv_at hl 3 rfl) ?_
  refine lv_iload_n hx hb dL_law_1234 rfl (lv_at hl 0 rfl) ?_
  refine lv_iconst (v := 1) hx hb dL_law_1235 (by decide) ?_
  refine lv_iadd hx hb dL_law_1236 ?_
  refine lv_topi (fun z_6 ez_6 => ?_)
  obtain rfl : z_6 = nI ((6 * k) + 1) := ez_6.trans (nI_add ((6 * k)) 1)
  refine va_sld hx hb hX hbl hbA hS (vp_in_nI (by omega) (by omega)) dL_law_1237 ?_
  refine lv_topi (fun a_7 ea_7 => ?_)
  obtain rfl : a_2 = a_7 := ea_2.trans ea_7.symm
  obtain ⟨jv, jl, jb, hR2, rfl⟩ := hMN
  obtain ⟨hP, hD⟩ := va_swap hP hD
  have hFx := free_of hD.left hS hA
  refine va_calli (va_runV (As := [.int a_2]) (rest := []) ⟨hx, hb, hml, hown, hts⟩ (km_openings l dC dI H.size bd kd jv jl ja jb hR2 a_2) (cwV 1 hts g_law_X7_openings rfl rfl rfl (by decide +kernel) ⟨Nat.le_of_ble_eq_true rfl, Nat.le_of_ble_eq_true rfl⟩) ⟨fun a U g mk q => by obtain ⟨q0, q1, qP, qK, qD, qE⟩ := q; exact ⟨q0, q1, qP, va_K.moved (u := U) (U := U.calling g mk a) (Vm.Alike.refl U.vm) qK, qD, trivial⟩, va_recv hK2 hP.left (ci := 7) (q0 := 0) rfl rfl, fun U hU hW => ⟨rfl, by rw [hU], by rw [hU]; exact hP.left, va_K.moved hW.alike hK2, hD.left.weaken (fun _ _ _ _ => trivial), trivial⟩⟩ rfl rfl hl.1 rfl (lv_room (Nat.le_of_ble_eq_true rfl)) dL_law_1238 ⟨by show 70 + 9 * k + 0 + 0 ≤ 600000; omega, by show 7203 + 400 * k + 0 + 0 ≤ 7302250; omega⟩) hS (fun q _ h => hFx q h) hFx (fun r_8 V_10 t H1 locs ht hvm hw_9 hB hz1 hk1 hS => ?_)
  obtain ⟨hP, hD⟩ := va_joinA hP hD hk1 hFx (by rw [← ht]; exact hB.1) hB.2
  generalize H1 = H at hP hS ⊢
  obtain ⟨hP, hD⟩ := va_swap hP hD
  obtain ⟨hq9, jv2, jl2, ja2, jb2, hcm, hMR, rfl⟩ := hw_9
  refine lv_pop hx hb dL_law_1241 rfl ?_
  refine lv_goto (tgt := 1569) hx hb dL_law_1242 (by decide) ?_
  refine lv_iinc (v := nI (6 * (k + 1))) (lv' := [(3, .int (nI (6 * (k + 1)))), (2, .ref (bd 0)), (1, .ref (ad 0)), (0, .ref b)]) hx hb dL_law_1569 hl (k := 0) rfl (show nI (6 * k) + nI 6 = nI (6 * (k + 1)) from nI_add (6 * k) 6) (by decide) rfl (fun ls hl => ?_)
  refine lv_goto (tgt := 18) hx hb dL_law_1572 (by decide) ?_
  refine W.widen (k := 70 + 9 * (k + 1)) (n := 7203 + 400 * (k + 1)) (by omega) (by omega) ?_
  exact ih _ _ _ ⟨V_5, _, iv2, fI2, ja2, hREL.same hch.1 hcm.1 hcm.2.1, hKR.same hch.2 hcm.2.2, hXJ, ⟨jv2, jl2, jb2, hMR, rfl⟩, hP, hD, hS, lv_sub hl [0, 1, 2, 3] rfl⟩

set_option maxHeartbeats 4000000 in
set_option maxRecDepth 100000 in
/-- the law, its call 35: drawn -/
theorem lc_35 {p : Program} {e : Env} {s : State} {m : MethodId} {below : List Frame} {meth : Method} {c : Code} (l : Launch) {b L : Nat} {xs : Nat → Int32} (hL : L ≤ 3072) (C0 : lw_At p s m meth c b L xs) {A : Nat → Prop} (hA : ∀ q, s.heap.size ≤ q → A q) (hA2 : ∀ q, A q → s.heap.size ≤ q) (hE0 : Kx s) {sa sv sn : Nat → Nat} (hE9 : sx sa sv sn A s) {dC : Nat → ClassId} {dI : Nat → Nat → Nat} {ad : Nat → Nat} {kc : Nat → ClassId} {fr gnS wS : Nat → Option Nat} {bd : Nat → Nat} {kd : Nat → ClassId} (hFX : FX ad fr gnS wS) (hK : va_K (dC, dI) vwCl (XT kc) s) (hK2 : va_K (dC, dI) vwCl (MT kd) s) {k : Nat} (hk : 6 * k + 6 ≤ L) {H : Heap} {locs : List Loc} {ls : Array Slot} (hW : LW (dC, dI) A s b ad kc fr gnS wS bd kd k H locs ls) (ih : ∀ (H : Heap) (locs : List Loc) (ls : Array Slot), LW (dC, dI) A s b ad kc fr gnS wS bd kd (k + 1) H locs ls → W p l e room_1 s m #[Value.ref b] below meth c H locs (70 + 9 * (k + 1)) (7203 + 400 * (k + 1)) (lw_Z below #[Value.ref b] s) (F0 m 18 ls [])) : W p l e room_1 s m #[Value.ref b] below meth c H locs (70 + 9 * k) (7203 + 400 * k) (lw_Z below #[Value.ref b] s) (F0 m 1245 ls []) := by
  obtain ⟨hx, hb, hr, hml, hown, hts, hX, hbl, hlocks, hgv⟩ := id C0
  have hown : s.vm.findClass RL = some m.cls := hown
  have hts := fun w (h : w ∈ wz_law) => hts w (wz_law_in w h)
  have hbA : ¬ A b := fun h => absurd (hA2 b h) (Nat.not_le.mpr hbl)
  obtain ⟨Wx, Wm, iv, fI, ja, hREL, hKR, hXI, hMN, hP, hD, hS, hl⟩ := hW
  refine lv_aload_n hx hb dL_law_1245 rfl (lv_at hl 2 rfl) ?_
  refine lv_aload_n hx hb dL_law_1246 rfl (lv_at hl 3 rfl) ?_
  refine lv_iload_n hx hb dL_law_1247 rfl (lv_at hl 0 rfl) ?_
  refine lv_iconst (v := 1) hx hb dL_law_1248 (by decide) ?_
  refine lv_iadd hx hb dL_law_1249 ?_
  refine lv_topi (fun z_1 ez_1 => ?_)
  obtain rfl : z_1 = nI ((6 * k) + 1) := ez_1.trans (nI_add ((6 * k)) 1)
  refine va_sld hx hb hX hbl hbA hS (vp_in_nI (by omega) (by omega)) dL_law_1250 ?_
  refine lv_topi (fun a_2 ea_2 => ?_)
  refine lv_aload_n hx hb dL_law_1251 rfl (lv_at hl 3 rfl) ?_
  refine lv_iload_n hx hb dL_law_1252 rfl (lv_at hl 0 rfl) ?_
  refine lv_iconst (v := 2) hx hb dL_law_1253 (by decide) ?_
  refine lv_iadd hx hb dL_law_1254 ?_
  refine lv_topi (fun z_3 ez_3 => ?_)
  obtain rfl : z_3 = nI ((6 * k) + 2) := ez_3.trans (nI_add ((6 * k)) 2)
  refine va_sld hx hb hX hbl hbA hS (vp_in_nI (by omega) (by omega)) dL_law_1255 ?_
  refine lv_topi (fun a_4 ea_4 => ?_)
  refine lv_aload_n hx hb dL_law_1256 rfl (lv_at hl 3 rfl) ?_
  refine lv_iload_n hx hb dL_law_1257 rfl (lv_at hl 0 rfl) ?_
  refine lv_iconst (v := 3) hx hb dL_law_1258 (by decide) ?_
  refine lv_iadd hx hb dL_law_1259 ?_
  refine lv_topi (fun z_5 ez_5 => ?_)
  obtain rfl : z_5 = nI ((6 * k) + 3) := ez_5.trans (nI_add ((6 * k)) 3)
  refine va_sld hx hb hX hbl hbA hS (vp_in_nI (by omega) (by omega)) dL_law_1260 ?_
  refine lv_topi (fun a_6 ea_6 => ?_)
  obtain ⟨lv, ia, la, ot, t0, t1, t2, hR, i0, i1, i2, rfl⟩ := hXI
  have hFx := free_of hD.left hS hA
  refine va_calli (va_runV (As := [.int a_2, .int a_4, .int a_6]) (rest := []) ⟨hx, hb, hml, hown, hts⟩ (Met_xi (kx_drawn l dC dI H.size ad kc fr gnS wS iv lv ia la ot fI hFX hR a_2 a_4 a_6) i0 i1 i2 (EY := fun _ => True) (fun _ _ h => h)) (cwV 3 hts g_law_X6_drawn rfl rfl rfl (by decide +kernel) ⟨Nat.le_of_ble_eq_true rfl, Nat.le_of_ble_eq_true rfl⟩) ⟨fun a U g mk q => by obtain ⟨q0, q1, qP, qK, qD, qE⟩ := q; exact ⟨q0, q1, qP, va_K.moved (u := U) (U := U.calling g mk a) (Vm.Alike.refl U.vm) qK, qD, trivial⟩, va_recv hK hP.left (ci := 6) (q0 := 0) rfl rfl, fun U hU hW => ⟨rfl, by rw [hU], by rw [hU]; exact hP.left, va_K.moved hW.alike hK, hD.left.weaken (fun _ _ _ _ => trivial), trivial⟩⟩ rfl rfl hl.1 rfl (lv_room (Nat.le_of_ble_eq_true rfl)) dL_law_1261 ⟨by show 70 + 9 * k + 0 + 0 ≤ 600000; omega, by show 7203 + 400 * k + 0 + 0 ≤ 7302250; omega⟩) hS (fun q _ h => hFx q h) hFx (fun r_7 V_9 t H1 locs ht hvm hw_8 hB hz1 hk1 hS => ?_)
  obtain ⟨hP, hD⟩ := va_joinA hP hD hk1 hFx (by rw [← ht]; exact hB.1) hB.2
  generalize H1 = H at hP hS ⊢
  obtain ⟨hp9, iv2, fI2, hch, hXJ⟩ := hw_8
  refine lv_pop hx hb dL_law_1264 rfl ?_
  refine lv_aload_n hx hb dL_law_1265 rfl (lv_at hl 1 rfl) ?_
  refine lv_aload_n hx hb dL_law_1266 rfl (lv_at hl 3 rfl) ?_
  refine lv_iload_n hx hb dL_law_1267 rfl (lv_at hl 0 rfl) ?_
  refine lv_iconst (v := 1) hx hb dL_law_1268 (by decide) ?_
  refine lv_iadd hx hb dL_law_1269 ?_
  refine lv_topi (fun z_10 ez_10 => ?_)
  obtain rfl : z_10 = nI ((6 * k) + 1) := ez_10.trans (nI_add ((6 * k)) 1)
  refine va_sld hx hb hX hbl hbA hS (vp_in_nI (by omega) (by omega)) dL_law_1270 ?_
  refine lv_topi (fun a_11 ea_11 => ?_)
  obtain rfl : a_2 = a_11 := ea_2.trans ea_11.symm
  refine lv_aload_n hx hb dL_law_1271 rfl (lv_at hl 3 rfl) ?_
  refine lv_iload_n hx hb dL_law_1272 rfl (lv_at hl 0 rfl) ?_
  refine lv_iconst (v := 2) hx hb dL_law_1273 (by decide) ?_
  refine lv_iadd hx hb dL_law_1274 ?_
  refine lv_topi (fun z_12 ez_12 => ?_)
  obtain rfl : z_12 = nI ((6 * k) + 2) := ez_12.trans (nI_add ((6 * k)) 2)
  refine va_sld hx hb hX hbl hbA hS (vp_in_nI (by omega) (by omega)) dL_law_1275 ?_
  refine lv_topi (fun a_13 ea_13 => ?_)
  obtain rfl : a_4 = a_13 := ea_4.trans ea_13.symm
  refine lv_aload_n hx hb dL_law_1276 rfl (lv_at hl 3 rfl) ?_
  refine lv_iload_n hx hb dL_law_1277 rfl (lv_at hl 0 rfl) ?_
  refine lv_iconst (v := 3) hx hb dL_law_1278 (by decide) ?_
  refine lv_iadd hx hb dL_law_1279 ?_
  refine lv_topi (fun z_14 ez_14 => ?_)
  obtain rfl : z_14 = nI ((6 * k) + 3) := ez_14.trans (nI_add ((6 * k)) 3)
  refine va_sld hx hb hX hbl hbA hS (vp_in_nI (by omega) (by omega)) dL_law_1280 ?_
  refine lv_topi (fun a_15 ea_15 => ?_)
  obtain rfl : a_6 = a_15 := ea_6.trans ea_15.symm
  obtain ⟨jv, jl, jb, hR2, rfl⟩ := hMN
  obtain ⟨hP, hD⟩ := va_swap hP hD
  have hFx := free_of hD.left hS hA
  refine va_calli (va_runV (As := [.int a_2, .int a_4, .int a_6]) (rest := []) ⟨hx, hb, hml, hown, hts⟩ (km_drawn l dC dI H.size bd kd jv jl ja jb hR2 a_2 a_4 a_6) (cwV 3 hts g_law_X7_drawn rfl rfl rfl (by decide +kernel) ⟨Nat.le_of_ble_eq_true rfl, Nat.le_of_ble_eq_true rfl⟩) ⟨fun a U g mk q => by obtain ⟨q0, q1, qP, qK, qD, qE⟩ := q; exact ⟨q0, q1, qP, va_K.moved (u := U) (U := U.calling g mk a) (Vm.Alike.refl U.vm) qK, qD, trivial⟩, va_recv hK2 hP.left (ci := 7) (q0 := 0) rfl rfl, fun U hU hW => ⟨rfl, by rw [hU], by rw [hU]; exact hP.left, va_K.moved hW.alike hK2, hD.left.weaken (fun _ _ _ _ => trivial), trivial⟩⟩ rfl rfl hl.1 rfl (lv_room (Nat.le_of_ble_eq_true rfl)) dL_law_1281 ⟨by show 70 + 9 * k + 0 + 0 ≤ 600000; omega, by show 7203 + 400 * k + 0 + 0 ≤ 7302250; omega⟩) hS (fun q _ h => hFx q h) hFx (fun r_16 V_18 t H1 locs ht hvm hw_17 hB hz1 hk1 hS => ?_)
  obtain ⟨hP, hD⟩ := va_joinA hP hD hk1 hFx (by rw [← ht]; exact hB.1) hB.2
  generalize H1 = H at hP hS ⊢
  obtain ⟨hP, hD⟩ := va_swap hP hD
  obtain ⟨hq9, jv2, jl2, ja2, jb2, hcm, hMR, rfl⟩ := hw_17
  refine lv_pop hx hb dL_law_1284 rfl ?_
  refine lv_goto (tgt := 1569) hx hb dL_law_1285 (by decide) ?_
  refine lv_iinc (v := nI (6 * (k + 1))) (lv' := [(3, .int (nI (6 * (k + 1)))), (2, .ref (bd 0)), (1, .ref (ad 0)), (0, .ref b)]) hx hb dL_law_1569 hl (k := 0) rfl (show nI (6 * k) + nI 6 = nI (6 * (k + 1)) from nI_add (6 * k) 6) (by decide) rfl (fun ls hl => ?_)
  refine lv_goto (tgt := 18) hx hb dL_law_1572 (by decide) ?_
  refine W.widen (k := 70 + 9 * (k + 1)) (n := 7203 + 400 * (k + 1)) (by omega) (by omega) ?_
  exact ih _ _ _ ⟨V_9, _, iv2, fI2, ja2, hREL.same hch.1 hcm.1 hcm.2.1, hKR.same hch.2 hcm.2.2, hXJ, ⟨jv2, jl2, jb2, hMR, rfl⟩, hP, hD, hS, lv_sub hl [0, 1, 2, 3] rfl⟩

set_option maxHeartbeats 4000000 in
set_option maxRecDepth 100000 in
/-- the law, its call 36: lastly -/
theorem lc_36 {p : Program} {e : Env} {s : State} {m : MethodId} {below : List Frame} {meth : Method} {c : Code} (l : Launch) {b L : Nat} {xs : Nat → Int32} (hL : L ≤ 3072) (C0 : lw_At p s m meth c b L xs) {A : Nat → Prop} (hA : ∀ q, s.heap.size ≤ q → A q) (hA2 : ∀ q, A q → s.heap.size ≤ q) (hE0 : Kx s) {sa sv sn : Nat → Nat} (hE9 : sx sa sv sn A s) {dC : Nat → ClassId} {dI : Nat → Nat → Nat} {ad : Nat → Nat} {kc : Nat → ClassId} {fr gnS wS : Nat → Option Nat} {bd : Nat → Nat} {kd : Nat → ClassId} (hFX : FX ad fr gnS wS) (hK : va_K (dC, dI) vwCl (XT kc) s) (hK2 : va_K (dC, dI) vwCl (MT kd) s) {k : Nat} (hk : 6 * k + 6 ≤ L) {H : Heap} {locs : List Loc} {ls : Array Slot} (hW : LW (dC, dI) A s b ad kc fr gnS wS bd kd k H locs ls) (ih : ∀ (H : Heap) (locs : List Loc) (ls : Array Slot), LW (dC, dI) A s b ad kc fr gnS wS bd kd (k + 1) H locs ls → W p l e room_1 s m #[Value.ref b] below meth c H locs (70 + 9 * (k + 1)) (7203 + 400 * (k + 1)) (lw_Z below #[Value.ref b] s) (F0 m 18 ls [])) : W p l e room_1 s m #[Value.ref b] below meth c H locs (70 + 9 * k) (7203 + 400 * k) (lw_Z below #[Value.ref b] s) (F0 m 1288 ls []) := by
  obtain ⟨hx, hb, hr, hml, hown, hts, hX, hbl, hlocks, hgv⟩ := id C0
  have hown : s.vm.findClass RL = some m.cls := hown
  have hts := fun w (h : w ∈ wz_law) => hts w (wz_law_in w h)
  have hbA : ¬ A b := fun h => absurd (hA2 b h) (Nat.not_le.mpr hbl)
  obtain ⟨Wx, Wm, iv, fI, ja, hREL, hKR, hXI, hMN, hP, hD, hS, hl⟩ := hW
  refine lv_aload_n hx hb dL_law_1288 rfl (lv_at hl 2 rfl) ?_
  refine lv_aload_n hx hb dL_law_1289 rfl (lv_at hl 3 rfl) ?_
  refine lv_iload_n hx hb dL_law_1290 rfl (lv_at hl 0 rfl) ?_
  refine lv_iconst (v := 1) hx hb dL_law_1291 (by decide) ?_
  refine lv_iadd hx hb dL_law_1292 ?_
  refine lv_topi (fun z_1 ez_1 => ?_)
  obtain rfl : z_1 = nI ((6 * k) + 1) := ez_1.trans (nI_add ((6 * k)) 1)
  refine va_sld hx hb hX hbl hbA hS (vp_in_nI (by omega) (by omega)) dL_law_1293 ?_
  refine lv_topi (fun a_2 ea_2 => ?_)
  refine lv_aload_n hx hb dL_law_1294 rfl (lv_at hl 3 rfl) ?_
  refine lv_iload_n hx hb dL_law_1295 rfl (lv_at hl 0 rfl) ?_
  refine lv_iconst (v := 2) hx hb dL_law_1296 (by decide) ?_
  refine lv_iadd hx hb dL_law_1297 ?_
  refine lv_topi (fun z_3 ez_3 => ?_)
  obtain rfl : z_3 = nI ((6 * k) + 2) := ez_3.trans (nI_add ((6 * k)) 2)
  refine va_sld hx hb hX hbl hbA hS (vp_in_nI (by omega) (by omega)) dL_law_1298 ?_
  refine lv_topi (fun a_4 ea_4 => ?_)
  obtain ⟨lv, ia, la, ot, t0, t1, t2, hR, i0, i1, i2, rfl⟩ := hXI
  have hFx := free_of hD.left hS hA
  refine va_calli (va_runV (As := [.int a_2, .int a_4]) (rest := []) ⟨hx, hb, hml, hown, hts⟩ (Met_xi (kx_lastly l dC dI H.size ad kc fr gnS wS iv lv ia la ot fI hFX hR a_2 a_4) i0 i1 i2 (EY := fun _ => True) (fun _ _ h => h)) (cwV 2 hts g_law_X6_lastly rfl rfl rfl (by decide +kernel) ⟨Nat.le_of_ble_eq_true rfl, Nat.le_of_ble_eq_true rfl⟩) ⟨fun a U g mk q => by obtain ⟨q0, q1, qP, qK, qD, qE⟩ := q; exact ⟨q0, q1, qP, va_K.moved (u := U) (U := U.calling g mk a) (Vm.Alike.refl U.vm) qK, qD, trivial⟩, va_recv hK hP.left (ci := 6) (q0 := 0) rfl rfl, fun U hU hW => ⟨rfl, by rw [hU], by rw [hU]; exact hP.left, va_K.moved hW.alike hK, hD.left.weaken (fun _ _ _ _ => trivial), trivial⟩⟩ rfl rfl hl.1 rfl (lv_room (Nat.le_of_ble_eq_true rfl)) dL_law_1299 ⟨by show 70 + 9 * k + 0 + 0 ≤ 600000; omega, by show 7203 + 400 * k + 0 + 0 ≤ 7302250; omega⟩) hS (fun q _ h => hFx q h) hFx (fun r_5 V_7 t H1 locs ht hvm hw_6 hB hz1 hk1 hS => ?_)
  obtain ⟨hP, hD⟩ := va_joinA hP hD hk1 hFx (by rw [← ht]; exact hB.1) hB.2
  generalize H1 = H at hP hS ⊢
  obtain ⟨hp9, iv2, fI2, hch, hXJ⟩ := hw_6
  refine lv_pop hx hb dL_law_1302 rfl ?_
  refine lv_aload_n hx hb dL_law_1303 rfl (lv_at hl 1 rfl) ?_
  refine lv_aload_n hx hb dL_law_1304 rfl (lv_at hl 3 rfl) ?_
  refine lv_iload_n hx hb dL_law_1305 rfl (lv_at hl 0 rfl) ?_
  refine lv_iconst (v := 1) hx hb dL_law_1306 (by decide) ?_
  refine lv_iadd hx hb dL_law_1307 ?_
  refine lv_topi (fun z_8 ez_8 => ?_)
  obtain rfl : z_8 = nI ((6 * k) + 1) := ez_8.trans (nI_add ((6 * k)) 1)
  refine va_sld hx hb hX hbl hbA hS (vp_in_nI (by omega) (by omega)) dL_law_1308 ?_
  refine lv_topi (fun a_9 ea_9 => ?_)
  obtain rfl : a_2 = a_9 := ea_2.trans ea_9.symm
  refine lv_aload_n hx hb dL_law_1309 rfl (lv_at hl 3 rfl) ?_
  refine lv_iload_n hx hb dL_law_1310 rfl (lv_at hl 0 rfl) ?_
  refine lv_iconst (v := 2) hx hb dL_law_1311 (by decide) ?_
  refine lv_iadd hx hb dL_law_1312 ?_
  refine lv_topi (fun z_10 ez_10 => ?_)
  obtain rfl : z_10 = nI ((6 * k) + 2) := ez_10.trans (nI_add ((6 * k)) 2)
  refine va_sld hx hb hX hbl hbA hS (vp_in_nI (by omega) (by omega)) dL_law_1313 ?_
  refine lv_topi (fun a_11 ea_11 => ?_)
  obtain rfl : a_4 = a_11 := ea_4.trans ea_11.symm
  obtain ⟨jv, jl, jb, hR2, rfl⟩ := hMN
  obtain ⟨hP, hD⟩ := va_swap hP hD
  have hFx := free_of hD.left hS hA
  refine va_calli (va_runV (As := [.int a_2, .int a_4]) (rest := []) ⟨hx, hb, hml, hown, hts⟩ (km_lastly l dC dI H.size bd kd jv jl ja jb hR2 a_2 a_4) (cwV 2 hts g_law_X7_lastly rfl rfl rfl (by decide +kernel) ⟨Nat.le_of_ble_eq_true rfl, Nat.le_of_ble_eq_true rfl⟩) ⟨fun a U g mk q => by obtain ⟨q0, q1, qP, qK, qD, qE⟩ := q; exact ⟨q0, q1, qP, va_K.moved (u := U) (U := U.calling g mk a) (Vm.Alike.refl U.vm) qK, qD, trivial⟩, va_recv hK2 hP.left (ci := 7) (q0 := 0) rfl rfl, fun U hU hW => ⟨rfl, by rw [hU], by rw [hU]; exact hP.left, va_K.moved hW.alike hK2, hD.left.weaken (fun _ _ _ _ => trivial), trivial⟩⟩ rfl rfl hl.1 rfl (lv_room (Nat.le_of_ble_eq_true rfl)) dL_law_1314 ⟨by show 70 + 9 * k + 0 + 0 ≤ 600000; omega, by show 7203 + 400 * k + 0 + 0 ≤ 7302250; omega⟩) hS (fun q _ h => hFx q h) hFx (fun r_12 V_14 t H1 locs ht hvm hw_13 hB hz1 hk1 hS => ?_)
  obtain ⟨hP, hD⟩ := va_joinA hP hD hk1 hFx (by rw [← ht]; exact hB.1) hB.2
  generalize H1 = H at hP hS ⊢
  obtain ⟨hP, hD⟩ := va_swap hP hD
  obtain ⟨hq9, jv2, jl2, ja2, jb2, hcm, hMR, rfl⟩ := hw_13
  refine lv_pop hx hb dL_law_1317 rfl ?_
  refine lv_goto (tgt := 1569) hx hb dL_law_1318 (by decide) ?_
  refine lv_iinc (v := nI (6 * (k + 1))) (lv' := [(3, .int (nI (6 * (k + 1)))), (2, .ref (bd 0)), (1, .ref (ad 0)), (0, .ref b)]) hx hb dL_law_1569 hl (k := 0) rfl (show nI (6 * k) + nI 6 = nI (6 * (k + 1)) from nI_add (6 * k) 6) (by decide) rfl (fun ls hl => ?_)
  refine lv_goto (tgt := 18) hx hb dL_law_1572 (by decide) ?_
  refine W.widen (k := 70 + 9 * (k + 1)) (n := 7203 + 400 * (k + 1)) (by omega) (by omega) ?_
  exact ih _ _ _ ⟨V_7, _, iv2, fI2, ja2, hREL.same hch.1 hcm.1 hcm.2.1, hKR.same hch.2 hcm.2.2, hXJ, ⟨jv2, jl2, jb2, hMR, rfl⟩, hP, hD, hS, lv_sub hl [0, 1, 2, 3] rfl⟩

set_option maxHeartbeats 4000000 in
set_option maxRecDepth 100000 in
/-- the law, its call 37: count -/
theorem lc_37 {p : Program} {e : Env} {s : State} {m : MethodId} {below : List Frame} {meth : Method} {c : Code} (l : Launch) {b L : Nat} {xs : Nat → Int32} (hL : L ≤ 3072) (C0 : lw_At p s m meth c b L xs) {A : Nat → Prop} (hA : ∀ q, s.heap.size ≤ q → A q) (hA2 : ∀ q, A q → s.heap.size ≤ q) (hE0 : Kx s) {sa sv sn : Nat → Nat} (hE9 : sx sa sv sn A s) {dC : Nat → ClassId} {dI : Nat → Nat → Nat} {ad : Nat → Nat} {kc : Nat → ClassId} {fr gnS wS : Nat → Option Nat} {bd : Nat → Nat} {kd : Nat → ClassId} (hFX : FX ad fr gnS wS) (hK : va_K (dC, dI) vwCl (XT kc) s) (hK2 : va_K (dC, dI) vwCl (MT kd) s) {k : Nat} (hk : 6 * k + 6 ≤ L) {H : Heap} {locs : List Loc} {ls : Array Slot} (hW : LW (dC, dI) A s b ad kc fr gnS wS bd kd k H locs ls) (ih : ∀ (H : Heap) (locs : List Loc) (ls : Array Slot), LW (dC, dI) A s b ad kc fr gnS wS bd kd (k + 1) H locs ls → W p l e room_1 s m #[Value.ref b] below meth c H locs (70 + 9 * (k + 1)) (7203 + 400 * (k + 1)) (lw_Z below #[Value.ref b] s) (F0 m 18 ls [])) : W p l e room_1 s m #[Value.ref b] below meth c H locs (70 + 9 * k) (7203 + 400 * k) (lw_Z below #[Value.ref b] s) (F0 m 1321 ls []) := by
  obtain ⟨hx, hb, hr, hml, hown, hts, hX, hbl, hlocks, hgv⟩ := id C0
  have hown : s.vm.findClass RL = some m.cls := hown
  have hts := fun w (h : w ∈ wz_law) => hts w (wz_law_in w h)
  have hbA : ¬ A b := fun h => absurd (hA2 b h) (Nat.not_le.mpr hbl)
  obtain ⟨Wx, Wm, iv, fI, ja, hREL, hKR, hXI, hMN, hP, hD, hS, hl⟩ := hW
  refine lv_aload_n hx hb dL_law_1321 rfl (lv_at hl 2 rfl) ?_
  refine lv_aload_n hx hb dL_law_1322 rfl (lv_at hl 3 rfl) ?_
  refine lv_iload_n hx hb dL_law_1323 rfl (lv_at hl 0 rfl) ?_
  refine lv_iconst (v := 1) hx hb dL_law_1324 (by decide) ?_
  refine lv_iadd hx hb dL_law_1325 ?_
  refine lv_topi (fun z_1 ez_1 => ?_)
  obtain rfl : z_1 = nI ((6 * k) + 1) := ez_1.trans (nI_add ((6 * k)) 1)
  refine va_sld hx hb hX hbl hbA hS (vp_in_nI (by omega) (by omega)) dL_law_1326 ?_
  refine lv_topi (fun a_2 ea_2 => ?_)
  obtain ⟨lv, ia, la, ot, t0, t1, t2, hR, i0, i1, i2, rfl⟩ := hXI
  have hFx := free_of hD.left hS hA
  refine va_calli (va_runV (As := [.int a_2]) (rest := []) ⟨hx, hb, hml, hown, hts⟩ (Met_xi (kx_count l dC dI H.size ad kc fr gnS wS iv lv ia la ot fI hFX hR a_2) i0 i1 i2 (EY := fun _ => True) (fun _ _ h => h)) (cwV 1 hts g_law_X6_count rfl rfl rfl (by decide +kernel) ⟨Nat.le_of_ble_eq_true rfl, Nat.le_of_ble_eq_true rfl⟩) ⟨fun a U g mk q => by obtain ⟨q0, q1, qP, qK, qD, qE⟩ := q; exact ⟨q0, q1, qP, va_K.moved (u := U) (U := U.calling g mk a) (Vm.Alike.refl U.vm) qK, qD, trivial⟩, va_recv hK hP.left (ci := 6) (q0 := 0) rfl rfl, fun U hU hW => ⟨rfl, by rw [hU], by rw [hU]; exact hP.left, va_K.moved hW.alike hK, hD.left.weaken (fun _ _ _ _ => trivial), trivial⟩⟩ rfl rfl hl.1 rfl (lv_room (Nat.le_of_ble_eq_true rfl)) dL_law_1327 ⟨by show 70 + 9 * k + 0 + 0 ≤ 600000; omega, by show 7203 + 400 * k + 0 + 0 ≤ 7302250; omega⟩) hS (fun q _ h => hFx q h) hFx (fun r_3 V_5 t H1 locs ht hvm hw_4 hB hz1 hk1 hS => ?_)
  obtain ⟨hP, hD⟩ := va_joinA hP hD hk1 hFx (by rw [← ht]; exact hB.1) hB.2
  generalize H1 = H at hP hS ⊢
  obtain ⟨hp9, iv2, fI2, hch, hXJ⟩ := hw_4
  refine lv_pop hx hb dL_law_1330 rfl ?_
  refine lv_aload_n hx hb dL_law_1331 rfl (lv_at hl 1 rfl) ?_
  refine lv_aload_n hx hb dL_law_1332 rfl (lv_at hl 3 rfl) ?_
  refine lv_iload_n hx hb dL_law_1333 rfl (lv_at hl 0 rfl) ?_
  refine lv_iconst (v := 1) hx hb dL_law_1334 (by decide) ?_
  refine lv_iadd hx hb dL_law_1335 ?_
  refine lv_topi (fun z_6 ez_6 => ?_)
  obtain rfl : z_6 = nI ((6 * k) + 1) := ez_6.trans (nI_add ((6 * k)) 1)
  refine va_sld hx hb hX hbl hbA hS (vp_in_nI (by omega) (by omega)) dL_law_1336 ?_
  refine lv_topi (fun a_7 ea_7 => ?_)
  obtain rfl : a_2 = a_7 := ea_2.trans ea_7.symm
  obtain ⟨jv, jl, jb, hR2, rfl⟩ := hMN
  obtain ⟨hP, hD⟩ := va_swap hP hD
  have hFx := free_of hD.left hS hA
  refine va_calli (va_runV (As := [.int a_2]) (rest := []) ⟨hx, hb, hml, hown, hts⟩ (km_count l dC dI H.size bd kd jv jl ja jb hR2 a_2) (cwV 1 hts g_law_X7_count rfl rfl rfl (by decide +kernel) ⟨Nat.le_of_ble_eq_true rfl, Nat.le_of_ble_eq_true rfl⟩) ⟨fun a U g mk q => by obtain ⟨q0, q1, qP, qK, qD, qE⟩ := q; exact ⟨q0, q1, qP, va_K.moved (u := U) (U := U.calling g mk a) (Vm.Alike.refl U.vm) qK, qD, trivial⟩, va_recv hK2 hP.left (ci := 7) (q0 := 0) rfl rfl, fun U hU hW => ⟨rfl, by rw [hU], by rw [hU]; exact hP.left, va_K.moved hW.alike hK2, hD.left.weaken (fun _ _ _ _ => trivial), trivial⟩⟩ rfl rfl hl.1 rfl (lv_room (Nat.le_of_ble_eq_true rfl)) dL_law_1337 ⟨by show 70 + 9 * k + 0 + 0 ≤ 600000; omega, by show 7203 + 400 * k + 0 + 0 ≤ 7302250; omega⟩) hS (fun q _ h => hFx q h) hFx (fun r_8 V_10 t H1 locs ht hvm hw_9 hB hz1 hk1 hS => ?_)
  obtain ⟨hP, hD⟩ := va_joinA hP hD hk1 hFx (by rw [← ht]; exact hB.1) hB.2
  generalize H1 = H at hP hS ⊢
  obtain ⟨hP, hD⟩ := va_swap hP hD
  obtain ⟨hq9, jv2, jl2, ja2, jb2, hcm, hMR, rfl⟩ := hw_9
  refine lv_pop hx hb dL_law_1340 rfl ?_
  refine lv_goto (tgt := 1569) hx hb dL_law_1341 (by decide) ?_
  refine lv_iinc (v := nI (6 * (k + 1))) (lv' := [(3, .int (nI (6 * (k + 1)))), (2, .ref (bd 0)), (1, .ref (ad 0)), (0, .ref b)]) hx hb dL_law_1569 hl (k := 0) rfl (show nI (6 * k) + nI 6 = nI (6 * (k + 1)) from nI_add (6 * k) 6) (by decide) rfl (fun ls hl => ?_)
  refine lv_goto (tgt := 18) hx hb dL_law_1572 (by decide) ?_
  refine W.widen (k := 70 + 9 * (k + 1)) (n := 7203 + 400 * (k + 1)) (by omega) (by omega) ?_
  exact ih _ _ _ ⟨V_5, _, iv2, fI2, ja2, hREL.same hch.1 hcm.1 hcm.2.1, hKR.same hch.2 hcm.2.2, hXJ, ⟨jv2, jl2, jb2, hMR, rfl⟩, hP, hD, hS, lv_sub hl [0, 1, 2, 3] rfl⟩

set_option maxHeartbeats 4000000 in
set_option maxRecDepth 100000 in
/-- the law, its call 38: keep -/
theorem lc_38 {p : Program} {e : Env} {s : State} {m : MethodId} {below : List Frame} {meth : Method} {c : Code} (l : Launch) {b L : Nat} {xs : Nat → Int32} (hL : L ≤ 3072) (C0 : lw_At p s m meth c b L xs) {A : Nat → Prop} (hA : ∀ q, s.heap.size ≤ q → A q) (hA2 : ∀ q, A q → s.heap.size ≤ q) (hE0 : Kx s) {sa sv sn : Nat → Nat} (hE9 : sx sa sv sn A s) {dC : Nat → ClassId} {dI : Nat → Nat → Nat} {ad : Nat → Nat} {kc : Nat → ClassId} {fr gnS wS : Nat → Option Nat} {bd : Nat → Nat} {kd : Nat → ClassId} (hFX : FX ad fr gnS wS) (hK : va_K (dC, dI) vwCl (XT kc) s) (hK2 : va_K (dC, dI) vwCl (MT kd) s) {k : Nat} (hk : 6 * k + 6 ≤ L) {H : Heap} {locs : List Loc} {ls : Array Slot} (hW : LW (dC, dI) A s b ad kc fr gnS wS bd kd k H locs ls) (ih : ∀ (H : Heap) (locs : List Loc) (ls : Array Slot), LW (dC, dI) A s b ad kc fr gnS wS bd kd (k + 1) H locs ls → W p l e room_1 s m #[Value.ref b] below meth c H locs (70 + 9 * (k + 1)) (7203 + 400 * (k + 1)) (lw_Z below #[Value.ref b] s) (F0 m 18 ls [])) : W p l e room_1 s m #[Value.ref b] below meth c H locs (70 + 9 * k) (7203 + 400 * k) (lw_Z below #[Value.ref b] s) (F0 m 1344 ls []) := by
  obtain ⟨hx, hb, hr, hml, hown, hts, hX, hbl, hlocks, hgv⟩ := id C0
  have hown : s.vm.findClass RL = some m.cls := hown
  have hts := fun w (h : w ∈ wz_law) => hts w (wz_law_in w h)
  have hbA : ¬ A b := fun h => absurd (hA2 b h) (Nat.not_le.mpr hbl)
  obtain ⟨Wx, Wm, iv, fI, ja, hREL, hKR, hXI, hMN, hP, hD, hS, hl⟩ := hW
  refine lv_aload_n hx hb dL_law_1344 rfl (lv_at hl 2 rfl) ?_
  refine lv_aload_n hx hb dL_law_1345 rfl (lv_at hl 3 rfl) ?_
  refine lv_iload_n hx hb dL_law_1346 rfl (lv_at hl 0 rfl) ?_
  refine lv_iconst (v := 1) hx hb dL_law_1347 (by decide) ?_
  refine lv_iadd hx hb dL_law_1348 ?_
  refine lv_topi (fun z_1 ez_1 => ?_)
  obtain rfl : z_1 = nI ((6 * k) + 1) := ez_1.trans (nI_add ((6 * k)) 1)
  refine va_sld hx hb hX hbl hbA hS (vp_in_nI (by omega) (by omega)) dL_law_1349 ?_
  refine lv_topi (fun a_2 ea_2 => ?_)
  obtain ⟨lv, ia, la, ot, t0, t1, t2, hR, i0, i1, i2, rfl⟩ := hXI
  by_cases h0 : 0 ≤ a_2.toInt ∧ a_2.toInt ≤ 2
  · rcases i_three (a := a_2) h0.1 h0.2 with h3 | h3 | h3
    · subst h3
      rcases i0 with ⟨hI, rfl⟩ | ⟨ga, gi, gl, gj, gk, hI, rfl, hG⟩
      · skip
        have hFx := free_of hD.left hS hA
        refine va_calli (va_runV (As := [.int 0]) (rest := []) ⟨hx, hb, hml, hown, hts⟩ (lx_keep_0_n l dC dI H.size ad kc fr gnS wS iv lv ia la ot fI hFX hR i1 i2 hI) (cwV 1 hts g_law_X6_keep_0_n rfl rfl rfl (by decide +kernel) ⟨Nat.le_of_ble_eq_true rfl, Nat.le_of_ble_eq_true rfl⟩) ⟨fun a U g mk q => by obtain ⟨q0, q1, qP, qK, qD, qE⟩ := q; exact ⟨q0, q1, qP, va_K.moved (u := U) (U := U.calling g mk a) (Vm.Alike.refl U.vm) qK, qD, Kx.same rfl qE⟩, va_recv hK hP.left (ci := 6) (q0 := 0) rfl rfl, fun U hU hW => ⟨rfl, by rw [hU], by rw [hU]; exact hP.left, va_K.moved hW.alike hK, hD.left.weaken (fun _ _ _ _ => trivial), Kx.warm hW hE0⟩⟩ rfl rfl hl.1 rfl (lv_room (Nat.le_of_ble_eq_true rfl)) dL_law_1350 ⟨by show 70 + 9 * k + 0 + 9 ≤ 600000; omega, by show 7203 + 400 * k + 0 + 349 ≤ 7302250; omega⟩) hS (fun q _ h => hFx q h) hFx (fun r_3 V_5 t H1 locs ht hvm hw_4 hB hz1 hk1 hS => ?_)
        obtain ⟨hP, hD⟩ := va_joinA hP hD hk1 hFx (by rw [← ht]; exact hB.1) hB.2
        generalize H1 = H at hP hS ⊢
        refine W.widen (k := 70 + 9 * k + 9) (n := 7203 + 400 * k + 349) (by omega) (by omega) ?_
        obtain ⟨hp9, iv2, fI2, hch, hXJ⟩ := hw_4
        refine lv_pop hx hb dL_law_1353 rfl ?_
        refine lv_aload_n hx hb dL_law_1354 rfl (lv_at hl 1 rfl) ?_
        refine lv_aload_n hx hb dL_law_1355 rfl (lv_at hl 3 rfl) ?_
        refine lv_iload_n hx hb dL_law_1356 rfl (lv_at hl 0 rfl) ?_
        refine lv_iconst (v := 1) hx hb dL_law_1357 (by decide) ?_
        refine lv_iadd hx hb dL_law_1358 ?_
        refine lv_topi (fun z_6 ez_6 => ?_)
        obtain rfl : z_6 = nI ((6 * k) + 1) := ez_6.trans (nI_add ((6 * k)) 1)
        refine va_sld hx hb hX hbl hbA hS (vp_in_nI (by omega) (by omega)) dL_law_1359 ?_
        refine lv_topi (fun a_7 ea_7 => ?_)
        obtain rfl : a_7 = 0 := ea_7.trans ea_2.symm
        obtain ⟨jv, jl, jb, hR2, rfl⟩ := hMN
        obtain ⟨hP, hD⟩ := va_swap hP hD
        have hFx := free_of hD.left hS hA
        refine va_calli (va_runV (As := [.int 0]) (rest := []) ⟨hx, hb, hml, hown, hts⟩ (km_keep l dC dI H.size bd kd jv jl ja jb hR2 0) (cwV 1 hts g_law_X7_keep rfl rfl rfl (by decide +kernel) ⟨Nat.le_of_ble_eq_true rfl, Nat.le_of_ble_eq_true rfl⟩) ⟨fun a U g mk q => by obtain ⟨q0, q1, qP, qK, qD, qE⟩ := q; exact ⟨q0, q1, qP, va_K.moved (u := U) (U := U.calling g mk a) (Vm.Alike.refl U.vm) qK, qD, trivial⟩, va_recv hK2 hP.left (ci := 7) (q0 := 0) rfl rfl, fun U hU hW => ⟨rfl, by rw [hU], by rw [hU]; exact hP.left, va_K.moved hW.alike hK2, hD.left.weaken (fun _ _ _ _ => trivial), trivial⟩⟩ rfl rfl hl.1 rfl (lv_room (Nat.le_of_ble_eq_true rfl)) dL_law_1360 ⟨by show 70 + 9 * k + 9 + 0 ≤ 600000; omega, by show 7203 + 400 * k + 349 + 0 ≤ 7302250; omega⟩) hS (fun q _ h => hFx q h) hFx (fun r_8 V_10 t H1 locs ht hvm hw_9 hB hz1 hk1 hS => ?_)
        obtain ⟨hP, hD⟩ := va_joinA hP hD hk1 hFx (by rw [← ht]; exact hB.1) hB.2
        generalize H1 = H at hP hS ⊢
        obtain ⟨hP, hD⟩ := va_swap hP hD
        obtain ⟨hq9, jv2, jl2, ja2, jb2, hcm, hMR, rfl⟩ := hw_9
        refine lv_pop hx hb dL_law_1363 rfl ?_
        refine lv_goto (tgt := 1569) hx hb dL_law_1364 (by decide) ?_
        refine lv_iinc (v := nI (6 * (k + 1))) (lv' := [(3, .int (nI (6 * (k + 1)))), (2, .ref (bd 0)), (1, .ref (ad 0)), (0, .ref b)]) hx hb dL_law_1569 hl (k := 0) rfl (show nI (6 * k) + nI 6 = nI (6 * (k + 1)) from nI_add (6 * k) 6) (by decide) rfl (fun ls hl => ?_)
        refine lv_goto (tgt := 18) hx hb dL_law_1572 (by decide) ?_
        refine W.widen (k := 70 + 9 * (k + 1)) (n := 7203 + 400 * (k + 1)) (by omega) (by omega) ?_
        exact ih _ _ _ ⟨V_5, _, iv2, fI2, ja2, hREL.same hch.1 hcm.2.1 hcm.2.2, hKR.keep (k := 0) hcm (by decide) (by decide) hch.2.1 (fun j hj hne => by rcases (show j = 0 ∨ j = 1 ∨ j = 2 by omega) with rfl | rfl | rfl <;> first | exact absurd rfl hne | exact hch.2.1 | exact hch.2.2.1 | exact hch.2.2.2), hXJ, ⟨jv2, jl2, jb2, hMR, rfl⟩, hP, hD, hS, lv_sub hl [0, 1, 2, 3] rfl⟩
      · skip
        have hFx := free_of hD.left hS hA
        refine va_calli (va_runV (As := [.int 0]) (rest := []) ⟨hx, hb, hml, hown, hts⟩ (lx_keep_0_s l dC dI H.size ad kc fr gnS wS iv lv ia la ot fI hFX hR ga gi gl gj gk hG i1 i2 hI) (cwV 1 hts g_law_X6_keep_0_s rfl rfl rfl (by decide +kernel) ⟨Nat.le_of_ble_eq_true rfl, Nat.le_of_ble_eq_true rfl⟩) ⟨fun a U g mk q => by obtain ⟨q0, q1, qP, qK, qD, qE⟩ := q; exact ⟨q0, q1, qP, va_K.moved (u := U) (U := U.calling g mk a) (Vm.Alike.refl U.vm) qK, qD, trivial⟩, va_recv hK hP.left (ci := 6) (q0 := 0) rfl rfl, fun U hU hW => ⟨rfl, by rw [hU], by rw [hU]; exact hP.left, va_K.moved hW.alike hK, hD.left.weaken (fun _ _ _ _ => trivial), trivial⟩⟩ rfl rfl hl.1 rfl (lv_room (Nat.le_of_ble_eq_true rfl)) dL_law_1350 ⟨by show 70 + 9 * k + 0 + 0 ≤ 600000; omega, by show 7203 + 400 * k + 0 + 0 ≤ 7302250; omega⟩) hS (fun q _ h => hFx q h) hFx (fun r_11 V_13 t H1 locs ht hvm hw_12 hB hz1 hk1 hS => ?_)
        obtain ⟨hP, hD⟩ := va_joinA hP hD hk1 hFx (by rw [← ht]; exact hB.1) hB.2
        generalize H1 = H at hP hS ⊢
        obtain ⟨hp9, iv2, fI2, hch, hXJ⟩ := hw_12
        refine lv_pop hx hb dL_law_1353 rfl ?_
        refine lv_aload_n hx hb dL_law_1354 rfl (lv_at hl 1 rfl) ?_
        refine lv_aload_n hx hb dL_law_1355 rfl (lv_at hl 3 rfl) ?_
        refine lv_iload_n hx hb dL_law_1356 rfl (lv_at hl 0 rfl) ?_
        refine lv_iconst (v := 1) hx hb dL_law_1357 (by decide) ?_
        refine lv_iadd hx hb dL_law_1358 ?_
        refine lv_topi (fun z_14 ez_14 => ?_)
        obtain rfl : z_14 = nI ((6 * k) + 1) := ez_14.trans (nI_add ((6 * k)) 1)
        refine va_sld hx hb hX hbl hbA hS (vp_in_nI (by omega) (by omega)) dL_law_1359 ?_
        refine lv_topi (fun a_15 ea_15 => ?_)
        obtain rfl : a_15 = 0 := ea_15.trans ea_2.symm
        obtain ⟨jv, jl, jb, hR2, rfl⟩ := hMN
        obtain ⟨hP, hD⟩ := va_swap hP hD
        have hFx := free_of hD.left hS hA
        refine va_calli (va_runV (As := [.int 0]) (rest := []) ⟨hx, hb, hml, hown, hts⟩ (km_keep l dC dI H.size bd kd jv jl ja jb hR2 0) (cwV 1 hts g_law_X7_keep rfl rfl rfl (by decide +kernel) ⟨Nat.le_of_ble_eq_true rfl, Nat.le_of_ble_eq_true rfl⟩) ⟨fun a U g mk q => by obtain ⟨q0, q1, qP, qK, qD, qE⟩ := q; exact ⟨q0, q1, qP, va_K.moved (u := U) (U := U.calling g mk a) (Vm.Alike.refl U.vm) qK, qD, trivial⟩, va_recv hK2 hP.left (ci := 7) (q0 := 0) rfl rfl, fun U hU hW => ⟨rfl, by rw [hU], by rw [hU]; exact hP.left, va_K.moved hW.alike hK2, hD.left.weaken (fun _ _ _ _ => trivial), trivial⟩⟩ rfl rfl hl.1 rfl (lv_room (Nat.le_of_ble_eq_true rfl)) dL_law_1360 ⟨by show 70 + 9 * k + 0 + 0 ≤ 600000; omega, by show 7203 + 400 * k + 0 + 0 ≤ 7302250; omega⟩) hS (fun q _ h => hFx q h) hFx (fun r_16 V_18 t H1 locs ht hvm hw_17 hB hz1 hk1 hS => ?_)
        obtain ⟨hP, hD⟩ := va_joinA hP hD hk1 hFx (by rw [← ht]; exact hB.1) hB.2
        generalize H1 = H at hP hS ⊢
        obtain ⟨hP, hD⟩ := va_swap hP hD
        obtain ⟨hq9, jv2, jl2, ja2, jb2, hcm, hMR, rfl⟩ := hw_17
        refine lv_pop hx hb dL_law_1363 rfl ?_
        refine lv_goto (tgt := 1569) hx hb dL_law_1364 (by decide) ?_
        refine lv_iinc (v := nI (6 * (k + 1))) (lv' := [(3, .int (nI (6 * (k + 1)))), (2, .ref (bd 0)), (1, .ref (ad 0)), (0, .ref b)]) hx hb dL_law_1569 hl (k := 0) rfl (show nI (6 * k) + nI 6 = nI (6 * (k + 1)) from nI_add (6 * k) 6) (by decide) rfl (fun ls hl => ?_)
        refine lv_goto (tgt := 18) hx hb dL_law_1572 (by decide) ?_
        refine W.widen (k := 70 + 9 * (k + 1)) (n := 7203 + 400 * (k + 1)) (by omega) (by omega) ?_
        exact ih _ _ _ ⟨V_13, _, iv2, fI2, ja2, hREL.same hch.1 hcm.2.1 hcm.2.2, hKR.keep (k := 0) hcm (by decide) (by decide) (by rw [hch.2, hI]; exact fun q9 => by cases q9) (fun j _ _ => by rw [hch.2]), hXJ, ⟨jv2, jl2, jb2, hMR, rfl⟩, hP, hD, hS, lv_sub hl [0, 1, 2, 3] rfl⟩
    · subst h3
      rcases i1 with ⟨hI, rfl⟩ | ⟨ga, gi, gl, gj, gk, hI, rfl, hG⟩
      · skip
        have hFx := free_of hD.left hS hA
        refine va_calli (va_runV (As := [.int 1]) (rest := []) ⟨hx, hb, hml, hown, hts⟩ (lx_keep_1_n l dC dI H.size ad kc fr gnS wS iv lv ia la ot fI hFX hR i0 i2 hI) (cwV 1 hts g_law_X6_keep_1_n rfl rfl rfl (by decide +kernel) ⟨Nat.le_of_ble_eq_true rfl, Nat.le_of_ble_eq_true rfl⟩) ⟨fun a U g mk q => by obtain ⟨q0, q1, qP, qK, qD, qE⟩ := q; exact ⟨q0, q1, qP, va_K.moved (u := U) (U := U.calling g mk a) (Vm.Alike.refl U.vm) qK, qD, Kx.same rfl qE⟩, va_recv hK hP.left (ci := 6) (q0 := 0) rfl rfl, fun U hU hW => ⟨rfl, by rw [hU], by rw [hU]; exact hP.left, va_K.moved hW.alike hK, hD.left.weaken (fun _ _ _ _ => trivial), Kx.warm hW hE0⟩⟩ rfl rfl hl.1 rfl (lv_room (Nat.le_of_ble_eq_true rfl)) dL_law_1350 ⟨by show 70 + 9 * k + 0 + 9 ≤ 600000; omega, by show 7203 + 400 * k + 0 + 349 ≤ 7302250; omega⟩) hS (fun q _ h => hFx q h) hFx (fun r_19 V_21 t H1 locs ht hvm hw_20 hB hz1 hk1 hS => ?_)
        obtain ⟨hP, hD⟩ := va_joinA hP hD hk1 hFx (by rw [← ht]; exact hB.1) hB.2
        generalize H1 = H at hP hS ⊢
        refine W.widen (k := 70 + 9 * k + 9) (n := 7203 + 400 * k + 349) (by omega) (by omega) ?_
        obtain ⟨hp9, iv2, fI2, hch, hXJ⟩ := hw_20
        refine lv_pop hx hb dL_law_1353 rfl ?_
        refine lv_aload_n hx hb dL_law_1354 rfl (lv_at hl 1 rfl) ?_
        refine lv_aload_n hx hb dL_law_1355 rfl (lv_at hl 3 rfl) ?_
        refine lv_iload_n hx hb dL_law_1356 rfl (lv_at hl 0 rfl) ?_
        refine lv_iconst (v := 1) hx hb dL_law_1357 (by decide) ?_
        refine lv_iadd hx hb dL_law_1358 ?_
        refine lv_topi (fun z_22 ez_22 => ?_)
        obtain rfl : z_22 = nI ((6 * k) + 1) := ez_22.trans (nI_add ((6 * k)) 1)
        refine va_sld hx hb hX hbl hbA hS (vp_in_nI (by omega) (by omega)) dL_law_1359 ?_
        refine lv_topi (fun a_23 ea_23 => ?_)
        obtain rfl : a_23 = 1 := ea_23.trans ea_2.symm
        obtain ⟨jv, jl, jb, hR2, rfl⟩ := hMN
        obtain ⟨hP, hD⟩ := va_swap hP hD
        have hFx := free_of hD.left hS hA
        refine va_calli (va_runV (As := [.int 1]) (rest := []) ⟨hx, hb, hml, hown, hts⟩ (km_keep l dC dI H.size bd kd jv jl ja jb hR2 1) (cwV 1 hts g_law_X7_keep rfl rfl rfl (by decide +kernel) ⟨Nat.le_of_ble_eq_true rfl, Nat.le_of_ble_eq_true rfl⟩) ⟨fun a U g mk q => by obtain ⟨q0, q1, qP, qK, qD, qE⟩ := q; exact ⟨q0, q1, qP, va_K.moved (u := U) (U := U.calling g mk a) (Vm.Alike.refl U.vm) qK, qD, trivial⟩, va_recv hK2 hP.left (ci := 7) (q0 := 0) rfl rfl, fun U hU hW => ⟨rfl, by rw [hU], by rw [hU]; exact hP.left, va_K.moved hW.alike hK2, hD.left.weaken (fun _ _ _ _ => trivial), trivial⟩⟩ rfl rfl hl.1 rfl (lv_room (Nat.le_of_ble_eq_true rfl)) dL_law_1360 ⟨by show 70 + 9 * k + 9 + 0 ≤ 600000; omega, by show 7203 + 400 * k + 349 + 0 ≤ 7302250; omega⟩) hS (fun q _ h => hFx q h) hFx (fun r_24 V_26 t H1 locs ht hvm hw_25 hB hz1 hk1 hS => ?_)
        obtain ⟨hP, hD⟩ := va_joinA hP hD hk1 hFx (by rw [← ht]; exact hB.1) hB.2
        generalize H1 = H at hP hS ⊢
        obtain ⟨hP, hD⟩ := va_swap hP hD
        obtain ⟨hq9, jv2, jl2, ja2, jb2, hcm, hMR, rfl⟩ := hw_25
        refine lv_pop hx hb dL_law_1363 rfl ?_
        refine lv_goto (tgt := 1569) hx hb dL_law_1364 (by decide) ?_
        refine lv_iinc (v := nI (6 * (k + 1))) (lv' := [(3, .int (nI (6 * (k + 1)))), (2, .ref (bd 0)), (1, .ref (ad 0)), (0, .ref b)]) hx hb dL_law_1569 hl (k := 0) rfl (show nI (6 * k) + nI 6 = nI (6 * (k + 1)) from nI_add (6 * k) 6) (by decide) rfl (fun ls hl => ?_)
        refine lv_goto (tgt := 18) hx hb dL_law_1572 (by decide) ?_
        refine W.widen (k := 70 + 9 * (k + 1)) (n := 7203 + 400 * (k + 1)) (by omega) (by omega) ?_
        exact ih _ _ _ ⟨V_21, _, iv2, fI2, ja2, hREL.same hch.1 hcm.2.1 hcm.2.2, hKR.keep (k := 1) hcm (by decide) (by decide) hch.2.2.1 (fun j hj hne => by rcases (show j = 0 ∨ j = 1 ∨ j = 2 by omega) with rfl | rfl | rfl <;> first | exact absurd rfl hne | exact hch.2.1 | exact hch.2.2.1 | exact hch.2.2.2), hXJ, ⟨jv2, jl2, jb2, hMR, rfl⟩, hP, hD, hS, lv_sub hl [0, 1, 2, 3] rfl⟩
      · skip
        have hFx := free_of hD.left hS hA
        refine va_calli (va_runV (As := [.int 1]) (rest := []) ⟨hx, hb, hml, hown, hts⟩ (lx_keep_1_s l dC dI H.size ad kc fr gnS wS iv lv ia la ot fI hFX hR ga gi gl gj gk hG i0 i2 hI) (cwV 1 hts g_law_X6_keep_1_s rfl rfl rfl (by decide +kernel) ⟨Nat.le_of_ble_eq_true rfl, Nat.le_of_ble_eq_true rfl⟩) ⟨fun a U g mk q => by obtain ⟨q0, q1, qP, qK, qD, qE⟩ := q; exact ⟨q0, q1, qP, va_K.moved (u := U) (U := U.calling g mk a) (Vm.Alike.refl U.vm) qK, qD, trivial⟩, va_recv hK hP.left (ci := 6) (q0 := 0) rfl rfl, fun U hU hW => ⟨rfl, by rw [hU], by rw [hU]; exact hP.left, va_K.moved hW.alike hK, hD.left.weaken (fun _ _ _ _ => trivial), trivial⟩⟩ rfl rfl hl.1 rfl (lv_room (Nat.le_of_ble_eq_true rfl)) dL_law_1350 ⟨by show 70 + 9 * k + 0 + 0 ≤ 600000; omega, by show 7203 + 400 * k + 0 + 0 ≤ 7302250; omega⟩) hS (fun q _ h => hFx q h) hFx (fun r_27 V_29 t H1 locs ht hvm hw_28 hB hz1 hk1 hS => ?_)
        obtain ⟨hP, hD⟩ := va_joinA hP hD hk1 hFx (by rw [← ht]; exact hB.1) hB.2
        generalize H1 = H at hP hS ⊢
        obtain ⟨hp9, iv2, fI2, hch, hXJ⟩ := hw_28
        refine lv_pop hx hb dL_law_1353 rfl ?_
        refine lv_aload_n hx hb dL_law_1354 rfl (lv_at hl 1 rfl) ?_
        refine lv_aload_n hx hb dL_law_1355 rfl (lv_at hl 3 rfl) ?_
        refine lv_iload_n hx hb dL_law_1356 rfl (lv_at hl 0 rfl) ?_
        refine lv_iconst (v := 1) hx hb dL_law_1357 (by decide) ?_
        refine lv_iadd hx hb dL_law_1358 ?_
        refine lv_topi (fun z_30 ez_30 => ?_)
        obtain rfl : z_30 = nI ((6 * k) + 1) := ez_30.trans (nI_add ((6 * k)) 1)
        refine va_sld hx hb hX hbl hbA hS (vp_in_nI (by omega) (by omega)) dL_law_1359 ?_
        refine lv_topi (fun a_31 ea_31 => ?_)
        obtain rfl : a_31 = 1 := ea_31.trans ea_2.symm
        obtain ⟨jv, jl, jb, hR2, rfl⟩ := hMN
        obtain ⟨hP, hD⟩ := va_swap hP hD
        have hFx := free_of hD.left hS hA
        refine va_calli (va_runV (As := [.int 1]) (rest := []) ⟨hx, hb, hml, hown, hts⟩ (km_keep l dC dI H.size bd kd jv jl ja jb hR2 1) (cwV 1 hts g_law_X7_keep rfl rfl rfl (by decide +kernel) ⟨Nat.le_of_ble_eq_true rfl, Nat.le_of_ble_eq_true rfl⟩) ⟨fun a U g mk q => by obtain ⟨q0, q1, qP, qK, qD, qE⟩ := q; exact ⟨q0, q1, qP, va_K.moved (u := U) (U := U.calling g mk a) (Vm.Alike.refl U.vm) qK, qD, trivial⟩, va_recv hK2 hP.left (ci := 7) (q0 := 0) rfl rfl, fun U hU hW => ⟨rfl, by rw [hU], by rw [hU]; exact hP.left, va_K.moved hW.alike hK2, hD.left.weaken (fun _ _ _ _ => trivial), trivial⟩⟩ rfl rfl hl.1 rfl (lv_room (Nat.le_of_ble_eq_true rfl)) dL_law_1360 ⟨by show 70 + 9 * k + 0 + 0 ≤ 600000; omega, by show 7203 + 400 * k + 0 + 0 ≤ 7302250; omega⟩) hS (fun q _ h => hFx q h) hFx (fun r_32 V_34 t H1 locs ht hvm hw_33 hB hz1 hk1 hS => ?_)
        obtain ⟨hP, hD⟩ := va_joinA hP hD hk1 hFx (by rw [← ht]; exact hB.1) hB.2
        generalize H1 = H at hP hS ⊢
        obtain ⟨hP, hD⟩ := va_swap hP hD
        obtain ⟨hq9, jv2, jl2, ja2, jb2, hcm, hMR, rfl⟩ := hw_33
        refine lv_pop hx hb dL_law_1363 rfl ?_
        refine lv_goto (tgt := 1569) hx hb dL_law_1364 (by decide) ?_
        refine lv_iinc (v := nI (6 * (k + 1))) (lv' := [(3, .int (nI (6 * (k + 1)))), (2, .ref (bd 0)), (1, .ref (ad 0)), (0, .ref b)]) hx hb dL_law_1569 hl (k := 0) rfl (show nI (6 * k) + nI 6 = nI (6 * (k + 1)) from nI_add (6 * k) 6) (by decide) rfl (fun ls hl => ?_)
        refine lv_goto (tgt := 18) hx hb dL_law_1572 (by decide) ?_
        refine W.widen (k := 70 + 9 * (k + 1)) (n := 7203 + 400 * (k + 1)) (by omega) (by omega) ?_
        exact ih _ _ _ ⟨V_29, _, iv2, fI2, ja2, hREL.same hch.1 hcm.2.1 hcm.2.2, hKR.keep (k := 1) hcm (by decide) (by decide) (by rw [hch.2, hI]; exact fun q9 => by cases q9) (fun j _ _ => by rw [hch.2]), hXJ, ⟨jv2, jl2, jb2, hMR, rfl⟩, hP, hD, hS, lv_sub hl [0, 1, 2, 3] rfl⟩
    · subst h3
      rcases i2 with ⟨hI, rfl⟩ | ⟨ga, gi, gl, gj, gk, hI, rfl, hG⟩
      · skip
        have hFx := free_of hD.left hS hA
        refine va_calli (va_runV (As := [.int 2]) (rest := []) ⟨hx, hb, hml, hown, hts⟩ (lx_keep_2_n l dC dI H.size ad kc fr gnS wS iv lv ia la ot fI hFX hR i0 i1 hI) (cwV 1 hts g_law_X6_keep_2_n rfl rfl rfl (by decide +kernel) ⟨Nat.le_of_ble_eq_true rfl, Nat.le_of_ble_eq_true rfl⟩) ⟨fun a U g mk q => by obtain ⟨q0, q1, qP, qK, qD, qE⟩ := q; exact ⟨q0, q1, qP, va_K.moved (u := U) (U := U.calling g mk a) (Vm.Alike.refl U.vm) qK, qD, Kx.same rfl qE⟩, va_recv hK hP.left (ci := 6) (q0 := 0) rfl rfl, fun U hU hW => ⟨rfl, by rw [hU], by rw [hU]; exact hP.left, va_K.moved hW.alike hK, hD.left.weaken (fun _ _ _ _ => trivial), Kx.warm hW hE0⟩⟩ rfl rfl hl.1 rfl (lv_room (Nat.le_of_ble_eq_true rfl)) dL_law_1350 ⟨by show 70 + 9 * k + 0 + 9 ≤ 600000; omega, by show 7203 + 400 * k + 0 + 349 ≤ 7302250; omega⟩) hS (fun q _ h => hFx q h) hFx (fun r_35 V_37 t H1 locs ht hvm hw_36 hB hz1 hk1 hS => ?_)
        obtain ⟨hP, hD⟩ := va_joinA hP hD hk1 hFx (by rw [← ht]; exact hB.1) hB.2
        generalize H1 = H at hP hS ⊢
        refine W.widen (k := 70 + 9 * k + 9) (n := 7203 + 400 * k + 349) (by omega) (by omega) ?_
        obtain ⟨hp9, iv2, fI2, hch, hXJ⟩ := hw_36
        refine lv_pop hx hb dL_law_1353 rfl ?_
        refine lv_aload_n hx hb dL_law_1354 rfl (lv_at hl 1 rfl) ?_
        refine lv_aload_n hx hb dL_law_1355 rfl (lv_at hl 3 rfl) ?_
        refine lv_iload_n hx hb dL_law_1356 rfl (lv_at hl 0 rfl) ?_
        refine lv_iconst (v := 1) hx hb dL_law_1357 (by decide) ?_
        refine lv_iadd hx hb dL_law_1358 ?_
        refine lv_topi (fun z_38 ez_38 => ?_)
        obtain rfl : z_38 = nI ((6 * k) + 1) := ez_38.trans (nI_add ((6 * k)) 1)
        refine va_sld hx hb hX hbl hbA hS (vp_in_nI (by omega) (by omega)) dL_law_1359 ?_
        refine lv_topi (fun a_39 ea_39 => ?_)
        obtain rfl : a_39 = 2 := ea_39.trans ea_2.symm
        obtain ⟨jv, jl, jb, hR2, rfl⟩ := hMN
        obtain ⟨hP, hD⟩ := va_swap hP hD
        have hFx := free_of hD.left hS hA
        refine va_calli (va_runV (As := [.int 2]) (rest := []) ⟨hx, hb, hml, hown, hts⟩ (km_keep l dC dI H.size bd kd jv jl ja jb hR2 2) (cwV 1 hts g_law_X7_keep rfl rfl rfl (by decide +kernel) ⟨Nat.le_of_ble_eq_true rfl, Nat.le_of_ble_eq_true rfl⟩) ⟨fun a U g mk q => by obtain ⟨q0, q1, qP, qK, qD, qE⟩ := q; exact ⟨q0, q1, qP, va_K.moved (u := U) (U := U.calling g mk a) (Vm.Alike.refl U.vm) qK, qD, trivial⟩, va_recv hK2 hP.left (ci := 7) (q0 := 0) rfl rfl, fun U hU hW => ⟨rfl, by rw [hU], by rw [hU]; exact hP.left, va_K.moved hW.alike hK2, hD.left.weaken (fun _ _ _ _ => trivial), trivial⟩⟩ rfl rfl hl.1 rfl (lv_room (Nat.le_of_ble_eq_true rfl)) dL_law_1360 ⟨by show 70 + 9 * k + 9 + 0 ≤ 600000; omega, by show 7203 + 400 * k + 349 + 0 ≤ 7302250; omega⟩) hS (fun q _ h => hFx q h) hFx (fun r_40 V_42 t H1 locs ht hvm hw_41 hB hz1 hk1 hS => ?_)
        obtain ⟨hP, hD⟩ := va_joinA hP hD hk1 hFx (by rw [← ht]; exact hB.1) hB.2
        generalize H1 = H at hP hS ⊢
        obtain ⟨hP, hD⟩ := va_swap hP hD
        obtain ⟨hq9, jv2, jl2, ja2, jb2, hcm, hMR, rfl⟩ := hw_41
        refine lv_pop hx hb dL_law_1363 rfl ?_
        refine lv_goto (tgt := 1569) hx hb dL_law_1364 (by decide) ?_
        refine lv_iinc (v := nI (6 * (k + 1))) (lv' := [(3, .int (nI (6 * (k + 1)))), (2, .ref (bd 0)), (1, .ref (ad 0)), (0, .ref b)]) hx hb dL_law_1569 hl (k := 0) rfl (show nI (6 * k) + nI 6 = nI (6 * (k + 1)) from nI_add (6 * k) 6) (by decide) rfl (fun ls hl => ?_)
        refine lv_goto (tgt := 18) hx hb dL_law_1572 (by decide) ?_
        refine W.widen (k := 70 + 9 * (k + 1)) (n := 7203 + 400 * (k + 1)) (by omega) (by omega) ?_
        exact ih _ _ _ ⟨V_37, _, iv2, fI2, ja2, hREL.same hch.1 hcm.2.1 hcm.2.2, hKR.keep (k := 2) hcm (by decide) (by decide) hch.2.2.2 (fun j hj hne => by rcases (show j = 0 ∨ j = 1 ∨ j = 2 by omega) with rfl | rfl | rfl <;> first | exact absurd rfl hne | exact hch.2.1 | exact hch.2.2.1 | exact hch.2.2.2), hXJ, ⟨jv2, jl2, jb2, hMR, rfl⟩, hP, hD, hS, lv_sub hl [0, 1, 2, 3] rfl⟩
      · skip
        have hFx := free_of hD.left hS hA
        refine va_calli (va_runV (As := [.int 2]) (rest := []) ⟨hx, hb, hml, hown, hts⟩ (lx_keep_2_s l dC dI H.size ad kc fr gnS wS iv lv ia la ot fI hFX hR ga gi gl gj gk hG i0 i1 hI) (cwV 1 hts g_law_X6_keep_2_s rfl rfl rfl (by decide +kernel) ⟨Nat.le_of_ble_eq_true rfl, Nat.le_of_ble_eq_true rfl⟩) ⟨fun a U g mk q => by obtain ⟨q0, q1, qP, qK, qD, qE⟩ := q; exact ⟨q0, q1, qP, va_K.moved (u := U) (U := U.calling g mk a) (Vm.Alike.refl U.vm) qK, qD, trivial⟩, va_recv hK hP.left (ci := 6) (q0 := 0) rfl rfl, fun U hU hW => ⟨rfl, by rw [hU], by rw [hU]; exact hP.left, va_K.moved hW.alike hK, hD.left.weaken (fun _ _ _ _ => trivial), trivial⟩⟩ rfl rfl hl.1 rfl (lv_room (Nat.le_of_ble_eq_true rfl)) dL_law_1350 ⟨by show 70 + 9 * k + 0 + 0 ≤ 600000; omega, by show 7203 + 400 * k + 0 + 0 ≤ 7302250; omega⟩) hS (fun q _ h => hFx q h) hFx (fun r_43 V_45 t H1 locs ht hvm hw_44 hB hz1 hk1 hS => ?_)
        obtain ⟨hP, hD⟩ := va_joinA hP hD hk1 hFx (by rw [← ht]; exact hB.1) hB.2
        generalize H1 = H at hP hS ⊢
        obtain ⟨hp9, iv2, fI2, hch, hXJ⟩ := hw_44
        refine lv_pop hx hb dL_law_1353 rfl ?_
        refine lv_aload_n hx hb dL_law_1354 rfl (lv_at hl 1 rfl) ?_
        refine lv_aload_n hx hb dL_law_1355 rfl (lv_at hl 3 rfl) ?_
        refine lv_iload_n hx hb dL_law_1356 rfl (lv_at hl 0 rfl) ?_
        refine lv_iconst (v := 1) hx hb dL_law_1357 (by decide) ?_
        refine lv_iadd hx hb dL_law_1358 ?_
        refine lv_topi (fun z_46 ez_46 => ?_)
        obtain rfl : z_46 = nI ((6 * k) + 1) := ez_46.trans (nI_add ((6 * k)) 1)
        refine va_sld hx hb hX hbl hbA hS (vp_in_nI (by omega) (by omega)) dL_law_1359 ?_
        refine lv_topi (fun a_47 ea_47 => ?_)
        obtain rfl : a_47 = 2 := ea_47.trans ea_2.symm
        obtain ⟨jv, jl, jb, hR2, rfl⟩ := hMN
        obtain ⟨hP, hD⟩ := va_swap hP hD
        have hFx := free_of hD.left hS hA
        refine va_calli (va_runV (As := [.int 2]) (rest := []) ⟨hx, hb, hml, hown, hts⟩ (km_keep l dC dI H.size bd kd jv jl ja jb hR2 2) (cwV 1 hts g_law_X7_keep rfl rfl rfl (by decide +kernel) ⟨Nat.le_of_ble_eq_true rfl, Nat.le_of_ble_eq_true rfl⟩) ⟨fun a U g mk q => by obtain ⟨q0, q1, qP, qK, qD, qE⟩ := q; exact ⟨q0, q1, qP, va_K.moved (u := U) (U := U.calling g mk a) (Vm.Alike.refl U.vm) qK, qD, trivial⟩, va_recv hK2 hP.left (ci := 7) (q0 := 0) rfl rfl, fun U hU hW => ⟨rfl, by rw [hU], by rw [hU]; exact hP.left, va_K.moved hW.alike hK2, hD.left.weaken (fun _ _ _ _ => trivial), trivial⟩⟩ rfl rfl hl.1 rfl (lv_room (Nat.le_of_ble_eq_true rfl)) dL_law_1360 ⟨by show 70 + 9 * k + 0 + 0 ≤ 600000; omega, by show 7203 + 400 * k + 0 + 0 ≤ 7302250; omega⟩) hS (fun q _ h => hFx q h) hFx (fun r_48 V_50 t H1 locs ht hvm hw_49 hB hz1 hk1 hS => ?_)
        obtain ⟨hP, hD⟩ := va_joinA hP hD hk1 hFx (by rw [← ht]; exact hB.1) hB.2
        generalize H1 = H at hP hS ⊢
        obtain ⟨hP, hD⟩ := va_swap hP hD
        obtain ⟨hq9, jv2, jl2, ja2, jb2, hcm, hMR, rfl⟩ := hw_49
        refine lv_pop hx hb dL_law_1363 rfl ?_
        refine lv_goto (tgt := 1569) hx hb dL_law_1364 (by decide) ?_
        refine lv_iinc (v := nI (6 * (k + 1))) (lv' := [(3, .int (nI (6 * (k + 1)))), (2, .ref (bd 0)), (1, .ref (ad 0)), (0, .ref b)]) hx hb dL_law_1569 hl (k := 0) rfl (show nI (6 * k) + nI 6 = nI (6 * (k + 1)) from nI_add (6 * k) 6) (by decide) rfl (fun ls hl => ?_)
        refine lv_goto (tgt := 18) hx hb dL_law_1572 (by decide) ?_
        refine W.widen (k := 70 + 9 * (k + 1)) (n := 7203 + 400 * (k + 1)) (by omega) (by omega) ?_
        exact ih _ _ _ ⟨V_45, _, iv2, fI2, ja2, hREL.same hch.1 hcm.2.1 hcm.2.2, hKR.keep (k := 2) hcm (by decide) (by decide) (by rw [hch.2, hI]; exact fun q9 => by cases q9) (fun j _ _ => by rw [hch.2]), hXJ, ⟨jv2, jl2, jb2, hMR, rfl⟩, hP, hD, hS, lv_sub hl [0, 1, 2, 3] rfl⟩
  · skip
    have hFx := free_of hD.left hS hA
    refine va_calli (va_runV (As := [.int a_2]) (rest := []) ⟨hx, hb, hml, hown, hts⟩ (Met_xi (kx_keep_o l dC dI H.size ad kc fr gnS wS iv lv ia la ot fI hR a_2 h0) i0 i1 i2 (EY := fun _ => True) (fun _ _ h => h)) (cwV 1 hts g_law_X6_keep_o rfl rfl rfl (by decide +kernel) ⟨Nat.le_of_ble_eq_true rfl, Nat.le_of_ble_eq_true rfl⟩) ⟨fun a U g mk q => by obtain ⟨q0, q1, qP, qK, qD, qE⟩ := q; exact ⟨q0, q1, qP, va_K.moved (u := U) (U := U.calling g mk a) (Vm.Alike.refl U.vm) qK, qD, trivial⟩, va_recv hK hP.left (ci := 6) (q0 := 0) rfl rfl, fun U hU hW => ⟨rfl, by rw [hU], by rw [hU]; exact hP.left, va_K.moved hW.alike hK, hD.left.weaken (fun _ _ _ _ => trivial), trivial⟩⟩ rfl rfl hl.1 rfl (lv_room (Nat.le_of_ble_eq_true rfl)) dL_law_1350 ⟨by show 70 + 9 * k + 0 + 0 ≤ 600000; omega, by show 7203 + 400 * k + 0 + 0 ≤ 7302250; omega⟩) hS (fun q _ h => hFx q h) hFx (fun r_51 V_53 t H1 locs ht hvm hw_52 hB hz1 hk1 hS => ?_)
    obtain ⟨hP, hD⟩ := va_joinA hP hD hk1 hFx (by rw [← ht]; exact hB.1) hB.2
    generalize H1 = H at hP hS ⊢
    obtain ⟨hp9, iv2, fI2, hch, hXJ⟩ := hw_52
    refine lv_pop hx hb dL_law_1353 rfl ?_
    refine lv_aload_n hx hb dL_law_1354 rfl (lv_at hl 1 rfl) ?_
    refine lv_aload_n hx hb dL_law_1355 rfl (lv_at hl 3 rfl) ?_
    refine lv_iload_n hx hb dL_law_1356 rfl (lv_at hl 0 rfl) ?_
    refine lv_iconst (v := 1) hx hb dL_law_1357 (by decide) ?_
    refine lv_iadd hx hb dL_law_1358 ?_
    refine lv_topi (fun z_54 ez_54 => ?_)
    obtain rfl : z_54 = nI ((6 * k) + 1) := ez_54.trans (nI_add ((6 * k)) 1)
    refine va_sld hx hb hX hbl hbA hS (vp_in_nI (by omega) (by omega)) dL_law_1359 ?_
    refine lv_topi (fun a_55 ea_55 => ?_)
    obtain rfl : a_2 = a_55 := ea_2.trans ea_55.symm
    obtain ⟨jv, jl, jb, hR2, rfl⟩ := hMN
    obtain ⟨hP, hD⟩ := va_swap hP hD
    have hFx := free_of hD.left hS hA
    refine va_calli (va_runV (As := [.int a_2]) (rest := []) ⟨hx, hb, hml, hown, hts⟩ (km_keep l dC dI H.size bd kd jv jl ja jb hR2 a_2) (cwV 1 hts g_law_X7_keep rfl rfl rfl (by decide +kernel) ⟨Nat.le_of_ble_eq_true rfl, Nat.le_of_ble_eq_true rfl⟩) ⟨fun a U g mk q => by obtain ⟨q0, q1, qP, qK, qD, qE⟩ := q; exact ⟨q0, q1, qP, va_K.moved (u := U) (U := U.calling g mk a) (Vm.Alike.refl U.vm) qK, qD, trivial⟩, va_recv hK2 hP.left (ci := 7) (q0 := 0) rfl rfl, fun U hU hW => ⟨rfl, by rw [hU], by rw [hU]; exact hP.left, va_K.moved hW.alike hK2, hD.left.weaken (fun _ _ _ _ => trivial), trivial⟩⟩ rfl rfl hl.1 rfl (lv_room (Nat.le_of_ble_eq_true rfl)) dL_law_1360 ⟨by show 70 + 9 * k + 0 + 0 ≤ 600000; omega, by show 7203 + 400 * k + 0 + 0 ≤ 7302250; omega⟩) hS (fun q _ h => hFx q h) hFx (fun r_56 V_58 t H1 locs ht hvm hw_57 hB hz1 hk1 hS => ?_)
    obtain ⟨hP, hD⟩ := va_joinA hP hD hk1 hFx (by rw [← ht]; exact hB.1) hB.2
    generalize H1 = H at hP hS ⊢
    obtain ⟨hP, hD⟩ := va_swap hP hD
    obtain ⟨hq9, jv2, jl2, ja2, jb2, hcm, hMR, rfl⟩ := hw_57
    refine lv_pop hx hb dL_law_1363 rfl ?_
    refine lv_goto (tgt := 1569) hx hb dL_law_1364 (by decide) ?_
    refine lv_iinc (v := nI (6 * (k + 1))) (lv' := [(3, .int (nI (6 * (k + 1)))), (2, .ref (bd 0)), (1, .ref (ad 0)), (0, .ref b)]) hx hb dL_law_1569 hl (k := 0) rfl (show nI (6 * k) + nI 6 = nI (6 * (k + 1)) from nI_add (6 * k) 6) (by decide) rfl (fun ls hl => ?_)
    refine lv_goto (tgt := 18) hx hb dL_law_1572 (by decide) ?_
    refine W.widen (k := 70 + 9 * (k + 1)) (n := 7203 + 400 * (k + 1)) (by omega) (by omega) ?_
    exact ih _ _ _ ⟨V_53, _, iv2, fI2, ja2, hREL.same hch.1 hcm.2.1 hcm.2.2, hKR.out hch.2 hcm h0, hXJ, ⟨jv2, jl2, jb2, hMR, rfl⟩, hP, hD, hS, lv_sub hl [0, 1, 2, 3] rfl⟩

set_option maxHeartbeats 4000000 in
set_option maxRecDepth 100000 in
/-- the law, its call 39: back -/
theorem lc_39 {p : Program} {e : Env} {s : State} {m : MethodId} {below : List Frame} {meth : Method} {c : Code} (l : Launch) {b L : Nat} {xs : Nat → Int32} (hL : L ≤ 3072) (C0 : lw_At p s m meth c b L xs) {A : Nat → Prop} (hA : ∀ q, s.heap.size ≤ q → A q) (hA2 : ∀ q, A q → s.heap.size ≤ q) (hE0 : Kx s) {sa sv sn : Nat → Nat} (hE9 : sx sa sv sn A s) {dC : Nat → ClassId} {dI : Nat → Nat → Nat} {ad : Nat → Nat} {kc : Nat → ClassId} {fr gnS wS : Nat → Option Nat} {bd : Nat → Nat} {kd : Nat → ClassId} (hFX : FX ad fr gnS wS) (hK : va_K (dC, dI) vwCl (XT kc) s) (hK2 : va_K (dC, dI) vwCl (MT kd) s) {k : Nat} (hk : 6 * k + 6 ≤ L) {H : Heap} {locs : List Loc} {ls : Array Slot} (hW : LW (dC, dI) A s b ad kc fr gnS wS bd kd k H locs ls) (ih : ∀ (H : Heap) (locs : List Loc) (ls : Array Slot), LW (dC, dI) A s b ad kc fr gnS wS bd kd (k + 1) H locs ls → W p l e room_1 s m #[Value.ref b] below meth c H locs (70 + 9 * (k + 1)) (7203 + 400 * (k + 1)) (lw_Z below #[Value.ref b] s) (F0 m 18 ls [])) : W p l e room_1 s m #[Value.ref b] below meth c H locs (70 + 9 * k) (7203 + 400 * k) (lw_Z below #[Value.ref b] s) (F0 m 1367 ls []) := by
  obtain ⟨hx, hb, hr, hml, hown, hts, hX, hbl, hlocks, hgv⟩ := id C0
  have hown : s.vm.findClass RL = some m.cls := hown
  have hts := fun w (h : w ∈ wz_law) => hts w (wz_law_in w h)
  have hbA : ¬ A b := fun h => absurd (hA2 b h) (Nat.not_le.mpr hbl)
  obtain ⟨Wx, Wm, iv, fI, ja, hREL, hKR, hXI, hMN, hP, hD, hS, hl⟩ := hW
  refine lv_aload_n hx hb dL_law_1367 rfl (lv_at hl 2 rfl) ?_
  refine lv_aload_n hx hb dL_law_1368 rfl (lv_at hl 3 rfl) ?_
  refine lv_iload_n hx hb dL_law_1369 rfl (lv_at hl 0 rfl) ?_
  refine lv_iconst (v := 1) hx hb dL_law_1370 (by decide) ?_
  refine lv_iadd hx hb dL_law_1371 ?_
  refine lv_topi (fun z_1 ez_1 => ?_)
  obtain rfl : z_1 = nI ((6 * k) + 1) := ez_1.trans (nI_add ((6 * k)) 1)
  refine va_sld hx hb hX hbl hbA hS (vp_in_nI (by omega) (by omega)) dL_law_1372 ?_
  refine lv_topi (fun a_2 ea_2 => ?_)
  obtain ⟨lv, ia, la, ot, t0, t1, t2, hR, i0, i1, i2, rfl⟩ := hXI
  by_cases h0 : 0 ≤ a_2.toInt ∧ a_2.toInt ≤ 2
  · rcases i_three (a := a_2) h0.1 h0.2 with h3 | h3 | h3
    · subst h3
      rcases i0 with ⟨hI, rfl⟩ | ⟨ga, gi, gl, gj, gk, hI, rfl, hG⟩
      · skip
        have hFx := free_of hD.left hS hA
        refine va_calli (va_runV (As := [.int 0]) (rest := []) ⟨hx, hb, hml, hown, hts⟩ (lx_back_0_n l dC dI H.size ad kc fr gnS wS iv lv ia la ot fI hFX hR i1 i2 hI) (cwV 1 hts g_law_X6_back_0_n rfl rfl rfl (by decide +kernel) ⟨Nat.le_of_ble_eq_true rfl, Nat.le_of_ble_eq_true rfl⟩) ⟨fun a U g mk q => by obtain ⟨q0, q1, qP, qK, qD, qE⟩ := q; exact ⟨q0, q1, qP, va_K.moved (u := U) (U := U.calling g mk a) (Vm.Alike.refl U.vm) qK, qD, trivial⟩, va_recv hK hP.left (ci := 6) (q0 := 0) rfl rfl, fun U hU hW => ⟨rfl, by rw [hU], by rw [hU]; exact hP.left, va_K.moved hW.alike hK, hD.left.weaken (fun _ _ _ _ => trivial), trivial⟩⟩ rfl rfl hl.1 rfl (lv_room (Nat.le_of_ble_eq_true rfl)) dL_law_1373 ⟨by show 70 + 9 * k + 0 + 0 ≤ 600000; omega, by show 7203 + 400 * k + 0 + 0 ≤ 7302250; omega⟩) hS (fun q _ h => hFx q h) hFx (fun r_3 V_5 t H1 locs ht hvm hw_4 hB hz1 hk1 hS => ?_)
        obtain ⟨hP, hD⟩ := va_joinA hP hD hk1 hFx (by rw [← ht]; exact hB.1) hB.2
        generalize H1 = H at hP hS ⊢
        obtain ⟨hp9, iv2, fI2, hch, hXJ⟩ := hw_4
        refine lv_pop hx hb dL_law_1376 rfl ?_
        refine lv_aload_n hx hb dL_law_1377 rfl (lv_at hl 1 rfl) ?_
        refine lv_aload_n hx hb dL_law_1378 rfl (lv_at hl 3 rfl) ?_
        refine lv_iload_n hx hb dL_law_1379 rfl (lv_at hl 0 rfl) ?_
        refine lv_iconst (v := 1) hx hb dL_law_1380 (by decide) ?_
        refine lv_iadd hx hb dL_law_1381 ?_
        refine lv_topi (fun z_6 ez_6 => ?_)
        obtain rfl : z_6 = nI ((6 * k) + 1) := ez_6.trans (nI_add ((6 * k)) 1)
        refine va_sld hx hb hX hbl hbA hS (vp_in_nI (by omega) (by omega)) dL_law_1382 ?_
        refine lv_topi (fun a_7 ea_7 => ?_)
        obtain rfl : a_7 = 0 := ea_7.trans ea_2.symm
        obtain ⟨jv, jl, jb, hR2, rfl⟩ := hMN
        obtain ⟨hP, hD⟩ := va_swap hP hD
        have hFx := free_of hD.left hS hA
        refine va_calli (va_runV (As := [.int 0]) (rest := []) ⟨hx, hb, hml, hown, hts⟩ (km_back l dC dI H.size bd kd jv jl ja jb hR2 0) (cwV 1 hts g_law_X7_back rfl rfl rfl (by decide +kernel) ⟨Nat.le_of_ble_eq_true rfl, Nat.le_of_ble_eq_true rfl⟩) ⟨fun a U g mk q => by obtain ⟨q0, q1, qP, qK, qD, qE⟩ := q; exact ⟨q0, q1, qP, va_K.moved (u := U) (U := U.calling g mk a) (Vm.Alike.refl U.vm) qK, qD, trivial⟩, va_recv hK2 hP.left (ci := 7) (q0 := 0) rfl rfl, fun U hU hW => ⟨rfl, by rw [hU], by rw [hU]; exact hP.left, va_K.moved hW.alike hK2, hD.left.weaken (fun _ _ _ _ => trivial), trivial⟩⟩ rfl rfl hl.1 rfl (lv_room (Nat.le_of_ble_eq_true rfl)) dL_law_1383 ⟨by show 70 + 9 * k + 0 + 0 ≤ 600000; omega, by show 7203 + 400 * k + 0 + 0 ≤ 7302250; omega⟩) hS (fun q _ h => hFx q h) hFx (fun r_8 V_10 t H1 locs ht hvm hw_9 hB hz1 hk1 hS => ?_)
        obtain ⟨hP, hD⟩ := va_joinA hP hD hk1 hFx (by rw [← ht]; exact hB.1) hB.2
        generalize H1 = H at hP hS ⊢
        obtain ⟨hP, hD⟩ := va_swap hP hD
        obtain ⟨hq9, jv2, jl2, ja2, jb2, hcm, hMR, rfl⟩ := hw_9
        refine lv_pop hx hb dL_law_1386 rfl ?_
        refine lv_goto (tgt := 1569) hx hb dL_law_1387 (by decide) ?_
        refine lv_iinc (v := nI (6 * (k + 1))) (lv' := [(3, .int (nI (6 * (k + 1)))), (2, .ref (bd 0)), (1, .ref (ad 0)), (0, .ref b)]) hx hb dL_law_1569 hl (k := 0) rfl (show nI (6 * k) + nI 6 = nI (6 * (k + 1)) from nI_add (6 * k) 6) (by decide) rfl (fun ls hl => ?_)
        refine lv_goto (tgt := 18) hx hb dL_law_1572 (by decide) ?_
        refine W.widen (k := 70 + 9 * (k + 1)) (n := 7203 + 400 * (k + 1)) (by omega) (by omega) ?_
        exact ih _ _ _ ⟨V_5, _, iv2, fI2, ja2, hREL.same hch.1 hcm.1 hcm.2.1, hKR.same hch.2 hcm.2.2, hXJ, ⟨jv2, jl2, jb2, hMR, rfl⟩, hP, hD, hS, lv_sub hl [0, 1, 2, 3] rfl⟩
      · skip
        have hFx := free_of hD.left hS hA
        refine va_calli (va_runV (As := [.int 0]) (rest := []) ⟨hx, hb, hml, hown, hts⟩ (lx_back_0_s l dC dI H.size ad kc fr gnS wS iv lv ia la ot fI hFX hR ga gi gl gj gk hG i1 i2 hI) (cwV 1 hts g_law_X6_back_0_s rfl rfl rfl (by decide +kernel) ⟨Nat.le_of_ble_eq_true rfl, Nat.le_of_ble_eq_true rfl⟩) ⟨fun a U g mk q => by obtain ⟨q0, q1, qP, qK, qD, qE⟩ := q; exact ⟨q0, q1, qP, va_K.moved (u := U) (U := U.calling g mk a) (Vm.Alike.refl U.vm) qK, qD, trivial⟩, va_recv hK hP.left (ci := 6) (q0 := 0) rfl rfl, fun U hU hW => ⟨rfl, by rw [hU], by rw [hU]; exact hP.left, va_K.moved hW.alike hK, hD.left.weaken (fun _ _ _ _ => trivial), trivial⟩⟩ rfl rfl hl.1 rfl (lv_room (Nat.le_of_ble_eq_true rfl)) dL_law_1373 ⟨by show 70 + 9 * k + 0 + 0 ≤ 600000; omega, by show 7203 + 400 * k + 0 + 0 ≤ 7302250; omega⟩) hS (fun q _ h => hFx q h) hFx (fun r_11 V_13 t H1 locs ht hvm hw_12 hB hz1 hk1 hS => ?_)
        obtain ⟨hP, hD⟩ := va_joinA hP hD hk1 hFx (by rw [← ht]; exact hB.1) hB.2
        generalize H1 = H at hP hS ⊢
        obtain ⟨hp9, iv2, fI2, hch, hXJ⟩ := hw_12
        refine lv_pop hx hb dL_law_1376 rfl ?_
        refine lv_aload_n hx hb dL_law_1377 rfl (lv_at hl 1 rfl) ?_
        refine lv_aload_n hx hb dL_law_1378 rfl (lv_at hl 3 rfl) ?_
        refine lv_iload_n hx hb dL_law_1379 rfl (lv_at hl 0 rfl) ?_
        refine lv_iconst (v := 1) hx hb dL_law_1380 (by decide) ?_
        refine lv_iadd hx hb dL_law_1381 ?_
        refine lv_topi (fun z_14 ez_14 => ?_)
        obtain rfl : z_14 = nI ((6 * k) + 1) := ez_14.trans (nI_add ((6 * k)) 1)
        refine va_sld hx hb hX hbl hbA hS (vp_in_nI (by omega) (by omega)) dL_law_1382 ?_
        refine lv_topi (fun a_15 ea_15 => ?_)
        obtain rfl : a_15 = 0 := ea_15.trans ea_2.symm
        obtain ⟨jv, jl, jb, hR2, rfl⟩ := hMN
        obtain ⟨hP, hD⟩ := va_swap hP hD
        have hFx := free_of hD.left hS hA
        refine va_calli (va_runV (As := [.int 0]) (rest := []) ⟨hx, hb, hml, hown, hts⟩ (km_back l dC dI H.size bd kd jv jl ja jb hR2 0) (cwV 1 hts g_law_X7_back rfl rfl rfl (by decide +kernel) ⟨Nat.le_of_ble_eq_true rfl, Nat.le_of_ble_eq_true rfl⟩) ⟨fun a U g mk q => by obtain ⟨q0, q1, qP, qK, qD, qE⟩ := q; exact ⟨q0, q1, qP, va_K.moved (u := U) (U := U.calling g mk a) (Vm.Alike.refl U.vm) qK, qD, trivial⟩, va_recv hK2 hP.left (ci := 7) (q0 := 0) rfl rfl, fun U hU hW => ⟨rfl, by rw [hU], by rw [hU]; exact hP.left, va_K.moved hW.alike hK2, hD.left.weaken (fun _ _ _ _ => trivial), trivial⟩⟩ rfl rfl hl.1 rfl (lv_room (Nat.le_of_ble_eq_true rfl)) dL_law_1383 ⟨by show 70 + 9 * k + 0 + 0 ≤ 600000; omega, by show 7203 + 400 * k + 0 + 0 ≤ 7302250; omega⟩) hS (fun q _ h => hFx q h) hFx (fun r_16 V_18 t H1 locs ht hvm hw_17 hB hz1 hk1 hS => ?_)
        obtain ⟨hP, hD⟩ := va_joinA hP hD hk1 hFx (by rw [← ht]; exact hB.1) hB.2
        generalize H1 = H at hP hS ⊢
        obtain ⟨hP, hD⟩ := va_swap hP hD
        obtain ⟨hq9, jv2, jl2, ja2, jb2, hcm, hMR, rfl⟩ := hw_17
        refine lv_pop hx hb dL_law_1386 rfl ?_
        refine lv_goto (tgt := 1569) hx hb dL_law_1387 (by decide) ?_
        refine lv_iinc (v := nI (6 * (k + 1))) (lv' := [(3, .int (nI (6 * (k + 1)))), (2, .ref (bd 0)), (1, .ref (ad 0)), (0, .ref b)]) hx hb dL_law_1569 hl (k := 0) rfl (show nI (6 * k) + nI 6 = nI (6 * (k + 1)) from nI_add (6 * k) 6) (by decide) rfl (fun ls hl => ?_)
        refine lv_goto (tgt := 18) hx hb dL_law_1572 (by decide) ?_
        refine W.widen (k := 70 + 9 * (k + 1)) (n := 7203 + 400 * (k + 1)) (by omega) (by omega) ?_
        exact ih _ _ _ ⟨V_13, _, iv2, fI2, ja2, hREL.same hch.1 hcm.1 hcm.2.1, hKR.same hch.2 hcm.2.2, hXJ, ⟨jv2, jl2, jb2, hMR, rfl⟩, hP, hD, hS, lv_sub hl [0, 1, 2, 3] rfl⟩
    · subst h3
      rcases i1 with ⟨hI, rfl⟩ | ⟨ga, gi, gl, gj, gk, hI, rfl, hG⟩
      · skip
        have hFx := free_of hD.left hS hA
        refine va_calli (va_runV (As := [.int 1]) (rest := []) ⟨hx, hb, hml, hown, hts⟩ (lx_back_1_n l dC dI H.size ad kc fr gnS wS iv lv ia la ot fI hFX hR i0 i2 hI) (cwV 1 hts g_law_X6_back_1_n rfl rfl rfl (by decide +kernel) ⟨Nat.le_of_ble_eq_true rfl, Nat.le_of_ble_eq_true rfl⟩) ⟨fun a U g mk q => by obtain ⟨q0, q1, qP, qK, qD, qE⟩ := q; exact ⟨q0, q1, qP, va_K.moved (u := U) (U := U.calling g mk a) (Vm.Alike.refl U.vm) qK, qD, trivial⟩, va_recv hK hP.left (ci := 6) (q0 := 0) rfl rfl, fun U hU hW => ⟨rfl, by rw [hU], by rw [hU]; exact hP.left, va_K.moved hW.alike hK, hD.left.weaken (fun _ _ _ _ => trivial), trivial⟩⟩ rfl rfl hl.1 rfl (lv_room (Nat.le_of_ble_eq_true rfl)) dL_law_1373 ⟨by show 70 + 9 * k + 0 + 0 ≤ 600000; omega, by show 7203 + 400 * k + 0 + 0 ≤ 7302250; omega⟩) hS (fun q _ h => hFx q h) hFx (fun r_19 V_21 t H1 locs ht hvm hw_20 hB hz1 hk1 hS => ?_)
        obtain ⟨hP, hD⟩ := va_joinA hP hD hk1 hFx (by rw [← ht]; exact hB.1) hB.2
        generalize H1 = H at hP hS ⊢
        obtain ⟨hp9, iv2, fI2, hch, hXJ⟩ := hw_20
        refine lv_pop hx hb dL_law_1376 rfl ?_
        refine lv_aload_n hx hb dL_law_1377 rfl (lv_at hl 1 rfl) ?_
        refine lv_aload_n hx hb dL_law_1378 rfl (lv_at hl 3 rfl) ?_
        refine lv_iload_n hx hb dL_law_1379 rfl (lv_at hl 0 rfl) ?_
        refine lv_iconst (v := 1) hx hb dL_law_1380 (by decide) ?_
        refine lv_iadd hx hb dL_law_1381 ?_
        refine lv_topi (fun z_22 ez_22 => ?_)
        obtain rfl : z_22 = nI ((6 * k) + 1) := ez_22.trans (nI_add ((6 * k)) 1)
        refine va_sld hx hb hX hbl hbA hS (vp_in_nI (by omega) (by omega)) dL_law_1382 ?_
        refine lv_topi (fun a_23 ea_23 => ?_)
        obtain rfl : a_23 = 1 := ea_23.trans ea_2.symm
        obtain ⟨jv, jl, jb, hR2, rfl⟩ := hMN
        obtain ⟨hP, hD⟩ := va_swap hP hD
        have hFx := free_of hD.left hS hA
        refine va_calli (va_runV (As := [.int 1]) (rest := []) ⟨hx, hb, hml, hown, hts⟩ (km_back l dC dI H.size bd kd jv jl ja jb hR2 1) (cwV 1 hts g_law_X7_back rfl rfl rfl (by decide +kernel) ⟨Nat.le_of_ble_eq_true rfl, Nat.le_of_ble_eq_true rfl⟩) ⟨fun a U g mk q => by obtain ⟨q0, q1, qP, qK, qD, qE⟩ := q; exact ⟨q0, q1, qP, va_K.moved (u := U) (U := U.calling g mk a) (Vm.Alike.refl U.vm) qK, qD, trivial⟩, va_recv hK2 hP.left (ci := 7) (q0 := 0) rfl rfl, fun U hU hW => ⟨rfl, by rw [hU], by rw [hU]; exact hP.left, va_K.moved hW.alike hK2, hD.left.weaken (fun _ _ _ _ => trivial), trivial⟩⟩ rfl rfl hl.1 rfl (lv_room (Nat.le_of_ble_eq_true rfl)) dL_law_1383 ⟨by show 70 + 9 * k + 0 + 0 ≤ 600000; omega, by show 7203 + 400 * k + 0 + 0 ≤ 7302250; omega⟩) hS (fun q _ h => hFx q h) hFx (fun r_24 V_26 t H1 locs ht hvm hw_25 hB hz1 hk1 hS => ?_)
        obtain ⟨hP, hD⟩ := va_joinA hP hD hk1 hFx (by rw [← ht]; exact hB.1) hB.2
        generalize H1 = H at hP hS ⊢
        obtain ⟨hP, hD⟩ := va_swap hP hD
        obtain ⟨hq9, jv2, jl2, ja2, jb2, hcm, hMR, rfl⟩ := hw_25
        refine lv_pop hx hb dL_law_1386 rfl ?_
        refine lv_goto (tgt := 1569) hx hb dL_law_1387 (by decide) ?_
        refine lv_iinc (v := nI (6 * (k + 1))) (lv' := [(3, .int (nI (6 * (k + 1)))), (2, .ref (bd 0)), (1, .ref (ad 0)), (0, .ref b)]) hx hb dL_law_1569 hl (k := 0) rfl (show nI (6 * k) + nI 6 = nI (6 * (k + 1)) from nI_add (6 * k) 6) (by decide) rfl (fun ls hl => ?_)
        refine lv_goto (tgt := 18) hx hb dL_law_1572 (by decide) ?_
        refine W.widen (k := 70 + 9 * (k + 1)) (n := 7203 + 400 * (k + 1)) (by omega) (by omega) ?_
        exact ih _ _ _ ⟨V_21, _, iv2, fI2, ja2, hREL.same hch.1 hcm.1 hcm.2.1, hKR.same hch.2 hcm.2.2, hXJ, ⟨jv2, jl2, jb2, hMR, rfl⟩, hP, hD, hS, lv_sub hl [0, 1, 2, 3] rfl⟩
      · skip
        have hFx := free_of hD.left hS hA
        refine va_calli (va_runV (As := [.int 1]) (rest := []) ⟨hx, hb, hml, hown, hts⟩ (lx_back_1_s l dC dI H.size ad kc fr gnS wS iv lv ia la ot fI hFX hR ga gi gl gj gk hG i0 i2 hI) (cwV 1 hts g_law_X6_back_1_s rfl rfl rfl (by decide +kernel) ⟨Nat.le_of_ble_eq_true rfl, Nat.le_of_ble_eq_true rfl⟩) ⟨fun a U g mk q => by obtain ⟨q0, q1, qP, qK, qD, qE⟩ := q; exact ⟨q0, q1, qP, va_K.moved (u := U) (U := U.calling g mk a) (Vm.Alike.refl U.vm) qK, qD, trivial⟩, va_recv hK hP.left (ci := 6) (q0 := 0) rfl rfl, fun U hU hW => ⟨rfl, by rw [hU], by rw [hU]; exact hP.left, va_K.moved hW.alike hK, hD.left.weaken (fun _ _ _ _ => trivial), trivial⟩⟩ rfl rfl hl.1 rfl (lv_room (Nat.le_of_ble_eq_true rfl)) dL_law_1373 ⟨by show 70 + 9 * k + 0 + 0 ≤ 600000; omega, by show 7203 + 400 * k + 0 + 0 ≤ 7302250; omega⟩) hS (fun q _ h => hFx q h) hFx (fun r_27 V_29 t H1 locs ht hvm hw_28 hB hz1 hk1 hS => ?_)
        obtain ⟨hP, hD⟩ := va_joinA hP hD hk1 hFx (by rw [← ht]; exact hB.1) hB.2
        generalize H1 = H at hP hS ⊢
        obtain ⟨hp9, iv2, fI2, hch, hXJ⟩ := hw_28
        refine lv_pop hx hb dL_law_1376 rfl ?_
        refine lv_aload_n hx hb dL_law_1377 rfl (lv_at hl 1 rfl) ?_
        refine lv_aload_n hx hb dL_law_1378 rfl (lv_at hl 3 rfl) ?_
        refine lv_iload_n hx hb dL_law_1379 rfl (lv_at hl 0 rfl) ?_
        refine lv_iconst (v := 1) hx hb dL_law_1380 (by decide) ?_
        refine lv_iadd hx hb dL_law_1381 ?_
        refine lv_topi (fun z_30 ez_30 => ?_)
        obtain rfl : z_30 = nI ((6 * k) + 1) := ez_30.trans (nI_add ((6 * k)) 1)
        refine va_sld hx hb hX hbl hbA hS (vp_in_nI (by omega) (by omega)) dL_law_1382 ?_
        refine lv_topi (fun a_31 ea_31 => ?_)
        obtain rfl : a_31 = 1 := ea_31.trans ea_2.symm
        obtain ⟨jv, jl, jb, hR2, rfl⟩ := hMN
        obtain ⟨hP, hD⟩ := va_swap hP hD
        have hFx := free_of hD.left hS hA
        refine va_calli (va_runV (As := [.int 1]) (rest := []) ⟨hx, hb, hml, hown, hts⟩ (km_back l dC dI H.size bd kd jv jl ja jb hR2 1) (cwV 1 hts g_law_X7_back rfl rfl rfl (by decide +kernel) ⟨Nat.le_of_ble_eq_true rfl, Nat.le_of_ble_eq_true rfl⟩) ⟨fun a U g mk q => by obtain ⟨q0, q1, qP, qK, qD, qE⟩ := q; exact ⟨q0, q1, qP, va_K.moved (u := U) (U := U.calling g mk a) (Vm.Alike.refl U.vm) qK, qD, trivial⟩, va_recv hK2 hP.left (ci := 7) (q0 := 0) rfl rfl, fun U hU hW => ⟨rfl, by rw [hU], by rw [hU]; exact hP.left, va_K.moved hW.alike hK2, hD.left.weaken (fun _ _ _ _ => trivial), trivial⟩⟩ rfl rfl hl.1 rfl (lv_room (Nat.le_of_ble_eq_true rfl)) dL_law_1383 ⟨by show 70 + 9 * k + 0 + 0 ≤ 600000; omega, by show 7203 + 400 * k + 0 + 0 ≤ 7302250; omega⟩) hS (fun q _ h => hFx q h) hFx (fun r_32 V_34 t H1 locs ht hvm hw_33 hB hz1 hk1 hS => ?_)
        obtain ⟨hP, hD⟩ := va_joinA hP hD hk1 hFx (by rw [← ht]; exact hB.1) hB.2
        generalize H1 = H at hP hS ⊢
        obtain ⟨hP, hD⟩ := va_swap hP hD
        obtain ⟨hq9, jv2, jl2, ja2, jb2, hcm, hMR, rfl⟩ := hw_33
        refine lv_pop hx hb dL_law_1386 rfl ?_
        refine lv_goto (tgt := 1569) hx hb dL_law_1387 (by decide) ?_
        refine lv_iinc (v := nI (6 * (k + 1))) (lv' := [(3, .int (nI (6 * (k + 1)))), (2, .ref (bd 0)), (1, .ref (ad 0)), (0, .ref b)]) hx hb dL_law_1569 hl (k := 0) rfl (show nI (6 * k) + nI 6 = nI (6 * (k + 1)) from nI_add (6 * k) 6) (by decide) rfl (fun ls hl => ?_)
        refine lv_goto (tgt := 18) hx hb dL_law_1572 (by decide) ?_
        refine W.widen (k := 70 + 9 * (k + 1)) (n := 7203 + 400 * (k + 1)) (by omega) (by omega) ?_
        exact ih _ _ _ ⟨V_29, _, iv2, fI2, ja2, hREL.same hch.1 hcm.1 hcm.2.1, hKR.same hch.2 hcm.2.2, hXJ, ⟨jv2, jl2, jb2, hMR, rfl⟩, hP, hD, hS, lv_sub hl [0, 1, 2, 3] rfl⟩
    · subst h3
      rcases i2 with ⟨hI, rfl⟩ | ⟨ga, gi, gl, gj, gk, hI, rfl, hG⟩
      · skip
        have hFx := free_of hD.left hS hA
        refine va_calli (va_runV (As := [.int 2]) (rest := []) ⟨hx, hb, hml, hown, hts⟩ (lx_back_2_n l dC dI H.size ad kc fr gnS wS iv lv ia la ot fI hFX hR i0 i1 hI) (cwV 1 hts g_law_X6_back_2_n rfl rfl rfl (by decide +kernel) ⟨Nat.le_of_ble_eq_true rfl, Nat.le_of_ble_eq_true rfl⟩) ⟨fun a U g mk q => by obtain ⟨q0, q1, qP, qK, qD, qE⟩ := q; exact ⟨q0, q1, qP, va_K.moved (u := U) (U := U.calling g mk a) (Vm.Alike.refl U.vm) qK, qD, trivial⟩, va_recv hK hP.left (ci := 6) (q0 := 0) rfl rfl, fun U hU hW => ⟨rfl, by rw [hU], by rw [hU]; exact hP.left, va_K.moved hW.alike hK, hD.left.weaken (fun _ _ _ _ => trivial), trivial⟩⟩ rfl rfl hl.1 rfl (lv_room (Nat.le_of_ble_eq_true rfl)) dL_law_1373 ⟨by show 70 + 9 * k + 0 + 0 ≤ 600000; omega, by show 7203 + 400 * k + 0 + 0 ≤ 7302250; omega⟩) hS (fun q _ h => hFx q h) hFx (fun r_35 V_37 t H1 locs ht hvm hw_36 hB hz1 hk1 hS => ?_)
        obtain ⟨hP, hD⟩ := va_joinA hP hD hk1 hFx (by rw [← ht]; exact hB.1) hB.2
        generalize H1 = H at hP hS ⊢
        obtain ⟨hp9, iv2, fI2, hch, hXJ⟩ := hw_36
        refine lv_pop hx hb dL_law_1376 rfl ?_
        refine lv_aload_n hx hb dL_law_1377 rfl (lv_at hl 1 rfl) ?_
        refine lv_aload_n hx hb dL_law_1378 rfl (lv_at hl 3 rfl) ?_
        refine lv_iload_n hx hb dL_law_1379 rfl (lv_at hl 0 rfl) ?_
        refine lv_iconst (v := 1) hx hb dL_law_1380 (by decide) ?_
        refine lv_iadd hx hb dL_law_1381 ?_
        refine lv_topi (fun z_38 ez_38 => ?_)
        obtain rfl : z_38 = nI ((6 * k) + 1) := ez_38.trans (nI_add ((6 * k)) 1)
        refine va_sld hx hb hX hbl hbA hS (vp_in_nI (by omega) (by omega)) dL_law_1382 ?_
        refine lv_topi (fun a_39 ea_39 => ?_)
        obtain rfl : a_39 = 2 := ea_39.trans ea_2.symm
        obtain ⟨jv, jl, jb, hR2, rfl⟩ := hMN
        obtain ⟨hP, hD⟩ := va_swap hP hD
        have hFx := free_of hD.left hS hA
        refine va_calli (va_runV (As := [.int 2]) (rest := []) ⟨hx, hb, hml, hown, hts⟩ (km_back l dC dI H.size bd kd jv jl ja jb hR2 2) (cwV 1 hts g_law_X7_back rfl rfl rfl (by decide +kernel) ⟨Nat.le_of_ble_eq_true rfl, Nat.le_of_ble_eq_true rfl⟩) ⟨fun a U g mk q => by obtain ⟨q0, q1, qP, qK, qD, qE⟩ := q; exact ⟨q0, q1, qP, va_K.moved (u := U) (U := U.calling g mk a) (Vm.Alike.refl U.vm) qK, qD, trivial⟩, va_recv hK2 hP.left (ci := 7) (q0 := 0) rfl rfl, fun U hU hW => ⟨rfl, by rw [hU], by rw [hU]; exact hP.left, va_K.moved hW.alike hK2, hD.left.weaken (fun _ _ _ _ => trivial), trivial⟩⟩ rfl rfl hl.1 rfl (lv_room (Nat.le_of_ble_eq_true rfl)) dL_law_1383 ⟨by show 70 + 9 * k + 0 + 0 ≤ 600000; omega, by show 7203 + 400 * k + 0 + 0 ≤ 7302250; omega⟩) hS (fun q _ h => hFx q h) hFx (fun r_40 V_42 t H1 locs ht hvm hw_41 hB hz1 hk1 hS => ?_)
        obtain ⟨hP, hD⟩ := va_joinA hP hD hk1 hFx (by rw [← ht]; exact hB.1) hB.2
        generalize H1 = H at hP hS ⊢
        obtain ⟨hP, hD⟩ := va_swap hP hD
        obtain ⟨hq9, jv2, jl2, ja2, jb2, hcm, hMR, rfl⟩ := hw_41
        refine lv_pop hx hb dL_law_1386 rfl ?_
        refine lv_goto (tgt := 1569) hx hb dL_law_1387 (by decide) ?_
        refine lv_iinc (v := nI (6 * (k + 1))) (lv' := [(3, .int (nI (6 * (k + 1)))), (2, .ref (bd 0)), (1, .ref (ad 0)), (0, .ref b)]) hx hb dL_law_1569 hl (k := 0) rfl (show nI (6 * k) + nI 6 = nI (6 * (k + 1)) from nI_add (6 * k) 6) (by decide) rfl (fun ls hl => ?_)
        refine lv_goto (tgt := 18) hx hb dL_law_1572 (by decide) ?_
        refine W.widen (k := 70 + 9 * (k + 1)) (n := 7203 + 400 * (k + 1)) (by omega) (by omega) ?_
        exact ih _ _ _ ⟨V_37, _, iv2, fI2, ja2, hREL.same hch.1 hcm.1 hcm.2.1, hKR.same hch.2 hcm.2.2, hXJ, ⟨jv2, jl2, jb2, hMR, rfl⟩, hP, hD, hS, lv_sub hl [0, 1, 2, 3] rfl⟩
      · skip
        have hFx := free_of hD.left hS hA
        refine va_calli (va_runV (As := [.int 2]) (rest := []) ⟨hx, hb, hml, hown, hts⟩ (lx_back_2_s l dC dI H.size ad kc fr gnS wS iv lv ia la ot fI hFX hR ga gi gl gj gk hG i0 i1 hI) (cwV 1 hts g_law_X6_back_2_s rfl rfl rfl (by decide +kernel) ⟨Nat.le_of_ble_eq_true rfl, Nat.le_of_ble_eq_true rfl⟩) ⟨fun a U g mk q => by obtain ⟨q0, q1, qP, qK, qD, qE⟩ := q; exact ⟨q0, q1, qP, va_K.moved (u := U) (U := U.calling g mk a) (Vm.Alike.refl U.vm) qK, qD, trivial⟩, va_recv hK hP.left (ci := 6) (q0 := 0) rfl rfl, fun U hU hW => ⟨rfl, by rw [hU], by rw [hU]; exact hP.left, va_K.moved hW.alike hK, hD.left.weaken (fun _ _ _ _ => trivial), trivial⟩⟩ rfl rfl hl.1 rfl (lv_room (Nat.le_of_ble_eq_true rfl)) dL_law_1373 ⟨by show 70 + 9 * k + 0 + 0 ≤ 600000; omega, by show 7203 + 400 * k + 0 + 0 ≤ 7302250; omega⟩) hS (fun q _ h => hFx q h) hFx (fun r_43 V_45 t H1 locs ht hvm hw_44 hB hz1 hk1 hS => ?_)
        obtain ⟨hP, hD⟩ := va_joinA hP hD hk1 hFx (by rw [← ht]; exact hB.1) hB.2
        generalize H1 = H at hP hS ⊢
        obtain ⟨hp9, iv2, fI2, hch, hXJ⟩ := hw_44
        refine lv_pop hx hb dL_law_1376 rfl ?_
        refine lv_aload_n hx hb dL_law_1377 rfl (lv_at hl 1 rfl) ?_
        refine lv_aload_n hx hb dL_law_1378 rfl (lv_at hl 3 rfl) ?_
        refine lv_iload_n hx hb dL_law_1379 rfl (lv_at hl 0 rfl) ?_
        refine lv_iconst (v := 1) hx hb dL_law_1380 (by decide) ?_
        refine lv_iadd hx hb dL_law_1381 ?_
        refine lv_topi (fun z_46 ez_46 => ?_)
        obtain rfl : z_46 = nI ((6 * k) + 1) := ez_46.trans (nI_add ((6 * k)) 1)
        refine va_sld hx hb hX hbl hbA hS (vp_in_nI (by omega) (by omega)) dL_law_1382 ?_
        refine lv_topi (fun a_47 ea_47 => ?_)
        obtain rfl : a_47 = 2 := ea_47.trans ea_2.symm
        obtain ⟨jv, jl, jb, hR2, rfl⟩ := hMN
        obtain ⟨hP, hD⟩ := va_swap hP hD
        have hFx := free_of hD.left hS hA
        refine va_calli (va_runV (As := [.int 2]) (rest := []) ⟨hx, hb, hml, hown, hts⟩ (km_back l dC dI H.size bd kd jv jl ja jb hR2 2) (cwV 1 hts g_law_X7_back rfl rfl rfl (by decide +kernel) ⟨Nat.le_of_ble_eq_true rfl, Nat.le_of_ble_eq_true rfl⟩) ⟨fun a U g mk q => by obtain ⟨q0, q1, qP, qK, qD, qE⟩ := q; exact ⟨q0, q1, qP, va_K.moved (u := U) (U := U.calling g mk a) (Vm.Alike.refl U.vm) qK, qD, trivial⟩, va_recv hK2 hP.left (ci := 7) (q0 := 0) rfl rfl, fun U hU hW => ⟨rfl, by rw [hU], by rw [hU]; exact hP.left, va_K.moved hW.alike hK2, hD.left.weaken (fun _ _ _ _ => trivial), trivial⟩⟩ rfl rfl hl.1 rfl (lv_room (Nat.le_of_ble_eq_true rfl)) dL_law_1383 ⟨by show 70 + 9 * k + 0 + 0 ≤ 600000; omega, by show 7203 + 400 * k + 0 + 0 ≤ 7302250; omega⟩) hS (fun q _ h => hFx q h) hFx (fun r_48 V_50 t H1 locs ht hvm hw_49 hB hz1 hk1 hS => ?_)
        obtain ⟨hP, hD⟩ := va_joinA hP hD hk1 hFx (by rw [← ht]; exact hB.1) hB.2
        generalize H1 = H at hP hS ⊢
        obtain ⟨hP, hD⟩ := va_swap hP hD
        obtain ⟨hq9, jv2, jl2, ja2, jb2, hcm, hMR, rfl⟩ := hw_49
        refine lv_pop hx hb dL_law_1386 rfl ?_
        refine lv_goto (tgt := 1569) hx hb dL_law_1387 (by decide) ?_
        refine lv_iinc (v := nI (6 * (k + 1))) (lv' := [(3, .int (nI (6 * (k + 1)))), (2, .ref (bd 0)), (1, .ref (ad 0)), (0, .ref b)]) hx hb dL_law_1569 hl (k := 0) rfl (show nI (6 * k) + nI 6 = nI (6 * (k + 1)) from nI_add (6 * k) 6) (by decide) rfl (fun ls hl => ?_)
        refine lv_goto (tgt := 18) hx hb dL_law_1572 (by decide) ?_
        refine W.widen (k := 70 + 9 * (k + 1)) (n := 7203 + 400 * (k + 1)) (by omega) (by omega) ?_
        exact ih _ _ _ ⟨V_45, _, iv2, fI2, ja2, hREL.same hch.1 hcm.1 hcm.2.1, hKR.same hch.2 hcm.2.2, hXJ, ⟨jv2, jl2, jb2, hMR, rfl⟩, hP, hD, hS, lv_sub hl [0, 1, 2, 3] rfl⟩
  · skip
    have hFx := free_of hD.left hS hA
    refine va_calli (va_runV (As := [.int a_2]) (rest := []) ⟨hx, hb, hml, hown, hts⟩ (Met_xi (kx_back_o l dC dI H.size ad kc fr gnS wS iv lv ia la ot fI hR a_2 h0) i0 i1 i2 (EY := fun _ => True) (fun _ _ h => h)) (cwV 1 hts g_law_X6_back_o rfl rfl rfl (by decide +kernel) ⟨Nat.le_of_ble_eq_true rfl, Nat.le_of_ble_eq_true rfl⟩) ⟨fun a U g mk q => by obtain ⟨q0, q1, qP, qK, qD, qE⟩ := q; exact ⟨q0, q1, qP, va_K.moved (u := U) (U := U.calling g mk a) (Vm.Alike.refl U.vm) qK, qD, trivial⟩, va_recv hK hP.left (ci := 6) (q0 := 0) rfl rfl, fun U hU hW => ⟨rfl, by rw [hU], by rw [hU]; exact hP.left, va_K.moved hW.alike hK, hD.left.weaken (fun _ _ _ _ => trivial), trivial⟩⟩ rfl rfl hl.1 rfl (lv_room (Nat.le_of_ble_eq_true rfl)) dL_law_1373 ⟨by show 70 + 9 * k + 0 + 0 ≤ 600000; omega, by show 7203 + 400 * k + 0 + 0 ≤ 7302250; omega⟩) hS (fun q _ h => hFx q h) hFx (fun r_51 V_53 t H1 locs ht hvm hw_52 hB hz1 hk1 hS => ?_)
    obtain ⟨hP, hD⟩ := va_joinA hP hD hk1 hFx (by rw [← ht]; exact hB.1) hB.2
    generalize H1 = H at hP hS ⊢
    obtain ⟨hp9, iv2, fI2, hch, hXJ⟩ := hw_52
    refine lv_pop hx hb dL_law_1376 rfl ?_
    refine lv_aload_n hx hb dL_law_1377 rfl (lv_at hl 1 rfl) ?_
    refine lv_aload_n hx hb dL_law_1378 rfl (lv_at hl 3 rfl) ?_
    refine lv_iload_n hx hb dL_law_1379 rfl (lv_at hl 0 rfl) ?_
    refine lv_iconst (v := 1) hx hb dL_law_1380 (by decide) ?_
    refine lv_iadd hx hb dL_law_1381 ?_
    refine lv_topi (fun z_54 ez_54 => ?_)
    obtain rfl : z_54 = nI ((6 * k) + 1) := ez_54.trans (nI_add ((6 * k)) 1)
    refine va_sld hx hb hX hbl hbA hS (vp_in_nI (by omega) (by omega)) dL_law_1382 ?_
    refine lv_topi (fun a_55 ea_55 => ?_)
    obtain rfl : a_2 = a_55 := ea_2.trans ea_55.symm
    obtain ⟨jv, jl, jb, hR2, rfl⟩ := hMN
    obtain ⟨hP, hD⟩ := va_swap hP hD
    have hFx := free_of hD.left hS hA
    refine va_calli (va_runV (As := [.int a_2]) (rest := []) ⟨hx, hb, hml, hown, hts⟩ (km_back l dC dI H.size bd kd jv jl ja jb hR2 a_2) (cwV 1 hts g_law_X7_back rfl rfl rfl (by decide +kernel) ⟨Nat.le_of_ble_eq_true rfl, Nat.le_of_ble_eq_true rfl⟩) ⟨fun a U g mk q => by obtain ⟨q0, q1, qP, qK, qD, qE⟩ := q; exact ⟨q0, q1, qP, va_K.moved (u := U) (U := U.calling g mk a) (Vm.Alike.refl U.vm) qK, qD, trivial⟩, va_recv hK2 hP.left (ci := 7) (q0 := 0) rfl rfl, fun U hU hW => ⟨rfl, by rw [hU], by rw [hU]; exact hP.left, va_K.moved hW.alike hK2, hD.left.weaken (fun _ _ _ _ => trivial), trivial⟩⟩ rfl rfl hl.1 rfl (lv_room (Nat.le_of_ble_eq_true rfl)) dL_law_1383 ⟨by show 70 + 9 * k + 0 + 0 ≤ 600000; omega, by show 7203 + 400 * k + 0 + 0 ≤ 7302250; omega⟩) hS (fun q _ h => hFx q h) hFx (fun r_56 V_58 t H1 locs ht hvm hw_57 hB hz1 hk1 hS => ?_)
    obtain ⟨hP, hD⟩ := va_joinA hP hD hk1 hFx (by rw [← ht]; exact hB.1) hB.2
    generalize H1 = H at hP hS ⊢
    obtain ⟨hP, hD⟩ := va_swap hP hD
    obtain ⟨hq9, jv2, jl2, ja2, jb2, hcm, hMR, rfl⟩ := hw_57
    refine lv_pop hx hb dL_law_1386 rfl ?_
    refine lv_goto (tgt := 1569) hx hb dL_law_1387 (by decide) ?_
    refine lv_iinc (v := nI (6 * (k + 1))) (lv' := [(3, .int (nI (6 * (k + 1)))), (2, .ref (bd 0)), (1, .ref (ad 0)), (0, .ref b)]) hx hb dL_law_1569 hl (k := 0) rfl (show nI (6 * k) + nI 6 = nI (6 * (k + 1)) from nI_add (6 * k) 6) (by decide) rfl (fun ls hl => ?_)
    refine lv_goto (tgt := 18) hx hb dL_law_1572 (by decide) ?_
    refine W.widen (k := 70 + 9 * (k + 1)) (n := 7203 + 400 * (k + 1)) (by omega) (by omega) ?_
    exact ih _ _ _ ⟨V_53, _, iv2, fI2, ja2, hREL.same hch.1 hcm.1 hcm.2.1, hKR.same hch.2 hcm.2.2, hXJ, ⟨jv2, jl2, jb2, hMR, rfl⟩, hP, hD, hS, lv_sub hl [0, 1, 2, 3] rfl⟩

set_option maxHeartbeats 4000000 in
set_option maxRecDepth 100000 in
/-- the law, its call 40: row -/
theorem lc_40 {p : Program} {e : Env} {s : State} {m : MethodId} {below : List Frame} {meth : Method} {c : Code} (l : Launch) {b L : Nat} {xs : Nat → Int32} (hL : L ≤ 3072) (C0 : lw_At p s m meth c b L xs) {A : Nat → Prop} (hA : ∀ q, s.heap.size ≤ q → A q) (hA2 : ∀ q, A q → s.heap.size ≤ q) (hE0 : Kx s) {sa sv sn : Nat → Nat} (hE9 : sx sa sv sn A s) {dC : Nat → ClassId} {dI : Nat → Nat → Nat} {ad : Nat → Nat} {kc : Nat → ClassId} {fr gnS wS : Nat → Option Nat} {bd : Nat → Nat} {kd : Nat → ClassId} (hFX : FX ad fr gnS wS) (hK : va_K (dC, dI) vwCl (XT kc) s) (hK2 : va_K (dC, dI) vwCl (MT kd) s) {k : Nat} (hk : 6 * k + 6 ≤ L) {H : Heap} {locs : List Loc} {ls : Array Slot} (hW : LW (dC, dI) A s b ad kc fr gnS wS bd kd k H locs ls) (ih : ∀ (H : Heap) (locs : List Loc) (ls : Array Slot), LW (dC, dI) A s b ad kc fr gnS wS bd kd (k + 1) H locs ls → W p l e room_1 s m #[Value.ref b] below meth c H locs (70 + 9 * (k + 1)) (7203 + 400 * (k + 1)) (lw_Z below #[Value.ref b] s) (F0 m 18 ls [])) : W p l e room_1 s m #[Value.ref b] below meth c H locs (70 + 9 * k) (7203 + 400 * k) (lw_Z below #[Value.ref b] s) (F0 m 1390 ls []) := by
  obtain ⟨hx, hb, hr, hml, hown, hts, hX, hbl, hlocks, hgv⟩ := id C0
  have hown : s.vm.findClass RL = some m.cls := hown
  have hts := fun w (h : w ∈ wz_law) => hts w (wz_law_in w h)
  have hbA : ¬ A b := fun h => absurd (hA2 b h) (Nat.not_le.mpr hbl)
  obtain ⟨Wx, Wm, iv, fI, ja, hREL, hKR, hXI, hMN, hP, hD, hS, hl⟩ := hW
  refine lv_aload_n hx hb dL_law_1390 rfl (lv_at hl 2 rfl) ?_
  refine lv_aload_n hx hb dL_law_1391 rfl (lv_at hl 3 rfl) ?_
  refine lv_iload_n hx hb dL_law_1392 rfl (lv_at hl 0 rfl) ?_
  refine lv_iconst (v := 1) hx hb dL_law_1393 (by decide) ?_
  refine lv_iadd hx hb dL_law_1394 ?_
  refine lv_topi (fun z_1 ez_1 => ?_)
  obtain rfl : z_1 = nI ((6 * k) + 1) := ez_1.trans (nI_add ((6 * k)) 1)
  refine va_sld hx hb hX hbl hbA hS (vp_in_nI (by omega) (by omega)) dL_law_1395 ?_
  refine lv_topi (fun a_2 ea_2 => ?_)
  refine lv_aload_n hx hb dL_law_1396 rfl (lv_at hl 3 rfl) ?_
  refine lv_iload_n hx hb dL_law_1397 rfl (lv_at hl 0 rfl) ?_
  refine lv_iconst (v := 2) hx hb dL_law_1398 (by decide) ?_
  refine lv_iadd hx hb dL_law_1399 ?_
  refine lv_topi (fun z_3 ez_3 => ?_)
  obtain rfl : z_3 = nI ((6 * k) + 2) := ez_3.trans (nI_add ((6 * k)) 2)
  refine va_sld hx hb hX hbl hbA hS (vp_in_nI (by omega) (by omega)) dL_law_1400 ?_
  refine lv_topi (fun a_4 ea_4 => ?_)
  refine lv_aload_n hx hb dL_law_1401 rfl (lv_at hl 3 rfl) ?_
  refine lv_iload_n hx hb dL_law_1402 rfl (lv_at hl 0 rfl) ?_
  refine lv_iconst (v := 3) hx hb dL_law_1403 (by decide) ?_
  refine lv_iadd hx hb dL_law_1404 ?_
  refine lv_topi (fun z_5 ez_5 => ?_)
  obtain rfl : z_5 = nI ((6 * k) + 3) := ez_5.trans (nI_add ((6 * k)) 3)
  refine va_sld hx hb hX hbl hbA hS (vp_in_nI (by omega) (by omega)) dL_law_1405 ?_
  refine lv_topi (fun a_6 ea_6 => ?_)
  obtain ⟨lv, ia, la, ot, t0, t1, t2, hR, i0, i1, i2, rfl⟩ := hXI
  have hFx := free_of hD.left hS hA
  refine va_calli (va_runV (As := [.int a_2, .int a_4, .int a_6]) (rest := []) ⟨hx, hb, hml, hown, hts⟩ (Met_xi (kx_row l dC dI H.size ad kc fr gnS wS iv lv ia la ot fI hFX hR a_2 a_4 a_6) i0 i1 i2 (EY := fun _ => True) (fun _ _ h => h)) (cwV 3 hts g_law_X6_row rfl rfl rfl (by decide +kernel) ⟨Nat.le_of_ble_eq_true rfl, Nat.le_of_ble_eq_true rfl⟩) ⟨fun a U g mk q => by obtain ⟨q0, q1, qP, qK, qD, qE⟩ := q; exact ⟨q0, q1, qP, va_K.moved (u := U) (U := U.calling g mk a) (Vm.Alike.refl U.vm) qK, qD, trivial⟩, va_recv hK hP.left (ci := 6) (q0 := 0) rfl rfl, fun U hU hW => ⟨rfl, by rw [hU], by rw [hU]; exact hP.left, va_K.moved hW.alike hK, hD.left.weaken (fun _ _ _ _ => trivial), trivial⟩⟩ rfl rfl hl.1 rfl (lv_room (Nat.le_of_ble_eq_true rfl)) dL_law_1406 ⟨by show 70 + 9 * k + 0 + 0 ≤ 600000; omega, by show 7203 + 400 * k + 0 + 0 ≤ 7302250; omega⟩) hS (fun q _ h => hFx q h) hFx (fun r_7 V_9 t H1 locs ht hvm hw_8 hB hz1 hk1 hS => ?_)
  obtain ⟨hP, hD⟩ := va_joinA hP hD hk1 hFx (by rw [← ht]; exact hB.1) hB.2
  generalize H1 = H at hP hS ⊢
  obtain ⟨hp9, iv2, fI2, hch, hXJ⟩ := hw_8
  refine lv_pop hx hb dL_law_1409 rfl ?_
  refine lv_aload_n hx hb dL_law_1410 rfl (lv_at hl 1 rfl) ?_
  refine lv_aload_n hx hb dL_law_1411 rfl (lv_at hl 3 rfl) ?_
  refine lv_iload_n hx hb dL_law_1412 rfl (lv_at hl 0 rfl) ?_
  refine lv_iconst (v := 1) hx hb dL_law_1413 (by decide) ?_
  refine lv_iadd hx hb dL_law_1414 ?_
  refine lv_topi (fun z_10 ez_10 => ?_)
  obtain rfl : z_10 = nI ((6 * k) + 1) := ez_10.trans (nI_add ((6 * k)) 1)
  refine va_sld hx hb hX hbl hbA hS (vp_in_nI (by omega) (by omega)) dL_law_1415 ?_
  refine lv_topi (fun a_11 ea_11 => ?_)
  obtain rfl : a_2 = a_11 := ea_2.trans ea_11.symm
  refine lv_aload_n hx hb dL_law_1416 rfl (lv_at hl 3 rfl) ?_
  refine lv_iload_n hx hb dL_law_1417 rfl (lv_at hl 0 rfl) ?_
  refine lv_iconst (v := 2) hx hb dL_law_1418 (by decide) ?_
  refine lv_iadd hx hb dL_law_1419 ?_
  refine lv_topi (fun z_12 ez_12 => ?_)
  obtain rfl : z_12 = nI ((6 * k) + 2) := ez_12.trans (nI_add ((6 * k)) 2)
  refine va_sld hx hb hX hbl hbA hS (vp_in_nI (by omega) (by omega)) dL_law_1420 ?_
  refine lv_topi (fun a_13 ea_13 => ?_)
  obtain rfl : a_4 = a_13 := ea_4.trans ea_13.symm
  refine lv_aload_n hx hb dL_law_1421 rfl (lv_at hl 3 rfl) ?_
  refine lv_iload_n hx hb dL_law_1422 rfl (lv_at hl 0 rfl) ?_
  refine lv_iconst (v := 3) hx hb dL_law_1423 (by decide) ?_
  refine lv_iadd hx hb dL_law_1424 ?_
  refine lv_topi (fun z_14 ez_14 => ?_)
  obtain rfl : z_14 = nI ((6 * k) + 3) := ez_14.trans (nI_add ((6 * k)) 3)
  refine va_sld hx hb hX hbl hbA hS (vp_in_nI (by omega) (by omega)) dL_law_1425 ?_
  refine lv_topi (fun a_15 ea_15 => ?_)
  obtain rfl : a_6 = a_15 := ea_6.trans ea_15.symm
  obtain ⟨jv, jl, jb, hR2, rfl⟩ := hMN
  obtain ⟨hP, hD⟩ := va_swap hP hD
  have hFx := free_of hD.left hS hA
  refine va_calli (va_runV (As := [.int a_2, .int a_4, .int a_6]) (rest := []) ⟨hx, hb, hml, hown, hts⟩ (km_row l dC dI H.size bd kd jv jl ja jb hR2 a_2 a_4 a_6) (cwV 3 hts g_law_X7_row rfl rfl rfl (by decide +kernel) ⟨Nat.le_of_ble_eq_true rfl, Nat.le_of_ble_eq_true rfl⟩) ⟨fun a U g mk q => by obtain ⟨q0, q1, qP, qK, qD, qE⟩ := q; exact ⟨q0, q1, qP, va_K.moved (u := U) (U := U.calling g mk a) (Vm.Alike.refl U.vm) qK, qD, trivial⟩, va_recv hK2 hP.left (ci := 7) (q0 := 0) rfl rfl, fun U hU hW => ⟨rfl, by rw [hU], by rw [hU]; exact hP.left, va_K.moved hW.alike hK2, hD.left.weaken (fun _ _ _ _ => trivial), trivial⟩⟩ rfl rfl hl.1 rfl (lv_room (Nat.le_of_ble_eq_true rfl)) dL_law_1426 ⟨by show 70 + 9 * k + 0 + 0 ≤ 600000; omega, by show 7203 + 400 * k + 0 + 0 ≤ 7302250; omega⟩) hS (fun q _ h => hFx q h) hFx (fun r_16 V_18 t H1 locs ht hvm hw_17 hB hz1 hk1 hS => ?_)
  obtain ⟨hP, hD⟩ := va_joinA hP hD hk1 hFx (by rw [← ht]; exact hB.1) hB.2
  generalize H1 = H at hP hS ⊢
  obtain ⟨hP, hD⟩ := va_swap hP hD
  obtain ⟨hq9, jv2, jl2, ja2, jb2, hcm, hMR, rfl⟩ := hw_17
  refine lv_pop hx hb dL_law_1429 rfl ?_
  refine lv_goto (tgt := 1569) hx hb dL_law_1430 (by decide) ?_
  refine lv_iinc (v := nI (6 * (k + 1))) (lv' := [(3, .int (nI (6 * (k + 1)))), (2, .ref (bd 0)), (1, .ref (ad 0)), (0, .ref b)]) hx hb dL_law_1569 hl (k := 0) rfl (show nI (6 * k) + nI 6 = nI (6 * (k + 1)) from nI_add (6 * k) 6) (by decide) rfl (fun ls hl => ?_)
  refine lv_goto (tgt := 18) hx hb dL_law_1572 (by decide) ?_
  refine W.widen (k := 70 + 9 * (k + 1)) (n := 7203 + 400 * (k + 1)) (by omega) (by omega) ?_
  exact ih _ _ _ ⟨V_9, _, iv2, fI2, ja2, hREL.row hch.1 hcm, hKR.same hch.2 hcm.2, hXJ, ⟨jv2, jl2, jb2, hMR, rfl⟩, hP, hD, hS, lv_sub hl [0, 1, 2, 3] rfl⟩

set_option maxHeartbeats 4000000 in
set_option maxRecDepth 100000 in
/-- the law, its call 41: write -/
theorem lc_41 {p : Program} {e : Env} {s : State} {m : MethodId} {below : List Frame} {meth : Method} {c : Code} (l : Launch) {b L : Nat} {xs : Nat → Int32} (hL : L ≤ 3072) (C0 : lw_At p s m meth c b L xs) {A : Nat → Prop} (hA : ∀ q, s.heap.size ≤ q → A q) (hA2 : ∀ q, A q → s.heap.size ≤ q) (hE0 : Kx s) {sa sv sn : Nat → Nat} (hE9 : sx sa sv sn A s) {dC : Nat → ClassId} {dI : Nat → Nat → Nat} {ad : Nat → Nat} {kc : Nat → ClassId} {fr gnS wS : Nat → Option Nat} {bd : Nat → Nat} {kd : Nat → ClassId} (hFX : FX ad fr gnS wS) (hK : va_K (dC, dI) vwCl (XT kc) s) (hK2 : va_K (dC, dI) vwCl (MT kd) s) {k : Nat} (hk : 6 * k + 6 ≤ L) {H : Heap} {locs : List Loc} {ls : Array Slot} (hW : LW (dC, dI) A s b ad kc fr gnS wS bd kd k H locs ls) (ih : ∀ (H : Heap) (locs : List Loc) (ls : Array Slot), LW (dC, dI) A s b ad kc fr gnS wS bd kd (k + 1) H locs ls → W p l e room_1 s m #[Value.ref b] below meth c H locs (70 + 9 * (k + 1)) (7203 + 400 * (k + 1)) (lw_Z below #[Value.ref b] s) (F0 m 18 ls [])) : W p l e room_1 s m #[Value.ref b] below meth c H locs (70 + 9 * k) (7203 + 400 * k) (lw_Z below #[Value.ref b] s) (F0 m 1433 ls []) := by
  obtain ⟨hx, hb, hr, hml, hown, hts, hX, hbl, hlocks, hgv⟩ := id C0
  have hown : s.vm.findClass RL = some m.cls := hown
  have hts := fun w (h : w ∈ wz_law) => hts w (wz_law_in w h)
  have hbA : ¬ A b := fun h => absurd (hA2 b h) (Nat.not_le.mpr hbl)
  obtain ⟨Wx, Wm, iv, fI, ja, hREL, hKR, hXI, hMN, hP, hD, hS, hl⟩ := hW
  refine lv_aload_n hx hb dL_law_1433 rfl (lv_at hl 2 rfl) ?_
  refine lv_aload_n hx hb dL_law_1434 rfl (lv_at hl 3 rfl) ?_
  refine lv_iload_n hx hb dL_law_1435 rfl (lv_at hl 0 rfl) ?_
  refine lv_iconst (v := 1) hx hb dL_law_1436 (by decide) ?_
  refine lv_iadd hx hb dL_law_1437 ?_
  refine lv_topi (fun z_1 ez_1 => ?_)
  obtain rfl : z_1 = nI ((6 * k) + 1) := ez_1.trans (nI_add ((6 * k)) 1)
  refine va_sld hx hb hX hbl hbA hS (vp_in_nI (by omega) (by omega)) dL_law_1438 ?_
  refine lv_topi (fun a_2 ea_2 => ?_)
  refine lv_aload_n hx hb dL_law_1439 rfl (lv_at hl 3 rfl) ?_
  refine lv_iload_n hx hb dL_law_1440 rfl (lv_at hl 0 rfl) ?_
  refine lv_iconst (v := 2) hx hb dL_law_1441 (by decide) ?_
  refine lv_iadd hx hb dL_law_1442 ?_
  refine lv_topi (fun z_3 ez_3 => ?_)
  obtain rfl : z_3 = nI ((6 * k) + 2) := ez_3.trans (nI_add ((6 * k)) 2)
  refine va_sld hx hb hX hbl hbA hS (vp_in_nI (by omega) (by omega)) dL_law_1443 ?_
  refine lv_topi (fun a_4 ea_4 => ?_)
  refine lv_aload_n hx hb dL_law_1444 rfl (lv_at hl 3 rfl) ?_
  refine lv_iload_n hx hb dL_law_1445 rfl (lv_at hl 0 rfl) ?_
  refine lv_iconst (v := 3) hx hb dL_law_1446 (by decide) ?_
  refine lv_iadd hx hb dL_law_1447 ?_
  refine lv_topi (fun z_5 ez_5 => ?_)
  obtain rfl : z_5 = nI ((6 * k) + 3) := ez_5.trans (nI_add ((6 * k)) 3)
  refine va_sld hx hb hX hbl hbA hS (vp_in_nI (by omega) (by omega)) dL_law_1448 ?_
  refine lv_topi (fun a_6 ea_6 => ?_)
  refine lv_i2l (v := a_6.toInt64) hx hb dL_law_1449 rfl ?_
  refine lv_bipush (v := 32) hx hb dL_law_1450 (by decide) ?_
  refine lv_lshl (v := a_6.toInt64 <<< (((32 : Int32)).toInt64 &&& 63)) hx hb dL_law_1452 rfl ?_
  refine lv_topl (fun y_7 ey_7 => ?_)
  refine lv_aload_n hx hb dL_law_1453 rfl (lv_at hl 3 rfl) ?_
  refine lv_iload_n hx hb dL_law_1454 rfl (lv_at hl 0 rfl) ?_
  refine lv_iconst (v := 4) hx hb dL_law_1455 (by decide) ?_
  refine lv_iadd hx hb dL_law_1456 ?_
  refine lv_topi (fun z_8 ez_8 => ?_)
  obtain rfl : z_8 = nI ((6 * k) + 4) := ez_8.trans (nI_add ((6 * k)) 4)
  refine va_sld hx hb hX hbl hbA hS (vp_in_nI (by omega) (by omega)) dL_law_1457 ?_
  refine lv_topi (fun a_9 ea_9 => ?_)
  refine lv_i2l (v := a_9.toInt64) hx hb dL_law_1458 rfl ?_
  refine lv_ldc2 hx hb hown (hts _ wd_law_0) dL_law_1459 ?_
  refine lv_land hx hb dL_law_1462 ?_
  refine lv_topl (fun y_10 ey_10 => ?_)
  refine lv_lor hx hb dL_law_1463 ?_
  refine lv_topl (fun y_11 ey_11 => ?_)
  obtain ⟨lv, ia, la, ot, t0, t1, t2, hR, i0, i1, i2, rfl⟩ := hXI
  have hFx := free_of hD.left hS hA
  refine va_calli (va_runV (As := [.int a_2, .int a_4, .long y_11]) (rest := []) ⟨hx, hb, hml, hown, hts⟩ (Met_xi (kx_write l dC dI H.size ad kc fr gnS wS iv lv ia la ot fI hFX hR a_2 a_4 y_11) i0 i1 i2 (EY := fun _ => True) (fun _ _ h => h)) (cwV 3 hts g_law_X6_write rfl rfl rfl (by decide +kernel) ⟨Nat.le_of_ble_eq_true rfl, Nat.le_of_ble_eq_true rfl⟩) ⟨fun a U g mk q => by obtain ⟨q0, q1, qP, qK, qD, qE⟩ := q; exact ⟨q0, q1, qP, va_K.moved (u := U) (U := U.calling g mk a) (Vm.Alike.refl U.vm) qK, qD, trivial⟩, va_recv hK hP.left (ci := 6) (q0 := 0) rfl rfl, fun U hU hW => ⟨rfl, by rw [hU], by rw [hU]; exact hP.left, va_K.moved hW.alike hK, hD.left.weaken (fun _ _ _ _ => trivial), trivial⟩⟩ rfl rfl hl.1 rfl (lv_room (Nat.le_of_ble_eq_true rfl)) dL_law_1464 ⟨by show 70 + 9 * k + 0 + 0 ≤ 600000; omega, by show 7203 + 400 * k + 0 + 0 ≤ 7302250; omega⟩) hS (fun q _ h => hFx q h) hFx (fun r_12 V_14 t H1 locs ht hvm hw_13 hB hz1 hk1 hS => ?_)
  obtain ⟨hP, hD⟩ := va_joinA hP hD hk1 hFx (by rw [← ht]; exact hB.1) hB.2
  generalize H1 = H at hP hS ⊢
  obtain ⟨hp9, iv2, fI2, hch, hXJ⟩ := hw_13
  refine lv_pop hx hb dL_law_1467 rfl ?_
  refine lv_aload_n hx hb dL_law_1468 rfl (lv_at hl 1 rfl) ?_
  refine lv_aload_n hx hb dL_law_1469 rfl (lv_at hl 3 rfl) ?_
  refine lv_iload_n hx hb dL_law_1470 rfl (lv_at hl 0 rfl) ?_
  refine lv_iconst (v := 1) hx hb dL_law_1471 (by decide) ?_
  refine lv_iadd hx hb dL_law_1472 ?_
  refine lv_topi (fun z_15 ez_15 => ?_)
  obtain rfl : z_15 = nI ((6 * k) + 1) := ez_15.trans (nI_add ((6 * k)) 1)
  refine va_sld hx hb hX hbl hbA hS (vp_in_nI (by omega) (by omega)) dL_law_1473 ?_
  refine lv_topi (fun a_16 ea_16 => ?_)
  obtain rfl : a_2 = a_16 := ea_2.trans ea_16.symm
  refine lv_aload_n hx hb dL_law_1474 rfl (lv_at hl 3 rfl) ?_
  refine lv_iload_n hx hb dL_law_1475 rfl (lv_at hl 0 rfl) ?_
  refine lv_iconst (v := 2) hx hb dL_law_1476 (by decide) ?_
  refine lv_iadd hx hb dL_law_1477 ?_
  refine lv_topi (fun z_17 ez_17 => ?_)
  obtain rfl : z_17 = nI ((6 * k) + 2) := ez_17.trans (nI_add ((6 * k)) 2)
  refine va_sld hx hb hX hbl hbA hS (vp_in_nI (by omega) (by omega)) dL_law_1478 ?_
  refine lv_topi (fun a_18 ea_18 => ?_)
  obtain rfl : a_4 = a_18 := ea_4.trans ea_18.symm
  refine lv_aload_n hx hb dL_law_1479 rfl (lv_at hl 3 rfl) ?_
  refine lv_iload_n hx hb dL_law_1480 rfl (lv_at hl 0 rfl) ?_
  refine lv_iconst (v := 3) hx hb dL_law_1481 (by decide) ?_
  refine lv_iadd hx hb dL_law_1482 ?_
  refine lv_topi (fun z_19 ez_19 => ?_)
  obtain rfl : z_19 = nI ((6 * k) + 3) := ez_19.trans (nI_add ((6 * k)) 3)
  refine va_sld hx hb hX hbl hbA hS (vp_in_nI (by omega) (by omega)) dL_law_1483 ?_
  refine lv_topi (fun a_20 ea_20 => ?_)
  obtain rfl : a_6 = a_20 := ea_6.trans ea_20.symm
  refine lv_i2l (v := a_6.toInt64) hx hb dL_law_1484 rfl ?_
  refine lv_bipush (v := 32) hx hb dL_law_1485 (by decide) ?_
  refine lv_lshl (v := a_6.toInt64 <<< (((32 : Int32)).toInt64 &&& 63)) hx hb dL_law_1487 rfl ?_
  refine lv_topl (fun y_21 ey_21 => ?_)
  refine lv_aload_n hx hb dL_law_1488 rfl (lv_at hl 3 rfl) ?_
  refine lv_iload_n hx hb dL_law_1489 rfl (lv_at hl 0 rfl) ?_
  refine lv_iconst (v := 4) hx hb dL_law_1490 (by decide) ?_
  refine lv_iadd hx hb dL_law_1491 ?_
  refine lv_topi (fun z_22 ez_22 => ?_)
  obtain rfl : z_22 = nI ((6 * k) + 4) := ez_22.trans (nI_add ((6 * k)) 4)
  refine va_sld hx hb hX hbl hbA hS (vp_in_nI (by omega) (by omega)) dL_law_1492 ?_
  refine lv_topi (fun a_23 ea_23 => ?_)
  obtain rfl : a_9 = a_23 := ea_9.trans ea_23.symm
  refine lv_i2l (v := a_9.toInt64) hx hb dL_law_1493 rfl ?_
  refine lv_ldc2 hx hb hown (hts _ wd_law_0) dL_law_1494 ?_
  refine lv_land hx hb dL_law_1497 ?_
  refine lv_topl (fun y_24 ey_24 => ?_)
  refine lv_lor hx hb dL_law_1498 ?_
  refine lv_topl (fun y_25 ey_25 => ?_)
  obtain ⟨jv, jl, jb, hR2, rfl⟩ := hMN
  obtain ⟨hP, hD⟩ := va_swap hP hD
  have hFx := free_of hD.left hS hA
  refine va_calli (va_runV (As := [.int a_2, .int a_4, .long y_25]) (rest := []) ⟨hx, hb, hml, hown, hts⟩ (km_write l dC dI H.size bd kd jv jl ja jb hR2 a_2 a_4 y_25) (cwV 3 hts g_law_X7_write rfl rfl rfl (by decide +kernel) ⟨Nat.le_of_ble_eq_true rfl, Nat.le_of_ble_eq_true rfl⟩) ⟨fun a U g mk q => by obtain ⟨q0, q1, qP, qK, qD, qE⟩ := q; exact ⟨q0, q1, qP, va_K.moved (u := U) (U := U.calling g mk a) (Vm.Alike.refl U.vm) qK, qD, trivial⟩, va_recv hK2 hP.left (ci := 7) (q0 := 0) rfl rfl, fun U hU hW => ⟨rfl, by rw [hU], by rw [hU]; exact hP.left, va_K.moved hW.alike hK2, hD.left.weaken (fun _ _ _ _ => trivial), trivial⟩⟩ rfl rfl hl.1 rfl (lv_room (Nat.le_of_ble_eq_true rfl)) dL_law_1499 ⟨by show 70 + 9 * k + 0 + 0 ≤ 600000; omega, by show 7203 + 400 * k + 0 + 0 ≤ 7302250; omega⟩) hS (fun q _ h => hFx q h) hFx (fun r_26 V_28 t H1 locs ht hvm hw_27 hB hz1 hk1 hS => ?_)
  obtain ⟨hP, hD⟩ := va_joinA hP hD hk1 hFx (by rw [← ht]; exact hB.1) hB.2
  generalize H1 = H at hP hS ⊢
  obtain ⟨hP, hD⟩ := va_swap hP hD
  obtain ⟨hq9, jv2, jl2, ja2, jb2, hcm, hMR, rfl⟩ := hw_27
  refine lv_pop hx hb dL_law_1502 rfl ?_
  refine lv_goto (tgt := 1569) hx hb dL_law_1503 (by decide) ?_
  refine lv_iinc (v := nI (6 * (k + 1))) (lv' := [(3, .int (nI (6 * (k + 1)))), (2, .ref (bd 0)), (1, .ref (ad 0)), (0, .ref b)]) hx hb dL_law_1569 hl (k := 0) rfl (show nI (6 * k) + nI 6 = nI (6 * (k + 1)) from nI_add (6 * k) 6) (by decide) rfl (fun ls hl => ?_)
  refine lv_goto (tgt := 18) hx hb dL_law_1572 (by decide) ?_
  refine W.widen (k := 70 + 9 * (k + 1)) (n := 7203 + 400 * (k + 1)) (by omega) (by omega) ?_
  exact ih _ _ _ ⟨V_14, _, iv2, fI2, ja2, hREL.same hch.1 hcm.1 hcm.2.1, hKR.same hch.2 hcm.2.2, hXJ, ⟨jv2, jl2, jb2, hMR, rfl⟩, hP, hD, hS, lv_sub hl [0, 1, 2, 3] rfl⟩

set_option maxHeartbeats 4000000 in
set_option maxRecDepth 100000 in
/-- the law, its call 42: paste -/
theorem lc_42 {p : Program} {e : Env} {s : State} {m : MethodId} {below : List Frame} {meth : Method} {c : Code} (l : Launch) {b L : Nat} {xs : Nat → Int32} (hL : L ≤ 3072) (C0 : lw_At p s m meth c b L xs) {A : Nat → Prop} (hA : ∀ q, s.heap.size ≤ q → A q) (hA2 : ∀ q, A q → s.heap.size ≤ q) (hE0 : Kx s) {sa sv sn : Nat → Nat} (hE9 : sx sa sv sn A s) {dC : Nat → ClassId} {dI : Nat → Nat → Nat} {ad : Nat → Nat} {kc : Nat → ClassId} {fr gnS wS : Nat → Option Nat} {bd : Nat → Nat} {kd : Nat → ClassId} (hFX : FX ad fr gnS wS) (hK : va_K (dC, dI) vwCl (XT kc) s) (hK2 : va_K (dC, dI) vwCl (MT kd) s) {k : Nat} (hk : 6 * k + 6 ≤ L) {H : Heap} {locs : List Loc} {ls : Array Slot} (hW : LW (dC, dI) A s b ad kc fr gnS wS bd kd k H locs ls) (ih : ∀ (H : Heap) (locs : List Loc) (ls : Array Slot), LW (dC, dI) A s b ad kc fr gnS wS bd kd (k + 1) H locs ls → W p l e room_1 s m #[Value.ref b] below meth c H locs (70 + 9 * (k + 1)) (7203 + 400 * (k + 1)) (lw_Z below #[Value.ref b] s) (F0 m 18 ls [])) : W p l e room_1 s m #[Value.ref b] below meth c H locs (70 + 9 * k) (7203 + 400 * k) (lw_Z below #[Value.ref b] s) (F0 m 1506 ls []) := by
  obtain ⟨hx, hb, hr, hml, hown, hts, hX, hbl, hlocks, hgv⟩ := id C0
  have hown : s.vm.findClass RL = some m.cls := hown
  have hts := fun w (h : w ∈ wz_law) => hts w (wz_law_in w h)
  have hbA : ¬ A b := fun h => absurd (hA2 b h) (Nat.not_le.mpr hbl)
  obtain ⟨Wx, Wm, iv, fI, ja, hREL, hKR, hXI, hMN, hP, hD, hS, hl⟩ := hW
  refine lv_aload_n hx hb dL_law_1506 rfl (lv_at hl 2 rfl) ?_
  refine lv_aload_n hx hb dL_law_1507 rfl (lv_at hl 3 rfl) ?_
  refine lv_iload_n hx hb dL_law_1508 rfl (lv_at hl 0 rfl) ?_
  refine lv_iconst (v := 1) hx hb dL_law_1509 (by decide) ?_
  refine lv_iadd hx hb dL_law_1510 ?_
  refine lv_topi (fun z_1 ez_1 => ?_)
  obtain rfl : z_1 = nI ((6 * k) + 1) := ez_1.trans (nI_add ((6 * k)) 1)
  refine va_sld hx hb hX hbl hbA hS (vp_in_nI (by omega) (by omega)) dL_law_1511 ?_
  refine lv_topi (fun a_2 ea_2 => ?_)
  refine lv_aload_n hx hb dL_law_1512 rfl (lv_at hl 3 rfl) ?_
  refine lv_iload_n hx hb dL_law_1513 rfl (lv_at hl 0 rfl) ?_
  refine lv_iconst (v := 2) hx hb dL_law_1514 (by decide) ?_
  refine lv_iadd hx hb dL_law_1515 ?_
  refine lv_topi (fun z_3 ez_3 => ?_)
  obtain rfl : z_3 = nI ((6 * k) + 2) := ez_3.trans (nI_add ((6 * k)) 2)
  refine va_sld hx hb hX hbl hbA hS (vp_in_nI (by omega) (by omega)) dL_law_1516 ?_
  refine lv_topi (fun a_4 ea_4 => ?_)
  refine lv_aload_n hx hb dL_law_1517 rfl (lv_at hl 3 rfl) ?_
  refine lv_iload_n hx hb dL_law_1518 rfl (lv_at hl 0 rfl) ?_
  refine lv_iconst (v := 3) hx hb dL_law_1519 (by decide) ?_
  refine lv_iadd hx hb dL_law_1520 ?_
  refine lv_topi (fun z_5 ez_5 => ?_)
  obtain rfl : z_5 = nI ((6 * k) + 3) := ez_5.trans (nI_add ((6 * k)) 3)
  refine va_sld hx hb hX hbl hbA hS (vp_in_nI (by omega) (by omega)) dL_law_1521 ?_
  refine lv_topi (fun a_6 ea_6 => ?_)
  refine lv_aload_n hx hb dL_law_1522 rfl (lv_at hl 3 rfl) ?_
  refine lv_iload_n hx hb dL_law_1523 rfl (lv_at hl 0 rfl) ?_
  refine lv_iconst (v := 4) hx hb dL_law_1524 (by decide) ?_
  refine lv_iadd hx hb dL_law_1525 ?_
  refine lv_topi (fun z_7 ez_7 => ?_)
  obtain rfl : z_7 = nI ((6 * k) + 4) := ez_7.trans (nI_add ((6 * k)) 4)
  refine va_sld hx hb hX hbl hbA hS (vp_in_nI (by omega) (by omega)) dL_law_1526 ?_
  refine lv_topi (fun a_8 ea_8 => ?_)
  refine lv_aload_n hx hb dL_law_1527 rfl (lv_at hl 3 rfl) ?_
  refine lv_iload_n hx hb dL_law_1528 rfl (lv_at hl 0 rfl) ?_
  refine lv_iconst (v := 5) hx hb dL_law_1529 (by decide) ?_
  refine lv_iadd hx hb dL_law_1530 ?_
  refine lv_topi (fun z_9 ez_9 => ?_)
  obtain rfl : z_9 = nI ((6 * k) + 5) := ez_9.trans (nI_add ((6 * k)) 5)
  refine va_sld hx hb hX hbl hbA hS (vp_in_nI (by omega) (by omega)) dL_law_1531 ?_
  refine lv_topi (fun a_10 ea_10 => ?_)
  obtain ⟨lv, ia, la, ot, t0, t1, t2, hR, i0, i1, i2, rfl⟩ := hXI
  have hFx := free_of hD.left hS hA
  refine va_calli (va_runV (As := [.int a_2, .int a_4, .int a_6, .int a_8, .int a_10]) (rest := []) ⟨hx, hb, hml, hown, hts⟩ (Met_xi (kx_paste l dC dI H.size ad kc fr gnS wS iv lv ia la ot fI hFX hR a_2 a_4 a_6 a_8 a_10) i0 i1 i2 (EY := fun _ => True) (fun _ _ h => h)) (cwV 5 hts g_law_X6_paste rfl rfl rfl (by decide +kernel) ⟨Nat.le_of_ble_eq_true rfl, Nat.le_of_ble_eq_true rfl⟩) ⟨fun a U g mk q => by obtain ⟨q0, q1, qP, qK, qD, qE⟩ := q; exact ⟨q0, q1, qP, va_K.moved (u := U) (U := U.calling g mk a) (Vm.Alike.refl U.vm) qK, qD, trivial⟩, va_recv hK hP.left (ci := 6) (q0 := 0) rfl rfl, fun U hU hW => ⟨rfl, by rw [hU], by rw [hU]; exact hP.left, va_K.moved hW.alike hK, hD.left.weaken (fun _ _ _ _ => trivial), trivial⟩⟩ rfl rfl hl.1 rfl (lv_room (Nat.le_of_ble_eq_true rfl)) dL_law_1532 ⟨by show 70 + 9 * k + 0 + 0 ≤ 600000; omega, by show 7203 + 400 * k + 0 + 0 ≤ 7302250; omega⟩) hS (fun q _ h => hFx q h) hFx (fun r_11 V_13 t H1 locs ht hvm hw_12 hB hz1 hk1 hS => ?_)
  obtain ⟨hP, hD⟩ := va_joinA hP hD hk1 hFx (by rw [← ht]; exact hB.1) hB.2
  generalize H1 = H at hP hS ⊢
  obtain ⟨hp9, iv2, fI2, hch, hXJ⟩ := hw_12
  refine lv_aload_n hx hb dL_law_1535 rfl (lv_at hl 1 rfl) ?_
  refine lv_aload_n hx hb dL_law_1536 rfl (lv_at hl 3 rfl) ?_
  refine lv_iload_n hx hb dL_law_1537 rfl (lv_at hl 0 rfl) ?_
  refine lv_iconst (v := 1) hx hb dL_law_1538 (by decide) ?_
  refine lv_iadd hx hb dL_law_1539 ?_
  refine lv_topi (fun z_14 ez_14 => ?_)
  obtain rfl : z_14 = nI ((6 * k) + 1) := ez_14.trans (nI_add ((6 * k)) 1)
  refine va_sld hx hb hX hbl hbA hS (vp_in_nI (by omega) (by omega)) dL_law_1540 ?_
  refine lv_topi (fun a_15 ea_15 => ?_)
  obtain rfl : a_2 = a_15 := ea_2.trans ea_15.symm
  refine lv_aload_n hx hb dL_law_1541 rfl (lv_at hl 3 rfl) ?_
  refine lv_iload_n hx hb dL_law_1542 rfl (lv_at hl 0 rfl) ?_
  refine lv_iconst (v := 2) hx hb dL_law_1543 (by decide) ?_
  refine lv_iadd hx hb dL_law_1544 ?_
  refine lv_topi (fun z_16 ez_16 => ?_)
  obtain rfl : z_16 = nI ((6 * k) + 2) := ez_16.trans (nI_add ((6 * k)) 2)
  refine va_sld hx hb hX hbl hbA hS (vp_in_nI (by omega) (by omega)) dL_law_1545 ?_
  refine lv_topi (fun a_17 ea_17 => ?_)
  obtain rfl : a_4 = a_17 := ea_4.trans ea_17.symm
  refine lv_aload_n hx hb dL_law_1546 rfl (lv_at hl 3 rfl) ?_
  refine lv_iload_n hx hb dL_law_1547 rfl (lv_at hl 0 rfl) ?_
  refine lv_iconst (v := 3) hx hb dL_law_1548 (by decide) ?_
  refine lv_iadd hx hb dL_law_1549 ?_
  refine lv_topi (fun z_18 ez_18 => ?_)
  obtain rfl : z_18 = nI ((6 * k) + 3) := ez_18.trans (nI_add ((6 * k)) 3)
  refine va_sld hx hb hX hbl hbA hS (vp_in_nI (by omega) (by omega)) dL_law_1550 ?_
  refine lv_topi (fun a_19 ea_19 => ?_)
  obtain rfl : a_6 = a_19 := ea_6.trans ea_19.symm
  refine lv_aload_n hx hb dL_law_1551 rfl (lv_at hl 3 rfl) ?_
  refine lv_iload_n hx hb dL_law_1552 rfl (lv_at hl 0 rfl) ?_
  refine lv_iconst (v := 4) hx hb dL_law_1553 (by decide) ?_
  refine lv_iadd hx hb dL_law_1554 ?_
  refine lv_topi (fun z_20 ez_20 => ?_)
  obtain rfl : z_20 = nI ((6 * k) + 4) := ez_20.trans (nI_add ((6 * k)) 4)
  refine va_sld hx hb hX hbl hbA hS (vp_in_nI (by omega) (by omega)) dL_law_1555 ?_
  refine lv_topi (fun a_21 ea_21 => ?_)
  obtain rfl : a_8 = a_21 := ea_8.trans ea_21.symm
  refine lv_aload_n hx hb dL_law_1556 rfl (lv_at hl 3 rfl) ?_
  refine lv_iload_n hx hb dL_law_1557 rfl (lv_at hl 0 rfl) ?_
  refine lv_iconst (v := 5) hx hb dL_law_1558 (by decide) ?_
  refine lv_iadd hx hb dL_law_1559 ?_
  refine lv_topi (fun z_22 ez_22 => ?_)
  obtain rfl : z_22 = nI ((6 * k) + 5) := ez_22.trans (nI_add ((6 * k)) 5)
  refine va_sld hx hb hX hbl hbA hS (vp_in_nI (by omega) (by omega)) dL_law_1560 ?_
  refine lv_topi (fun a_23 ea_23 => ?_)
  obtain rfl : a_10 = a_23 := ea_10.trans ea_23.symm
  obtain ⟨jv, jl, jb, hR2, rfl⟩ := hMN
  obtain ⟨hP, hD⟩ := va_swap hP hD
  have hFx := free_of hD.left hS hA
  refine va_calli (va_runV (As := [.int a_2, .int a_4, .int a_6, .int a_8, .int a_10]) (rest := [.int r_11]) ⟨hx, hb, hml, hown, hts⟩ (km_paste l dC dI H.size bd kd jv jl ja jb hR2 a_2 a_4 a_6 a_8 a_10) (cwV 5 hts g_law_X7_paste rfl rfl rfl (by decide +kernel) ⟨Nat.le_of_ble_eq_true rfl, Nat.le_of_ble_eq_true rfl⟩) ⟨fun a U g mk q => by obtain ⟨q0, q1, qP, qK, qD, qE⟩ := q; exact ⟨q0, q1, qP, va_K.moved (u := U) (U := U.calling g mk a) (Vm.Alike.refl U.vm) qK, qD, trivial⟩, va_recv hK2 hP.left (ci := 7) (q0 := 0) rfl rfl, fun U hU hW => ⟨rfl, by rw [hU], by rw [hU]; exact hP.left, va_K.moved hW.alike hK2, hD.left.weaken (fun _ _ _ _ => trivial), trivial⟩⟩ rfl rfl hl.1 rfl (lv_room (Nat.le_of_ble_eq_true rfl)) dL_law_1561 ⟨by show 70 + 9 * k + 0 + 0 ≤ 600000; omega, by show 7203 + 400 * k + 0 + 0 ≤ 7302250; omega⟩) hS (fun q _ h => hFx q h) hFx (fun r_24 V_26 t H1 locs ht hvm hw_25 hB hz1 hk1 hS => ?_)
  obtain ⟨hP, hD⟩ := va_joinA hP hD hk1 hFx (by rw [← ht]; exact hB.1) hB.2
  generalize H1 = H at hP hS ⊢
  obtain ⟨hP, hD⟩ := va_swap hP hD
  obtain ⟨hq9, jv2, jl2, ja2, jb2, hcm, hMR, rfl⟩ := hw_25
  refine lv_icmp_eq (tgt := 1569) hx hb dL_law_1564 (by decide) (fun _ => ?_) (fun h => absurd (cmp_paste hREL hp9 hq9) h)
  refine lv_iinc (v := nI (6 * (k + 1))) (lv' := [(3, .int (nI (6 * (k + 1)))), (2, .ref (bd 0)), (1, .ref (ad 0)), (0, .ref b)]) hx hb dL_law_1569 hl (k := 0) rfl (show nI (6 * k) + nI 6 = nI (6 * (k + 1)) from nI_add (6 * k) 6) (by decide) rfl (fun ls hl => ?_)
  refine lv_goto (tgt := 18) hx hb dL_law_1572 (by decide) ?_
  refine W.widen (k := 70 + 9 * (k + 1)) (n := 7203 + 400 * (k + 1)) (by omega) (by omega) ?_
  exact ih _ _ _ ⟨V_13, _, iv2, fI2, ja2, hREL.same hch.1 hcm.1 hcm.2.1, hKR.same hch.2 hcm.2.2, hXJ, ⟨jv2, jl2, jb2, hMR, rfl⟩, hP, hD, hS, lv_sub hl [0, 1, 2, 3] rfl⟩

set_option maxHeartbeats 4000000 in
set_option maxRecDepth 100000 in
/-- the law, its call 43: none -/
theorem lc_43 {p : Program} {e : Env} {s : State} {m : MethodId} {below : List Frame} {meth : Method} {c : Code} (l : Launch) {b L : Nat} {xs : Nat → Int32} (hL : L ≤ 3072) (C0 : lw_At p s m meth c b L xs) {A : Nat → Prop} (hA : ∀ q, s.heap.size ≤ q → A q) (hA2 : ∀ q, A q → s.heap.size ≤ q) (hE0 : Kx s) {sa sv sn : Nat → Nat} (hE9 : sx sa sv sn A s) {dC : Nat → ClassId} {dI : Nat → Nat → Nat} {ad : Nat → Nat} {kc : Nat → ClassId} {fr gnS wS : Nat → Option Nat} {bd : Nat → Nat} {kd : Nat → ClassId} (hFX : FX ad fr gnS wS) (hK : va_K (dC, dI) vwCl (XT kc) s) (hK2 : va_K (dC, dI) vwCl (MT kd) s) {k : Nat} (hk : 6 * k + 6 ≤ L) {H : Heap} {locs : List Loc} {ls : Array Slot} (hW : LW (dC, dI) A s b ad kc fr gnS wS bd kd k H locs ls) (ih : ∀ (H : Heap) (locs : List Loc) (ls : Array Slot), LW (dC, dI) A s b ad kc fr gnS wS bd kd (k + 1) H locs ls → W p l e room_1 s m #[Value.ref b] below meth c H locs (70 + 9 * (k + 1)) (7203 + 400 * (k + 1)) (lw_Z below #[Value.ref b] s) (F0 m 18 ls [])) : W p l e room_1 s m #[Value.ref b] below meth c H locs (70 + 9 * k) (7203 + 400 * k) (lw_Z below #[Value.ref b] s) (F0 m 1569 ls []) := by
  obtain ⟨hx, hb, hr, hml, hown, hts, hX, hbl, hlocks, hgv⟩ := id C0
  have hown : s.vm.findClass RL = some m.cls := hown
  have hts := fun w (h : w ∈ wz_law) => hts w (wz_law_in w h)
  have hbA : ¬ A b := fun h => absurd (hA2 b h) (Nat.not_le.mpr hbl)
  obtain ⟨Wx, Wm, iv, fI, ja, hREL, hKR, hXI, hMN, hP, hD, hS, hl⟩ := hW
  refine lv_iinc (v := nI (6 * (k + 1))) (lv' := [(3, .int (nI (6 * (k + 1)))), (2, .ref (bd 0)), (1, .ref (ad 0)), (0, .ref b)]) hx hb dL_law_1569 hl (k := 0) rfl (show nI (6 * k) + nI 6 = nI (6 * (k + 1)) from nI_add (6 * k) 6) (by decide) rfl (fun ls hl => ?_)
  refine lv_goto (tgt := 18) hx hb dL_law_1572 (by decide) ?_
  refine W.widen (k := 70 + 9 * (k + 1)) (n := 7203 + 400 * (k + 1)) (by omega) (by omega) ?_
  exact ih _ _ _ ⟨_, _, iv, fI, ja, hREL, hKR, hXI, hMN, hP, hD, hS, lv_sub hl [0, 1, 2, 3] rfl⟩

