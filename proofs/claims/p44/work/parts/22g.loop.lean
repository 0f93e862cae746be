set_option maxHeartbeats 8000000 in
set_option maxRecDepth 100000 in
/-- the law's loop -/
theorem law_loop {p : Program} {e : Env} {s : State} {m : MethodId} {below : List Frame} {meth : Method} {c : Code} (l : Launch) {b L : Nat} {xs : Nat → Int32} (hL : L ≤ 3072) (C0 : lw_At p s m meth c b L xs) {A : Nat → Prop} (hA : ∀ q, s.heap.size ≤ q → A q) (hA2 : ∀ q, A q → s.heap.size ≤ q) (hE0 : Kx s) {sa sv sn : Nat → Nat} (hE9 : sx sa sv sn A s) {dC : Nat → ClassId} {dI : Nat → Nat → Nat} {ad : Nat → Nat} {kc : Nat → ClassId} {fr gnS wS : Nat → Option Nat} {bd : Nat → Nat} {kd : Nat → ClassId} (hFX : FX ad fr gnS wS) (hK : va_K (dC, dI) vwCl (XT kc) s) (hK2 : va_K (dC, dI) vwCl (MT kd) s) (n : Nat) : ∀ (k : Nat), k ≤ 600 → L ≤ 6 * k + n → ∀ (H : Heap) (locs : List Loc) (ls : Array Slot), LW (dC, dI) A s b ad kc fr gnS wS bd kd k H locs ls → W p l e room_1 s m #[Value.ref b] below meth c H locs (70 + 9 * k) (7203 + 400 * k) (lw_Z below #[Value.ref b] s) (F0 m 18 ls []) := by
  induction n with
  | zero =>
    intro k hk6 hn H locs ls hW
    obtain ⟨Wx, Wm, iv, fI, ja, hREL, hKR, hXI, hMN, hP, hD, hS, hl⟩ := hW
    exact law_exit C0 hA2 hS (lv_sub hl [0, 3] rfl) (lw_end hL hk6 (by omega)) (by omega) (by omega)
  | succ n ihn =>
    intro k hk6 hn H locs ls hW
    rcases Nat.lt_or_ge L (6 * k + 6) with hlt | hge
    · obtain ⟨Wx, Wm, iv, fI, ja, hREL, hKR, hXI, hMN, hP, hD, hS, hl⟩ := hW
      exact law_exit C0 hA2 hS (lv_sub hl [0, 3] rfl) (lw_end hL hk6 hlt) (by omega) (by omega)
    have ih : ∀ (H : Heap) (locs : List Loc) (ls : Array Slot), LW (dC, dI) A s b ad kc fr gnS wS bd kd (k + 1) H locs ls → W p l e room_1 s m #[Value.ref b] below meth c H locs (70 + 9 * (k + 1)) (7203 + 400 * (k + 1)) (lw_Z below #[Value.ref b] s) (F0 m 18 ls []) := fun H locs ls h => ihn (k + 1) (by omega) (by omega) H locs ls h
    have hW2 := hW
    obtain ⟨hx, hb, hr, hml, hown, hts, hX, hbl, hlocks, hgv⟩ := id C0
    have hown : s.vm.findClass RL = some m.cls := hown
    have hts := fun w (h : w ∈ wz_law) => hts w (wz_law_in w h)
    have hbA : ¬ A b := fun h => absurd (hA2 b h) (Nat.not_le.mpr hbl)
    obtain ⟨Wx, Wm, iv, fI, ja, hREL, hKR, hXI, hMN, hP, hD, hS, hl⟩ := hW
    refine lv_iload_n hx hb dL_law_18 rfl (lv_at hl 0 rfl) ?_
    refine lv_aload_n hx hb dL_law_19 rfl (lv_at hl 3 rfl) ?_
    refine va_slen hx hb hX hbl hbA hS dL_law_20 ?_
    refine lv_bipush (v := 6) hx hb dL_law_21 (by decide) ?_
    refine lv_isub hx hb dL_law_23 ?_
    refine lv_icmp_gt (tgt := 1575) hx hb dL_law_24 (by decide) (fun h => absurd h (lw_go hL hk6 hge)) (fun _ => ?_)
    refine lv_aload_n hx hb dL_law_27 rfl (lv_at hl 3 rfl) ?_
    refine lv_iload_n hx hb dL_law_28 rfl (lv_at hl 0 rfl) ?_
    refine va_sld hx hb hX hbl hbA hS (vp_in_nI (by omega) (by omega)) dL_law_29 ?_
    refine lv_bipush (v := 63) hx hb dL_law_30 (by decide) ?_
    refine lv_iand hx hb dL_law_32 ?_
    refine lv_topi (fun w ew => ?_)
    rcases i_sw (a := w) rfl (lo := 0) (hi := 42) with hsw | hsw | hsw
    · refine lv_tableOut (tgt := 1569) hx hb dL_law_33 (Or.inl (i_clo rfl hsw)) (by decide) ?_
      exact lc_43 l hL C0 hA hA2 hE0 hE9 hFX hK hK2 hge hW2 ih
    · refine lv_tableOut (tgt := 1569) hx hb dL_law_33 (Or.inr (i_chi rfl hsw)) (by decide) ?_
      exact lc_43 l hL C0 hA hA2 hE0 hE9 hFX hK hK2 hge hW2 ih
    · have hsw2 : w.toInt = 0 ∨ w.toInt = 1 ∨ w.toInt = 2 ∨ w.toInt = 3 ∨ w.toInt = 4 ∨ w.toInt = 5 ∨ w.toInt = 6 ∨ w.toInt = 7 ∨ w.toInt = 8 ∨ w.toInt = 9 ∨ w.toInt = 10 ∨ w.toInt = 11 ∨ w.toInt = 12 ∨ w.toInt = 13 ∨ w.toInt = 14 ∨ w.toInt = 15 ∨ w.toInt = 16 ∨ w.toInt = 17 ∨ w.toInt = 18 ∨ w.toInt = 19 ∨ w.toInt = 20 ∨ w.toInt = 21 ∨ w.toInt = 22 ∨ w.toInt = 23 ∨ w.toInt = 24 ∨ w.toInt = 25 ∨ w.toInt = 26 ∨ w.toInt = 27 ∨ w.toInt = 28 ∨ w.toInt = 29 ∨ w.toInt = 30 ∨ w.toInt = 31 ∨ w.toInt = 32 ∨ w.toInt = 33 ∨ w.toInt = 34 ∨ w.toInt = 35 ∨ w.toInt = 36 ∨ w.toInt = 37 ∨ w.toInt = 38 ∨ w.toInt = 39 ∨ w.toInt = 40 ∨ w.toInt = 41 ∨ w.toInt = 42 := by omega
      rcases hsw2 with hxz | hxz | hxz | hxz | hxz | hxz | hxz | hxz | hxz | hxz | hxz | hxz | hxz | hxz | hxz | hxz | hxz | hxz | hxz | hxz | hxz | hxz | hxz | hxz | hxz | hxz | hxz | hxz | hxz | hxz | hxz | hxz | hxz | hxz | hxz | hxz | hxz | hxz | hxz | hxz | hxz | hxz | hxz
      · refine lv_tableIn (off := 187) (tgt := 220) hx hb dL_law_33 (by rw [hxz]; decide) (by rw [hxz]; decide) (by rw [hxz]; rfl) (by decide) ?_
        exact lc_0 l hL C0 hA hA2 hE0 hE9 hFX hK hK2 hge hW2 ih
      · refine lv_tableIn (off := 250) (tgt := 283) hx hb dL_law_33 (by rw [hxz]; decide) (by rw [hxz]; decide) (by rw [hxz]; rfl) (by decide) ?_
        exact lc_1 l hL C0 hA hA2 hE0 hE9 hFX hK hK2 hge hW2 ih
      · refine lv_tableIn (off := 273) (tgt := 306) hx hb dL_law_33 (by rw [hxz]; decide) (by rw [hxz]; decide) (by rw [hxz]; rfl) (by decide) ?_
        exact lc_2 l hL C0 hA hA2 hE0 hE9 hFX hK hK2 hge hW2 ih
      · refine lv_tableIn (off := 286) (tgt := 319) hx hb dL_law_33 (by rw [hxz]; decide) (by rw [hxz]; decide) (by rw [hxz]; rfl) (by decide) ?_
        exact lc_3 l hL C0 hA hA2 hE0 hE9 hFX hK hK2 hge hW2 ih
      · refine lv_tableIn (off := 309) (tgt := 342) hx hb dL_law_33 (by rw [hxz]; decide) (by rw [hxz]; decide) (by rw [hxz]; rfl) (by decide) ?_
        exact lc_4 l hL C0 hA hA2 hE0 hE9 hFX hK hK2 hge hW2 ih
      · refine lv_tableIn (off := 322) (tgt := 355) hx hb dL_law_33 (by rw [hxz]; decide) (by rw [hxz]; decide) (by rw [hxz]; rfl) (by decide) ?_
        exact lc_5 l hL C0 hA hA2 hE0 hE9 hFX hK hK2 hge hW2 ih
      · refine lv_tableIn (off := 355) (tgt := 388) hx hb dL_law_33 (by rw [hxz]; decide) (by rw [hxz]; decide) (by rw [hxz]; rfl) (by decide) ?_
        exact lc_6 l hL C0 hA hA2 hE0 hE9 hFX hK hK2 hge hW2 ih
      · refine lv_tableIn (off := 388) (tgt := 421) hx hb dL_law_33 (by rw [hxz]; decide) (by rw [hxz]; decide) (by rw [hxz]; rfl) (by decide) ?_
        exact lc_7 l hL C0 hA hA2 hE0 hE9 hFX hK hK2 hge hW2 ih
      · refine lv_tableIn (off := 421) (tgt := 454) hx hb dL_law_33 (by rw [hxz]; decide) (by rw [hxz]; decide) (by rw [hxz]; rfl) (by decide) ?_
        exact lc_8 l hL C0 hA hA2 hE0 hE9 hFX hK hK2 hge hW2 ih
      · refine lv_tableIn (off := 464) (tgt := 497) hx hb dL_law_33 (by rw [hxz]; decide) (by rw [hxz]; decide) (by rw [hxz]; rfl) (by decide) ?_
        exact lc_9 l hL C0 hA hA2 hE0 hE9 hFX hK hK2 hge hW2 ih
      · refine lv_tableIn (off := 487) (tgt := 520) hx hb dL_law_33 (by rw [hxz]; decide) (by rw [hxz]; decide) (by rw [hxz]; rfl) (by decide) ?_
        exact lc_10 l hL C0 hA hA2 hE0 hE9 hFX hK hK2 hge hW2 ih
      · refine lv_tableIn (off := 520) (tgt := 553) hx hb dL_law_33 (by rw [hxz]; decide) (by rw [hxz]; decide) (by rw [hxz]; rfl) (by decide) ?_
        exact lc_11 l hL C0 hA hA2 hE0 hE9 hFX hK hK2 hge hW2 ih
      · refine lv_tableIn (off := 543) (tgt := 576) hx hb dL_law_33 (by rw [hxz]; decide) (by rw [hxz]; decide) (by rw [hxz]; rfl) (by decide) ?_
        exact lc_12 l hL C0 hA hA2 hE0 hE9 hFX hK hK2 hge hW2 ih
      · refine lv_tableIn (off := 566) (tgt := 599) hx hb dL_law_33 (by rw [hxz]; decide) (by rw [hxz]; decide) (by rw [hxz]; rfl) (by decide) ?_
        exact lc_13 l hL C0 hA hA2 hE0 hE9 hFX hK hK2 hge hW2 ih
      · refine lv_tableIn (off := 599) (tgt := 632) hx hb dL_law_33 (by rw [hxz]; decide) (by rw [hxz]; decide) (by rw [hxz]; rfl) (by decide) ?_
        exact lc_14 l hL C0 hA hA2 hE0 hE9 hFX hK hK2 hge hW2 ih
      · refine lv_tableIn (off := 612) (tgt := 645) hx hb dL_law_33 (by rw [hxz]; decide) (by rw [hxz]; decide) (by rw [hxz]; rfl) (by decide) ?_
        exact lc_15 l hL C0 hA hA2 hE0 hE9 hFX hK hK2 hge hW2 ih
      · refine lv_tableIn (off := 635) (tgt := 668) hx hb dL_law_33 (by rw [hxz]; decide) (by rw [hxz]; decide) (by rw [hxz]; rfl) (by decide) ?_
        exact lc_16 l hL C0 hA hA2 hE0 hE9 hFX hK hK2 hge hW2 ih
      · refine lv_tableIn (off := 668) (tgt := 701) hx hb dL_law_33 (by rw [hxz]; decide) (by rw [hxz]; decide) (by rw [hxz]; rfl) (by decide) ?_
        exact lc_17 l hL C0 hA hA2 hE0 hE9 hFX hK hK2 hge hW2 ih
      · refine lv_tableIn (off := 681) (tgt := 714) hx hb dL_law_33 (by rw [hxz]; decide) (by rw [hxz]; decide) (by rw [hxz]; rfl) (by decide) ?_
        exact lc_18 l hL C0 hA hA2 hE0 hE9 hFX hK hK2 hge hW2 ih
      · refine lv_tableIn (off := 704) (tgt := 737) hx hb dL_law_33 (by rw [hxz]; decide) (by rw [hxz]; decide) (by rw [hxz]; rfl) (by decide) ?_
        exact lc_19 l hL C0 hA hA2 hE0 hE9 hFX hK hK2 hge hW2 ih
      · refine lv_tableIn (off := 737) (tgt := 770) hx hb dL_law_33 (by rw [hxz]; decide) (by rw [hxz]; decide) (by rw [hxz]; rfl) (by decide) ?_
        exact lc_20 l hL C0 hA hA2 hE0 hE9 hFX hK hK2 hge hW2 ih
      · refine lv_tableIn (off := 760) (tgt := 793) hx hb dL_law_33 (by rw [hxz]; decide) (by rw [hxz]; decide) (by rw [hxz]; rfl) (by decide) ?_
        exact lc_21 l hL C0 hA hA2 hE0 hE9 hFX hK hK2 hge hW2 ih
      · refine lv_tableIn (off := 803) (tgt := 836) hx hb dL_law_33 (by rw [hxz]; decide) (by rw [hxz]; decide) (by rw [hxz]; rfl) (by decide) ?_
        exact lc_22 l hL C0 hA hA2 hE0 hE9 hFX hK hK2 hge hW2 ih
      · refine lv_tableIn (off := 846) (tgt := 879) hx hb dL_law_33 (by rw [hxz]; decide) (by rw [hxz]; decide) (by rw [hxz]; rfl) (by decide) ?_
        exact lc_23 l hL C0 hA hA2 hE0 hE9 hFX hK hK2 hge hW2 ih
      · refine lv_tableIn (off := 879) (tgt := 912) hx hb dL_law_33 (by rw [hxz]; decide) (by rw [hxz]; decide) (by rw [hxz]; rfl) (by decide) ?_
        exact lc_24 l hL C0 hA hA2 hE0 hE9 hFX hK hK2 hge hW2 ih
      · refine lv_tableIn (off := 902) (tgt := 935) hx hb dL_law_33 (by rw [hxz]; decide) (by rw [hxz]; decide) (by rw [hxz]; rfl) (by decide) ?_
        exact lc_25 l hL C0 hA hA2 hE0 hE9 hFX hK hK2 hge hW2 ih
      · refine lv_tableIn (off := 925) (tgt := 958) hx hb dL_law_33 (by rw [hxz]; decide) (by rw [hxz]; decide) (by rw [hxz]; rfl) (by decide) ?_
        exact lc_26 l hL C0 hA hA2 hE0 hE9 hFX hK hK2 hge hW2 ih
      · refine lv_tableIn (off := 948) (tgt := 981) hx hb dL_law_33 (by rw [hxz]; decide) (by rw [hxz]; decide) (by rw [hxz]; rfl) (by decide) ?_
        exact lc_27 l hL C0 hA hA2 hE0 hE9 hFX hK hK2 hge hW2 ih
      · refine lv_tableIn (off := 971) (tgt := 1004) hx hb dL_law_33 (by rw [hxz]; decide) (by rw [hxz]; decide) (by rw [hxz]; rfl) (by decide) ?_
        exact lc_28 l hL C0 hA hA2 hE0 hE9 hFX hK hK2 hge hW2 ih
      · refine lv_tableIn (off := 1004) (tgt := 1037) hx hb dL_law_33 (by rw [hxz]; decide) (by rw [hxz]; decide) (by rw [hxz]; rfl) (by decide) ?_
        exact lc_29 l hL C0 hA hA2 hE0 hE9 hFX hK hK2 hge hW2 ih
      · refine lv_tableIn (off := 1027) (tgt := 1060) hx hb dL_law_33 (by rw [hxz]; decide) (by rw [hxz]; decide) (by rw [hxz]; rfl) (by decide) ?_
        exact lc_30 l hL C0 hA hA2 hE0 hE9 hFX hK hK2 hge hW2 ih
      · refine lv_tableIn (off := 1060) (tgt := 1093) hx hb dL_law_33 (by rw [hxz]; decide) (by rw [hxz]; decide) (by rw [hxz]; rfl) (by decide) ?_
        exact lc_31 l hL C0 hA hA2 hE0 hE9 hFX hK hK2 hge hW2 ih
      · refine lv_tableIn (off := 1093) (tgt := 1126) hx hb dL_law_33 (by rw [hxz]; decide) (by rw [hxz]; decide) (by rw [hxz]; rfl) (by decide) ?_
        exact lc_32 l hL C0 hA hA2 hE0 hE9 hFX hK hK2 hge hW2 ih
      · refine lv_tableIn (off := 1126) (tgt := 1159) hx hb dL_law_33 (by rw [hxz]; decide) (by rw [hxz]; decide) (by rw [hxz]; rfl) (by decide) ?_
        exact lc_33 l hL C0 hA hA2 hE0 hE9 hFX hK hK2 hge hW2 ih
      · refine lv_tableIn (off := 1189) (tgt := 1222) hx hb dL_law_33 (by rw [hxz]; decide) (by rw [hxz]; decide) (by rw [hxz]; rfl) (by decide) ?_
        exact lc_34 l hL C0 hA hA2 hE0 hE9 hFX hK hK2 hge hW2 ih
      · refine lv_tableIn (off := 1212) (tgt := 1245) hx hb dL_law_33 (by rw [hxz]; decide) (by rw [hxz]; decide) (by rw [hxz]; rfl) (by decide) ?_
        exact lc_35 l hL C0 hA hA2 hE0 hE9 hFX hK hK2 hge hW2 ih
      · refine lv_tableIn (off := 1255) (tgt := 1288) hx hb dL_law_33 (by rw [hxz]; decide) (by rw [hxz]; decide) (by rw [hxz]; rfl) (by decide) ?_
        exact lc_36 l hL C0 hA hA2 hE0 hE9 hFX hK hK2 hge hW2 ih
      · refine lv_tableIn (off := 1288) (tgt := 1321) hx hb dL_law_33 (by rw [hxz]; decide) (by rw [hxz]; decide) (by rw [hxz]; rfl) (by decide) ?_
        exact lc_37 l hL C0 hA hA2 hE0 hE9 hFX hK hK2 hge hW2 ih
      · refine lv_tableIn (off := 1311) (tgt := 1344) hx hb dL_law_33 (by rw [hxz]; decide) (by rw [hxz]; decide) (by rw [hxz]; rfl) (by decide) ?_
        exact lc_38 l hL C0 hA hA2 hE0 hE9 hFX hK hK2 hge hW2 ih
      · refine lv_tableIn (off := 1334) (tgt := 1367) hx hb dL_law_33 (by rw [hxz]; decide) (by rw [hxz]; decide) (by rw [hxz]; rfl) (by decide) ?_
        exact lc_39 l hL C0 hA hA2 hE0 hE9 hFX hK hK2 hge hW2 ih
      · refine lv_tableIn (off := 1357) (tgt := 1390) hx hb dL_law_33 (by rw [hxz]; decide) (by rw [hxz]; decide) (by rw [hxz]; rfl) (by decide) ?_
        exact lc_40 l hL C0 hA hA2 hE0 hE9 hFX hK hK2 hge hW2 ih
      · refine lv_tableIn (off := 1400) (tgt := 1433) hx hb dL_law_33 (by rw [hxz]; decide) (by rw [hxz]; decide) (by rw [hxz]; rfl) (by decide) ?_
        exact lc_41 l hL C0 hA hA2 hE0 hE9 hFX hK hK2 hge hW2 ih
      · refine lv_tableIn (off := 1473) (tgt := 1506) hx hb dL_law_33 (by rw [hxz]; decide) (by rw [hxz]; decide) (by rw [hxz]; rfl) (by decide) ?_
        exact lc_42 l hL C0 hA hA2 hE0 hE9 hFX hK hK2 hge hW2 ih
