set_option maxHeartbeats 4000000 in
set_option maxRecDepth 100000 in
/-- the law, its call 22: held -/
theorem law_22 {p : Program} {e : Env} {s : State} {m : MethodId} {below : List Frame} {meth : Method} {c : Code} (l : Launch) {b : Nat} {xs : Nat → Int32} (C0 : lw_At p s m meth c b 6 xs) {A : Nat → Prop} (hA : ∀ q, s.heap.size ≤ q → A q) (hA2 : ∀ q, A q → s.heap.size ≤ q) {x0 : Nat} {tp : Nat} {rd : Nat} {gd : Nat} {im : Nat} {rw : Nat} {gn : Nat} {ho : Nat} {sq : Nat} {pl : Nat} {gdt : Nat} {gdu : Nat} {gdn : Nat} {plf : Nat} {plo : Nat} {plb : Nat} {pla : Nat} {m0 : Nat} {m_width : Nat} {m_many : Nat} {m_cells : Nat} {m_moved : Nat} {m_tape : Nat} {m_lines : Nat} {m_has : Nat} {m_state : Nat} {m_gate : Nat} {m_guest : Nat} {m_gone : Nat} {m_isKept : Nat} {m_first : Nat} {m_second : Nat} {m_far : Nat} {m_wished : Nat} {m_wasState : Nat} {m_isHere : Nat} {m_round : Nat} {m_bestRound : Nat} {m_taken : Nat} {k_lines : ClassId} {k_has : ClassId} (hE0 : Kx s) {dC : Nat → ClassId} {dI : Nat → Nat → Nat} (hK : va_K (dC, dI) vwCl [(k_lines, .int), (k_has, .int)] s) {H : Heap} {locs : List Loc} (hP : va_P (dC, dI) vwCl [(x0, .inr (6, [.ref tp, .int 0, .int 0, .int (-1), .ref rd, .ref gd, .ref im, .ref rw, .ref gn, .ref ho, .ref sq])), (gd, .inr (0, [.ref pl, .int 0, .long 0, .long 0, .int 0, .int (-1), .int 0, .ref gdt, .int 0, .ref gdu, .int 0, .ref gdn])), (pl, .inr (3, [.int 0, .int 0, .int 0, .int 0, .long 0, .ref plf, .ref plo, .ref plb, .ref pla])), (m0, .inr (7, [.int 0, .ref m_width, .ref m_many, .ref m_cells, .ref m_moved, .ref m_tape, .int 0, .int 0, .int 0, .int 0, .int 0, .long 0, .int 0, .int 0, .int 0, .int (-1), .ref m_lines, .ref m_has, .ref m_state, .ref m_gate, .ref m_guest, .ref m_gone, .int 0, .ref m_isKept, .ref m_first, .ref m_second, .int 0, .ref m_far, .ref m_wished, .ref m_wasState, .ref m_isHere, .ref m_round, .ref m_bestRound, .int 0, .int 0, .long 0, .long 0, .ref m_taken, .int 0])), (m_lines, .inl (k_lines, 5, .inl (fun _ => 0))), (m_has, .inl (k_has, 45, .inl (fun _ => 0)))] H) (hD : va_D A [(x0, .inr (6, [.ref tp, .int 0, .int 0, .int (-1), .ref rd, .ref gd, .ref im, .ref rw, .ref gn, .ref ho, .ref sq])), (gd, .inr (0, [.ref pl, .int 0, .long 0, .long 0, .int 0, .int (-1), .int 0, .ref gdt, .int 0, .ref gdu, .int 0, .ref gdn])), (pl, .inr (3, [.int 0, .int 0, .int 0, .int 0, .long 0, .ref plf, .ref plo, .ref plb, .ref pla])), (m0, .inr (7, [.int 0, .ref m_width, .ref m_many, .ref m_cells, .ref m_moved, .ref m_tape, .int 0, .int 0, .int 0, .int 0, .int 0, .long 0, .int 0, .int 0, .int 0, .int (-1), .ref m_lines, .ref m_has, .ref m_state, .ref m_gate, .ref m_guest, .ref m_gone, .int 0, .ref m_isKept, .ref m_first, .ref m_second, .int 0, .ref m_far, .ref m_wished, .ref m_wasState, .ref m_isHere, .ref m_round, .ref m_bestRound, .int 0, .int 0, .long 0, .long 0, .ref m_taken, .int 0])), (m_lines, .inl (k_lines, 5, .inl (fun _ => 0))), (m_has, .inl (k_has, 45, .inl (fun _ => 0)))]) (hS : va_S A s.heap H locs) {ls : Array Slot} (hl : lv_has ls 4 [(3, .int 0), (2, .ref m0), (1, .ref x0), (0, .ref b)]) : W p l e room_1 s m #[Value.ref b] below meth c H locs 70 7203 (lw_Z below #[Value.ref b] s) (F0 m 836 ls []) := by
  obtain ⟨hx, hb, hr, hml, hown, hts, hX, hbl, hlocks, hgv⟩ := id C0
  have hown : s.vm.findClass RL = some m.cls := hown
  have hts := fun w (h : w ∈ wz_law) => hts w (wz_law_in w h)
  have hbA : ¬ A b := fun h => absurd (hA2 b h) (Nat.not_le.mpr hbl)
  obtain ⟨a0, ea0⟩ : ∃ y : Int32, y = xs (0 : Int32).toNatClampNeg := ⟨_, rfl⟩
  obtain ⟨a1, ea1⟩ : ∃ y : Int32, y = xs (1 : Int32).toNatClampNeg := ⟨_, rfl⟩
  obtain ⟨a2, ea2⟩ : ∃ y : Int32, y = xs (2 : Int32).toNatClampNeg := ⟨_, rfl⟩
  obtain ⟨a3, ea3⟩ : ∃ y : Int32, y = xs (3 : Int32).toNatClampNeg := ⟨_, rfl⟩
  obtain ⟨a4, ea4⟩ : ∃ y : Int32, y = xs (4 : Int32).toNatClampNeg := ⟨_, rfl⟩
  obtain ⟨a5, ea5⟩ : ∃ y : Int32, y = xs (5 : Int32).toNatClampNeg := ⟨_, rfl⟩
  refine lv_aload_n hx hb dL_law_836 rfl (lv_at hl 2 rfl) ?_
  refine lv_aload_n hx hb dL_law_837 rfl (lv_at hl 3 rfl) ?_
  refine lv_iload_n hx hb dL_law_838 rfl (lv_at hl 0 rfl) ?_
  refine lv_iconst (v := 1) hx hb dL_law_839 (by decide) ?_
  refine lv_iadd hx hb dL_law_840 ?_
  refine lv_topi (fun z_1 ez_1 => ?_)
  obtain rfl : z_1 = 1 := ez_1.trans (by decide)
  refine va_sld hx hb hX hbl hbA hS (vp_in_iff.mpr ⟨by decide, by decide⟩) dL_law_841 ?_
  refine lv_topi (fun z_2 ez_2 => ?_)
  obtain rfl : a1 = z_2 := ea1.trans ez_2.symm
  refine lv_aload_n hx hb dL_law_842 rfl (lv_at hl 3 rfl) ?_
  refine lv_iload_n hx hb dL_law_843 rfl (lv_at hl 0 rfl) ?_
  refine lv_iconst (v := 2) hx hb dL_law_844 (by decide) ?_
  refine lv_iadd hx hb dL_law_845 ?_
  refine lv_topi (fun z_3 ez_3 => ?_)
  obtain rfl : z_3 = 2 := ez_3.trans (by decide)
  refine va_sld hx hb hX hbl hbA hS (vp_in_iff.mpr ⟨by decide, by decide⟩) dL_law_846 ?_
  refine lv_topi (fun z_4 ez_4 => ?_)
  obtain rfl : a2 = z_4 := ea2.trans ez_4.symm
  refine lv_aload_n hx hb dL_law_847 rfl (lv_at hl 3 rfl) ?_
  refine lv_iload_n hx hb dL_law_848 rfl (lv_at hl 0 rfl) ?_
  refine lv_iconst (v := 3) hx hb dL_law_849 (by decide) ?_
  refine lv_iadd hx hb dL_law_850 ?_
  refine lv_topi (fun z_5 ez_5 => ?_)
  obtain rfl : z_5 = 3 := ez_5.trans (by decide)
  refine va_sld hx hb hX hbl hbA hS (vp_in_iff.mpr ⟨by decide, by decide⟩) dL_law_851 ?_
  refine lv_topi (fun z_6 ez_6 => ?_)
  obtain rfl : a3 = z_6 := ea3.trans ez_6.symm
  have hPc := hP.sub (ws' := [(x0, .inr (6, [.ref tp, .int 0, .int 0, .int (-1), .ref rd, .ref gd, .ref im, .ref rw, .ref gn, .ref ho, .ref sq])), (gd, .inr (0, [.ref pl, .int 0, .long 0, .long 0, .int 0, .int (-1), .int 0, .ref gdt, .int 0, .ref gdu, .int 0, .ref gdn])), (pl, .inr (3, [.int 0, .int 0, .int 0, .int 0, .long 0, .ref plf, .ref plo, .ref plb, .ref pla]))]) [0, 1, 2] rfl
  have hDc := hD.sub (ws' := [(x0, .inr (6, [.ref tp, .int 0, .int 0, .int (-1), .ref rd, .ref gd, .ref im, .ref rw, .ref gn, .ref ho, .ref sq])), (gd, .inr (0, [.ref pl, .int 0, .long 0, .long 0, .int 0, .int (-1), .int 0, .ref gdt, .int 0, .ref gdu, .int 0, .ref gdn])), (pl, .inr (3, [.int 0, .int 0, .int 0, .int 0, .long 0, .ref plf, .ref plo, .ref plb, .ref pla]))]) [0, 1, 2] (by decide) rfl
  have hKc := hK.sub (tys' := []) [] rfl
  have hFc := va_free (wc := [(x0, .inr (6, [.ref tp, .int 0, .int 0, .int (-1), .ref rd, .ref gd, .ref im, .ref rw, .ref gn, .ref ho, .ref sq])), (gd, .inr (0, [.ref pl, .int 0, .long 0, .long 0, .int 0, .int (-1), .int 0, .ref gdt, .int 0, .ref gdu, .int 0, .ref gdn])), (pl, .inr (3, [.int 0, .int 0, .int 0, .int 0, .long 0, .ref plf, .ref plo, .ref plb, .ref pla]))]) hD hS hA [0, 1, 2] rfl
  refine va_calli (va_runV (As := [.int a1, .int a2, .int a3]) (rest := []) ⟨hx, hb, hml, hown, hts⟩ (c_X6_held l dC dI H.size x0 tp rd gd im rw gn ho sq pl gdt gdu gdn plf plo plb pla a1 a2 a3 ) (cwV 3 hts g_law_X6_held rfl rfl rfl (by decide +kernel) ⟨Nat.le_of_ble_eq_true rfl, Nat.le_of_ble_eq_true rfl⟩) ⟨fun a U g mk q => by obtain ⟨q0, q1, qP, qK, qD⟩ := q; exact ⟨q0, q1, qP, va_K.moved (u := U) (U := U.calling g mk a) (Vm.Alike.refl U.vm) qK, qD⟩, va_recv hKc hPc (ci := 6) (q0 := 0) rfl rfl, fun U hU hW => ⟨rfl, by rw [hU], by rw [hU]; exact hPc, va_K.moved hW.alike hKc, hDc.weaken (fun _ _ _ _ => trivial)⟩⟩ rfl rfl hl.1 rfl (lv_room (Nat.le_of_ble_eq_true rfl)) dL_law_852 ⟨Nat.le_of_ble_eq_true rfl, Nat.le_of_ble_eq_true rfl⟩) hS (fun q _ h => hFc q h) hFc (fun r_7 u t H1 locs ht hvm hw_8 hB hz1 hk1 hS => ?_)
  have hP1 : va_P (dC, dI) vwCl [] H1 := i_nilP
  have hD1 : va_D (va_A [(x0, .inr (6, [.ref tp, .int 0, .int 0, .int (-1), .ref rd, .ref gd, .ref im, .ref rw, .ref gn, .ref ho, .ref sq])), (gd, .inr (0, [.ref pl, .int 0, .long 0, .long 0, .int 0, .int (-1), .int 0, .ref gdt, .int 0, .ref gdu, .int 0, .ref gdn])), (pl, .inr (3, [.int 0, .int 0, .int 0, .int 0, .long 0, .ref plf, .ref plo, .ref plb, .ref pla]))] H.size) [] := i_nilD
  try dsimp only at hw_8
  obtain ⟨hP, hD⟩ := va_join (wr := [(m0, .inr (7, [.int 0, .ref m_width, .ref m_many, .ref m_cells, .ref m_moved, .ref m_tape, .int 0, .int 0, .int 0, .int 0, .int 0, .long 0, .int 0, .int 0, .int 0, .int (-1), .ref m_lines, .ref m_has, .ref m_state, .ref m_gate, .ref m_guest, .ref m_gone, .int 0, .ref m_isKept, .ref m_first, .ref m_second, .int 0, .ref m_far, .ref m_wished, .ref m_wasState, .ref m_isHere, .ref m_round, .ref m_bestRound, .int 0, .int 0, .long 0, .long 0, .ref m_taken, .int 0])), (m_lines, .inl (k_lines, 5, .inl (fun _ => 0))), (m_has, .inl (k_has, 45, .inl (fun _ => 0)))]) (w1 := []) hP hD [0, 1, 2] [3, 4, 5] rfl rfl (by decide) (by decide) hk1 hFc hP1 hD1
  generalize H1 = H at hP hS ⊢
  have hP : va_P (dC, dI) vwCl [(m0, .inr (7, [.int 0, .ref m_width, .ref m_many, .ref m_cells, .ref m_moved, .ref m_tape, .int 0, .int 0, .int 0, .int 0, .int 0, .long 0, .int 0, .int 0, .int 0, .int (-1), .ref m_lines, .ref m_has, .ref m_state, .ref m_gate, .ref m_guest, .ref m_gone, .int 0, .ref m_isKept, .ref m_first, .ref m_second, .int 0, .ref m_far, .ref m_wished, .ref m_wasState, .ref m_isHere, .ref m_round, .ref m_bestRound, .int 0, .int 0, .long 0, .long 0, .ref m_taken, .int 0])), (m_lines, .inl (k_lines, 5, .inl (fun _ => 0))), (m_has, .inl (k_has, 45, .inl (fun _ => 0)))] H := hP
  have hD : va_D A [(m0, .inr (7, [.int 0, .ref m_width, .ref m_many, .ref m_cells, .ref m_moved, .ref m_tape, .int 0, .int 0, .int 0, .int 0, .int 0, .long 0, .int 0, .int 0, .int 0, .int (-1), .ref m_lines, .ref m_has, .ref m_state, .ref m_gate, .ref m_guest, .ref m_gone, .int 0, .ref m_isKept, .ref m_first, .ref m_second, .int 0, .ref m_far, .ref m_wished, .ref m_wasState, .ref m_isHere, .ref m_round, .ref m_bestRound, .int 0, .int 0, .long 0, .long 0, .ref m_taken, .int 0])), (m_lines, .inl (k_lines, 5, .inl (fun _ => 0))), (m_has, .inl (k_has, 45, .inl (fun _ => 0)))] := hD
  obtain rfl : r_7 = -2 := hw_8
  refine lv_aload_n hx hb dL_law_855 rfl (lv_at hl 1 rfl) ?_
  refine lv_aload_n hx hb dL_law_856 rfl (lv_at hl 3 rfl) ?_
  refine lv_iload_n hx hb dL_law_857 rfl (lv_at hl 0 rfl) ?_
  refine lv_iconst (v := 1) hx hb dL_law_858 (by decide) ?_
  refine lv_iadd hx hb dL_law_859 ?_
  refine lv_topi (fun z_9 ez_9 => ?_)
  obtain rfl : z_9 = 1 := ez_9.trans (by decide)
  refine va_sld hx hb hX hbl hbA hS (vp_in_iff.mpr ⟨by decide, by decide⟩) dL_law_860 ?_
  refine lv_topi (fun z_10 ez_10 => ?_)
  obtain rfl : a1 = z_10 := ea1.trans ez_10.symm
  refine lv_aload_n hx hb dL_law_861 rfl (lv_at hl 3 rfl) ?_
  refine lv_iload_n hx hb dL_law_862 rfl (lv_at hl 0 rfl) ?_
  refine lv_iconst (v := 2) hx hb dL_law_863 (by decide) ?_
  refine lv_iadd hx hb dL_law_864 ?_
  refine lv_topi (fun z_11 ez_11 => ?_)
  obtain rfl : z_11 = 2 := ez_11.trans (by decide)
  refine va_sld hx hb hX hbl hbA hS (vp_in_iff.mpr ⟨by decide, by decide⟩) dL_law_865 ?_
  refine lv_topi (fun z_12 ez_12 => ?_)
  obtain rfl : a2 = z_12 := ea2.trans ez_12.symm
  refine lv_aload_n hx hb dL_law_866 rfl (lv_at hl 3 rfl) ?_
  refine lv_iload_n hx hb dL_law_867 rfl (lv_at hl 0 rfl) ?_
  refine lv_iconst (v := 3) hx hb dL_law_868 (by decide) ?_
  refine lv_iadd hx hb dL_law_869 ?_
  refine lv_topi (fun z_13 ez_13 => ?_)
  obtain rfl : z_13 = 3 := ez_13.trans (by decide)
  refine va_sld hx hb hX hbl hbA hS (vp_in_iff.mpr ⟨by decide, by decide⟩) dL_law_870 ?_
  refine lv_topi (fun z_14 ez_14 => ?_)
  obtain rfl : a3 = z_14 := ea3.trans ez_14.symm
  have hPc := hP.sub (ws' := [(m0, .inr (7, [.int 0, .ref m_width, .ref m_many, .ref m_cells, .ref m_moved, .ref m_tape, .int 0, .int 0, .int 0, .int 0, .int 0, .long 0, .int 0, .int 0, .int 0, .int (-1), .ref m_lines, .ref m_has, .ref m_state, .ref m_gate, .ref m_guest, .ref m_gone, .int 0, .ref m_isKept, .ref m_first, .ref m_second, .int 0, .ref m_far, .ref m_wished, .ref m_wasState, .ref m_isHere, .ref m_round, .ref m_bestRound, .int 0, .int 0, .long 0, .long 0, .ref m_taken, .int 0])), (m_lines, .inl (k_lines, 5, .inl (fun _ => 0))), (m_has, .inl (k_has, 45, .inl (fun _ => 0)))]) [0, 1, 2] rfl
  have hDc := hD.sub (ws' := [(m0, .inr (7, [.int 0, .ref m_width, .ref m_many, .ref m_cells, .ref m_moved, .ref m_tape, .int 0, .int 0, .int 0, .int 0, .int 0, .long 0, .int 0, .int 0, .int 0, .int (-1), .ref m_lines, .ref m_has, .ref m_state, .ref m_gate, .ref m_guest, .ref m_gone, .int 0, .ref m_isKept, .ref m_first, .ref m_second, .int 0, .ref m_far, .ref m_wished, .ref m_wasState, .ref m_isHere, .ref m_round, .ref m_bestRound, .int 0, .int 0, .long 0, .long 0, .ref m_taken, .int 0])), (m_lines, .inl (k_lines, 5, .inl (fun _ => 0))), (m_has, .inl (k_has, 45, .inl (fun _ => 0)))]) [0, 1, 2] (by decide) rfl
  have hKc := hK.sub (tys' := [(k_lines, .int), (k_has, .int)]) [0, 1] rfl
  have hFc := va_free (wc := [(m0, .inr (7, [.int 0, .ref m_width, .ref m_many, .ref m_cells, .ref m_moved, .ref m_tape, .int 0, .int 0, .int 0, .int 0, .int 0, .long 0, .int 0, .int 0, .int 0, .int (-1), .ref m_lines, .ref m_has, .ref m_state, .ref m_gate, .ref m_guest, .ref m_gone, .int 0, .ref m_isKept, .ref m_first, .ref m_second, .int 0, .ref m_far, .ref m_wished, .ref m_wasState, .ref m_isHere, .ref m_round, .ref m_bestRound, .int 0, .int 0, .long 0, .long 0, .ref m_taken, .int 0])), (m_lines, .inl (k_lines, 5, .inl (fun _ => 0))), (m_has, .inl (k_has, 45, .inl (fun _ => 0)))]) hD hS hA [0, 1, 2] rfl
  refine va_calli (va_runV (As := [.int a1, .int a2, .int a3]) (rest := [.int (-2)]) ⟨hx, hb, hml, hown, hts⟩ (c_X7_held l dC dI H.size m0 m_width m_many m_cells m_moved m_tape m_lines m_has m_state m_gate m_guest m_gone m_isKept m_first m_second m_far m_wished m_wasState m_isHere m_round m_bestRound m_taken k_lines k_has a1 a2 a3 ) (cwV 3 hts g_law_X7_held rfl rfl rfl (by decide +kernel) ⟨Nat.le_of_ble_eq_true rfl, Nat.le_of_ble_eq_true rfl⟩) ⟨fun a U g mk q => by obtain ⟨q0, q1, qP, qK, qD⟩ := q; exact ⟨q0, q1, qP, va_K.moved (u := U) (U := U.calling g mk a) (Vm.Alike.refl U.vm) qK, qD⟩, va_recv hKc hPc (ci := 7) (q0 := 0) rfl rfl, fun U hU hW => ⟨rfl, by rw [hU], by rw [hU]; exact hPc, va_K.moved hW.alike hKc, hDc.weaken (fun _ _ _ _ => trivial)⟩⟩ rfl rfl hl.1 rfl (lv_room (Nat.le_of_ble_eq_true rfl)) dL_law_871 ⟨Nat.le_of_ble_eq_true rfl, Nat.le_of_ble_eq_true rfl⟩) hS (fun q _ h => hFc q h) hFc (fun r_15 u t H1 locs ht hvm hw_16 hB hz1 hk1 hS => ?_)
  have hP1 : va_P (dC, dI) vwCl [] H1 := i_nilP
  have hD1 : va_D (va_A [(m0, .inr (7, [.int 0, .ref m_width, .ref m_many, .ref m_cells, .ref m_moved, .ref m_tape, .int 0, .int 0, .int 0, .int 0, .int 0, .long 0, .int 0, .int 0, .int 0, .int (-1), .ref m_lines, .ref m_has, .ref m_state, .ref m_gate, .ref m_guest, .ref m_gone, .int 0, .ref m_isKept, .ref m_first, .ref m_second, .int 0, .ref m_far, .ref m_wished, .ref m_wasState, .ref m_isHere, .ref m_round, .ref m_bestRound, .int 0, .int 0, .long 0, .long 0, .ref m_taken, .int 0])), (m_lines, .inl (k_lines, 5, .inl (fun _ => 0))), (m_has, .inl (k_has, 45, .inl (fun _ => 0)))] H.size) [] := i_nilD
  try dsimp only at hw_16
  obtain ⟨hP, hD⟩ := va_join (wr := []) (w1 := []) hP hD [0, 1, 2] [] rfl rfl (by decide) (by decide) hk1 hFc hP1 hD1
  generalize H1 = H at hP hS ⊢
  have hP : va_P (dC, dI) vwCl [] H := hP
  have hD : va_D A [] := hD
  obtain rfl : r_15 = -2 := hw_16
  refine lv_icmp_eq (tgt := 1569) hx hb dL_law_874 (by decide) (fun _ => ?_) (fun h => absurd (by decide) h)
  refine lv_iinc (v := 6) (lv' := [(3, .int 6), (2, .ref m0), (1, .ref x0), (0, .ref b)]) hx hb dL_law_1569 hl (k := 0) rfl (by decide) (by decide) rfl (fun ls hl => ?_)
  refine lv_goto (tgt := 18) hx hb dL_law_1572 (by decide) ?_
  exact law_exit C0 hA2 hS (lv_sub hl [0, 3] rfl) (by decide) (by omega) (by omega)

set_option maxHeartbeats 4000000 in
set_option maxRecDepth 100000 in
/-- the law, its call 23: hold -/
theorem law_23 {p : Program} {e : Env} {s : State} {m : MethodId} {below : List Frame} {meth : Method} {c : Code} (l : Launch) {b : Nat} {xs : Nat → Int32} (C0 : lw_At p s m meth c b 6 xs) {A : Nat → Prop} (hA : ∀ q, s.heap.size ≤ q → A q) (hA2 : ∀ q, A q → s.heap.size ≤ q) {x0 : Nat} {tp : Nat} {rd : Nat} {gd : Nat} {im : Nat} {rw : Nat} {gn : Nat} {ho : Nat} {sq : Nat} {pl : Nat} {gdt : Nat} {gdu : Nat} {gdn : Nat} {plf : Nat} {plo : Nat} {plb : Nat} {pla : Nat} {m0 : Nat} {m_width : Nat} {m_many : Nat} {m_cells : Nat} {m_moved : Nat} {m_tape : Nat} {m_lines : Nat} {m_has : Nat} {m_state : Nat} {m_gate : Nat} {m_guest : Nat} {m_gone : Nat} {m_isKept : Nat} {m_first : Nat} {m_second : Nat} {m_far : Nat} {m_wished : Nat} {m_wasState : Nat} {m_isHere : Nat} {m_round : Nat} {m_bestRound : Nat} {m_taken : Nat} {k_lines : ClassId} {k_has : ClassId} (hE0 : Kx s) {dC : Nat → ClassId} {dI : Nat → Nat → Nat} (hK : va_K (dC, dI) vwCl [(k_lines, .int), (k_has, .int)] s) {H : Heap} {locs : List Loc} (hP : va_P (dC, dI) vwCl [(x0, .inr (6, [.ref tp, .int 0, .int 0, .int (-1), .ref rd, .ref gd, .ref im, .ref rw, .ref gn, .ref ho, .ref sq])), (gd, .inr (0, [.ref pl, .int 0, .long 0, .long 0, .int 0, .int (-1), .int 0, .ref gdt, .int 0, .ref gdu, .int 0, .ref gdn])), (pl, .inr (3, [.int 0, .int 0, .int 0, .int 0, .long 0, .ref plf, .ref plo, .ref plb, .ref pla])), (m0, .inr (7, [.int 0, .ref m_width, .ref m_many, .ref m_cells, .ref m_moved, .ref m_tape, .int 0, .int 0, .int 0, .int 0, .int 0, .long 0, .int 0, .int 0, .int 0, .int (-1), .ref m_lines, .ref m_has, .ref m_state, .ref m_gate, .ref m_guest, .ref m_gone, .int 0, .ref m_isKept, .ref m_first, .ref m_second, .int 0, .ref m_far, .ref m_wished, .ref m_wasState, .ref m_isHere, .ref m_round, .ref m_bestRound, .int 0, .int 0, .long 0, .long 0, .ref m_taken, .int 0])), (m_lines, .inl (k_lines, 5, .inl (fun _ => 0))), (m_has, .inl (k_has, 45, .inl (fun _ => 0)))] H) (hD : va_D A [(x0, .inr (6, [.ref tp, .int 0, .int 0, .int (-1), .ref rd, .ref gd, .ref im, .ref rw, .ref gn, .ref ho, .ref sq])), (gd, .inr (0, [.ref pl, .int 0, .long 0, .long 0, .int 0, .int (-1), .int 0, .ref gdt, .int 0, .ref gdu, .int 0, .ref gdn])), (pl, .inr (3, [.int 0, .int 0, .int 0, .int 0, .long 0, .ref plf, .ref plo, .ref plb, .ref pla])), (m0, .inr (7, [.int 0, .ref m_width, .ref m_many, .ref m_cells, .ref m_moved, .ref m_tape, .int 0, .int 0, .int 0, .int 0, .int 0, .long 0, .int 0, .int 0, .int 0, .int (-1), .ref m_lines, .ref m_has, .ref m_state, .ref m_gate, .ref m_guest, .ref m_gone, .int 0, .ref m_isKept, .ref m_first, .ref m_second, .int 0, .ref m_far, .ref m_wished, .ref m_wasState, .ref m_isHere, .ref m_round, .ref m_bestRound, .int 0, .int 0, .long 0, .long 0, .ref m_taken, .int 0])), (m_lines, .inl (k_lines, 5, .inl (fun _ => 0))), (m_has, .inl (k_has, 45, .inl (fun _ => 0)))]) (hS : va_S A s.heap H locs) {ls : Array Slot} (hl : lv_has ls 4 [(3, .int 0), (2, .ref m0), (1, .ref x0), (0, .ref b)]) : W p l e room_1 s m #[Value.ref b] below meth c H locs 70 7203 (lw_Z below #[Value.ref b] s) (F0 m 879 ls []) := by
  obtain ⟨hx, hb, hr, hml, hown, hts, hX, hbl, hlocks, hgv⟩ := id C0
  have hown : s.vm.findClass RL = some m.cls := hown
  have hts := fun w (h : w ∈ wz_law) => hts w (wz_law_in w h)
  have hbA : ¬ A b := fun h => absurd (hA2 b h) (Nat.not_le.mpr hbl)
  obtain ⟨a0, ea0⟩ : ∃ y : Int32, y = xs (0 : Int32).toNatClampNeg := ⟨_, rfl⟩
  obtain ⟨a1, ea1⟩ : ∃ y : Int32, y = xs (1 : Int32).toNatClampNeg := ⟨_, rfl⟩
  obtain ⟨a2, ea2⟩ : ∃ y : Int32, y = xs (2 : Int32).toNatClampNeg := ⟨_, rfl⟩
  obtain ⟨a3, ea3⟩ : ∃ y : Int32, y = xs (3 : Int32).toNatClampNeg := ⟨_, rfl⟩
  obtain ⟨a4, ea4⟩ : ∃ y : Int32, y = xs (4 : Int32).toNatClampNeg := ⟨_, rfl⟩
  obtain ⟨a5, ea5⟩ : ∃ y : Int32, y = xs (5 : Int32).toNatClampNeg := ⟨_, rfl⟩
  refine lv_aload_n hx hb dL_law_879 rfl (lv_at hl 2 rfl) ?_
  refine lv_aload_n hx hb dL_law_880 rfl (lv_at hl 3 rfl) ?_
  refine lv_iload_n hx hb dL_law_881 rfl (lv_at hl 0 rfl) ?_
  refine lv_iconst (v := 1) hx hb dL_law_882 (by decide) ?_
  refine lv_iadd hx hb dL_law_883 ?_
  refine lv_topi (fun z_1 ez_1 => ?_)
  obtain rfl : z_1 = 1 := ez_1.trans (by decide)
  refine va_sld hx hb hX hbl hbA hS (vp_in_iff.mpr ⟨by decide, by decide⟩) dL_law_884 ?_
  refine lv_topi (fun z_2 ez_2 => ?_)
  obtain rfl : a1 = z_2 := ea1.trans ez_2.symm
  refine lv_aload_n hx hb dL_law_885 rfl (lv_at hl 3 rfl) ?_
  refine lv_iload_n hx hb dL_law_886 rfl (lv_at hl 0 rfl) ?_
  refine lv_iconst (v := 2) hx hb dL_law_887 (by decide) ?_
  refine lv_iadd hx hb dL_law_888 ?_
  refine lv_topi (fun z_3 ez_3 => ?_)
  obtain rfl : z_3 = 2 := ez_3.trans (by decide)
  refine va_sld hx hb hX hbl hbA hS (vp_in_iff.mpr ⟨by decide, by decide⟩) dL_law_889 ?_
  refine lv_topi (fun z_4 ez_4 => ?_)
  obtain rfl : a2 = z_4 := ea2.trans ez_4.symm
  have hPc := hP.sub (ws' := [(x0, .inr (6, [.ref tp, .int 0, .int 0, .int (-1), .ref rd, .ref gd, .ref im, .ref rw, .ref gn, .ref ho, .ref sq])), (gd, .inr (0, [.ref pl, .int 0, .long 0, .long 0, .int 0, .int (-1), .int 0, .ref gdt, .int 0, .ref gdu, .int 0, .ref gdn])), (pl, .inr (3, [.int 0, .int 0, .int 0, .int 0, .long 0, .ref plf, .ref plo, .ref plb, .ref pla]))]) [0, 1, 2] rfl
  have hDc := hD.sub (ws' := [(x0, .inr (6, [.ref tp, .int 0, .int 0, .int (-1), .ref rd, .ref gd, .ref im, .ref rw, .ref gn, .ref ho, .ref sq])), (gd, .inr (0, [.ref pl, .int 0, .long 0, .long 0, .int 0, .int (-1), .int 0, .ref gdt, .int 0, .ref gdu, .int 0, .ref gdn])), (pl, .inr (3, [.int 0, .int 0, .int 0, .int 0, .long 0, .ref plf, .ref plo, .ref plb, .ref pla]))]) [0, 1, 2] (by decide) rfl
  have hKc := hK.sub (tys' := []) [] rfl
  have hFc := va_free (wc := [(x0, .inr (6, [.ref tp, .int 0, .int 0, .int (-1), .ref rd, .ref gd, .ref im, .ref rw, .ref gn, .ref ho, .ref sq])), (gd, .inr (0, [.ref pl, .int 0, .long 0, .long 0, .int 0, .int (-1), .int 0, .ref gdt, .int 0, .ref gdu, .int 0, .ref gdn])), (pl, .inr (3, [.int 0, .int 0, .int 0, .int 0, .long 0, .ref plf, .ref plo, .ref plb, .ref pla]))]) hD hS hA [0, 1, 2] rfl
  refine va_calli (va_runV (As := [.int a1, .int a2]) (rest := []) ⟨hx, hb, hml, hown, hts⟩ (c_X6_hold l dC dI H.size x0 tp rd gd im rw gn ho sq pl gdt gdu gdn plf plo plb pla a1 a2 ) (cwV 2 hts g_law_X6_hold rfl rfl rfl (by decide +kernel) ⟨Nat.le_of_ble_eq_true rfl, Nat.le_of_ble_eq_true rfl⟩) ⟨fun a U g mk q => by obtain ⟨q0, q1, qP, qK, qD⟩ := q; exact ⟨q0, q1, qP, va_K.moved (u := U) (U := U.calling g mk a) (Vm.Alike.refl U.vm) qK, qD⟩, va_recv hKc hPc (ci := 6) (q0 := 0) rfl rfl, fun U hU hW => ⟨rfl, by rw [hU], by rw [hU]; exact hPc, va_K.moved hW.alike hKc, hDc.weaken (fun _ _ _ _ => trivial)⟩⟩ rfl rfl hl.1 rfl (lv_room (Nat.le_of_ble_eq_true rfl)) dL_law_890 ⟨Nat.le_of_ble_eq_true rfl, Nat.le_of_ble_eq_true rfl⟩) hS (fun q _ h => hFc q h) hFc (fun r_5 u t H1 locs ht hvm hw_6 hB hz1 hk1 hS => ?_)
  have hP1 : va_P (dC, dI) vwCl [] H1 := i_nilP
  have hD1 : va_D (va_A [(x0, .inr (6, [.ref tp, .int 0, .int 0, .int (-1), .ref rd, .ref gd, .ref im, .ref rw, .ref gn, .ref ho, .ref sq])), (gd, .inr (0, [.ref pl, .int 0, .long 0, .long 0, .int 0, .int (-1), .int 0, .ref gdt, .int 0, .ref gdu, .int 0, .ref gdn])), (pl, .inr (3, [.int 0, .int 0, .int 0, .int 0, .long 0, .ref plf, .ref plo, .ref plb, .ref pla]))] H.size) [] := i_nilD
  try dsimp only at hw_6
  obtain ⟨hP, hD⟩ := va_join (wr := [(m0, .inr (7, [.int 0, .ref m_width, .ref m_many, .ref m_cells, .ref m_moved, .ref m_tape, .int 0, .int 0, .int 0, .int 0, .int 0, .long 0, .int 0, .int 0, .int 0, .int (-1), .ref m_lines, .ref m_has, .ref m_state, .ref m_gate, .ref m_guest, .ref m_gone, .int 0, .ref m_isKept, .ref m_first, .ref m_second, .int 0, .ref m_far, .ref m_wished, .ref m_wasState, .ref m_isHere, .ref m_round, .ref m_bestRound, .int 0, .int 0, .long 0, .long 0, .ref m_taken, .int 0])), (m_lines, .inl (k_lines, 5, .inl (fun _ => 0))), (m_has, .inl (k_has, 45, .inl (fun _ => 0)))]) (w1 := []) hP hD [0, 1, 2] [3, 4, 5] rfl rfl (by decide) (by decide) hk1 hFc hP1 hD1
  generalize H1 = H at hP hS ⊢
  have hP : va_P (dC, dI) vwCl [(m0, .inr (7, [.int 0, .ref m_width, .ref m_many, .ref m_cells, .ref m_moved, .ref m_tape, .int 0, .int 0, .int 0, .int 0, .int 0, .long 0, .int 0, .int 0, .int 0, .int (-1), .ref m_lines, .ref m_has, .ref m_state, .ref m_gate, .ref m_guest, .ref m_gone, .int 0, .ref m_isKept, .ref m_first, .ref m_second, .int 0, .ref m_far, .ref m_wished, .ref m_wasState, .ref m_isHere, .ref m_round, .ref m_bestRound, .int 0, .int 0, .long 0, .long 0, .ref m_taken, .int 0])), (m_lines, .inl (k_lines, 5, .inl (fun _ => 0))), (m_has, .inl (k_has, 45, .inl (fun _ => 0)))] H := hP
  have hD : va_D A [(m0, .inr (7, [.int 0, .ref m_width, .ref m_many, .ref m_cells, .ref m_moved, .ref m_tape, .int 0, .int 0, .int 0, .int 0, .int 0, .long 0, .int 0, .int 0, .int 0, .int (-1), .ref m_lines, .ref m_has, .ref m_state, .ref m_gate, .ref m_guest, .ref m_gone, .int 0, .ref m_isKept, .ref m_first, .ref m_second, .int 0, .ref m_far, .ref m_wished, .ref m_wasState, .ref m_isHere, .ref m_round, .ref m_bestRound, .int 0, .int 0, .long 0, .long 0, .ref m_taken, .int 0])), (m_lines, .inl (k_lines, 5, .inl (fun _ => 0))), (m_has, .inl (k_has, 45, .inl (fun _ => 0)))] := hD
  obtain rfl : r_5 = -2 := hw_6
  refine lv_aload_n hx hb dL_law_893 rfl (lv_at hl 1 rfl) ?_
  refine lv_aload_n hx hb dL_law_894 rfl (lv_at hl 3 rfl) ?_
  refine lv_iload_n hx hb dL_law_895 rfl (lv_at hl 0 rfl) ?_
  refine lv_iconst (v := 1) hx hb dL_law_896 (by decide) ?_
  refine lv_iadd hx hb dL_law_897 ?_
  refine lv_topi (fun z_7 ez_7 => ?_)
  obtain rfl : z_7 = 1 := ez_7.trans (by decide)
  refine va_sld hx hb hX hbl hbA hS (vp_in_iff.mpr ⟨by decide, by decide⟩) dL_law_898 ?_
  refine lv_topi (fun z_8 ez_8 => ?_)
  obtain rfl : a1 = z_8 := ea1.trans ez_8.symm
  refine lv_aload_n hx hb dL_law_899 rfl (lv_at hl 3 rfl) ?_
  refine lv_iload_n hx hb dL_law_900 rfl (lv_at hl 0 rfl) ?_
  refine lv_iconst (v := 2) hx hb dL_law_901 (by decide) ?_
  refine lv_iadd hx hb dL_law_902 ?_
  refine lv_topi (fun z_9 ez_9 => ?_)
  obtain rfl : z_9 = 2 := ez_9.trans (by decide)
  refine va_sld hx hb hX hbl hbA hS (vp_in_iff.mpr ⟨by decide, by decide⟩) dL_law_903 ?_
  refine lv_topi (fun z_10 ez_10 => ?_)
  obtain rfl : a2 = z_10 := ea2.trans ez_10.symm
  have hPc := hP.sub (ws' := [(m0, .inr (7, [.int 0, .ref m_width, .ref m_many, .ref m_cells, .ref m_moved, .ref m_tape, .int 0, .int 0, .int 0, .int 0, .int 0, .long 0, .int 0, .int 0, .int 0, .int (-1), .ref m_lines, .ref m_has, .ref m_state, .ref m_gate, .ref m_guest, .ref m_gone, .int 0, .ref m_isKept, .ref m_first, .ref m_second, .int 0, .ref m_far, .ref m_wished, .ref m_wasState, .ref m_isHere, .ref m_round, .ref m_bestRound, .int 0, .int 0, .long 0, .long 0, .ref m_taken, .int 0])), (m_lines, .inl (k_lines, 5, .inl (fun _ => 0))), (m_has, .inl (k_has, 45, .inl (fun _ => 0)))]) [0, 1, 2] rfl
  have hDc := hD.sub (ws' := [(m0, .inr (7, [.int 0, .ref m_width, .ref m_many, .ref m_cells, .ref m_moved, .ref m_tape, .int 0, .int 0, .int 0, .int 0, .int 0, .long 0, .int 0, .int 0, .int 0, .int (-1), .ref m_lines, .ref m_has, .ref m_state, .ref m_gate, .ref m_guest, .ref m_gone, .int 0, .ref m_isKept, .ref m_first, .ref m_second, .int 0, .ref m_far, .ref m_wished, .ref m_wasState, .ref m_isHere, .ref m_round, .ref m_bestRound, .int 0, .int 0, .long 0, .long 0, .ref m_taken, .int 0])), (m_lines, .inl (k_lines, 5, .inl (fun _ => 0))), (m_has, .inl (k_has, 45, .inl (fun _ => 0)))]) [0, 1, 2] (by decide) rfl
  have hKc := hK.sub (tys' := [(k_lines, .int), (k_has, .int)]) [0, 1] rfl
  have hFc := va_free (wc := [(m0, .inr (7, [.int 0, .ref m_width, .ref m_many, .ref m_cells, .ref m_moved, .ref m_tape, .int 0, .int 0, .int 0, .int 0, .int 0, .long 0, .int 0, .int 0, .int 0, .int (-1), .ref m_lines, .ref m_has, .ref m_state, .ref m_gate, .ref m_guest, .ref m_gone, .int 0, .ref m_isKept, .ref m_first, .ref m_second, .int 0, .ref m_far, .ref m_wished, .ref m_wasState, .ref m_isHere, .ref m_round, .ref m_bestRound, .int 0, .int 0, .long 0, .long 0, .ref m_taken, .int 0])), (m_lines, .inl (k_lines, 5, .inl (fun _ => 0))), (m_has, .inl (k_has, 45, .inl (fun _ => 0)))]) hD hS hA [0, 1, 2] rfl
  refine va_calli (va_runV (As := [.int a1, .int a2]) (rest := [.int (-2)]) ⟨hx, hb, hml, hown, hts⟩ (c_X7_hold l dC dI H.size m0 m_width m_many m_cells m_moved m_tape m_lines m_has m_state m_gate m_guest m_gone m_isKept m_first m_second m_far m_wished m_wasState m_isHere m_round m_bestRound m_taken k_lines k_has a1 a2 ) (cwV 2 hts g_law_X7_hold rfl rfl rfl (by decide +kernel) ⟨Nat.le_of_ble_eq_true rfl, Nat.le_of_ble_eq_true rfl⟩) ⟨fun a U g mk q => by obtain ⟨q0, q1, qP, qK, qD⟩ := q; exact ⟨q0, q1, qP, va_K.moved (u := U) (U := U.calling g mk a) (Vm.Alike.refl U.vm) qK, qD⟩, va_recv hKc hPc (ci := 7) (q0 := 0) rfl rfl, fun U hU hW => ⟨rfl, by rw [hU], by rw [hU]; exact hPc, va_K.moved hW.alike hKc, hDc.weaken (fun _ _ _ _ => trivial)⟩⟩ rfl rfl hl.1 rfl (lv_room (Nat.le_of_ble_eq_true rfl)) dL_law_904 ⟨Nat.le_of_ble_eq_true rfl, Nat.le_of_ble_eq_true rfl⟩) hS (fun q _ h => hFc q h) hFc (fun r_11 u t H1 locs ht hvm hw_12 hB hz1 hk1 hS => ?_)
  have hP1 : va_P (dC, dI) vwCl [] H1 := i_nilP
  have hD1 : va_D (va_A [(m0, .inr (7, [.int 0, .ref m_width, .ref m_many, .ref m_cells, .ref m_moved, .ref m_tape, .int 0, .int 0, .int 0, .int 0, .int 0, .long 0, .int 0, .int 0, .int 0, .int (-1), .ref m_lines, .ref m_has, .ref m_state, .ref m_gate, .ref m_guest, .ref m_gone, .int 0, .ref m_isKept, .ref m_first, .ref m_second, .int 0, .ref m_far, .ref m_wished, .ref m_wasState, .ref m_isHere, .ref m_round, .ref m_bestRound, .int 0, .int 0, .long 0, .long 0, .ref m_taken, .int 0])), (m_lines, .inl (k_lines, 5, .inl (fun _ => 0))), (m_has, .inl (k_has, 45, .inl (fun _ => 0)))] H.size) [] := i_nilD
  try dsimp only at hw_12
  obtain ⟨hP, hD⟩ := va_join (wr := []) (w1 := []) hP hD [0, 1, 2] [] rfl rfl (by decide) (by decide) hk1 hFc hP1 hD1
  generalize H1 = H at hP hS ⊢
  have hP : va_P (dC, dI) vwCl [] H := hP
  have hD : va_D A [] := hD
  obtain rfl : r_11 = -2 := hw_12
  refine lv_icmp_eq (tgt := 1569) hx hb dL_law_907 (by decide) (fun _ => ?_) (fun h => absurd (by decide) h)
  refine lv_iinc (v := 6) (lv' := [(3, .int 6), (2, .ref m0), (1, .ref x0), (0, .ref b)]) hx hb dL_law_1569 hl (k := 0) rfl (by decide) (by decide) rfl (fun ls hl => ?_)
  refine lv_goto (tgt := 18) hx hb dL_law_1572 (by decide) ?_
  exact law_exit C0 hA2 hS (lv_sub hl [0, 3] rfl) (by decide) (by omega) (by omega)

set_option maxHeartbeats 4000000 in
set_option maxRecDepth 100000 in
/-- the law, its call 24: worst -/
theorem law_24 {p : Program} {e : Env} {s : State} {m : MethodId} {below : List Frame} {meth : Method} {c : Code} (l : Launch) {b : Nat} {xs : Nat → Int32} (C0 : lw_At p s m meth c b 6 xs) {A : Nat → Prop} (hA : ∀ q, s.heap.size ≤ q → A q) (hA2 : ∀ q, A q → s.heap.size ≤ q) {x0 : Nat} {tp : Nat} {rd : Nat} {gd : Nat} {im : Nat} {rw : Nat} {gn : Nat} {ho : Nat} {sq : Nat} {pl : Nat} {gdt : Nat} {gdu : Nat} {gdn : Nat} {plf : Nat} {plo : Nat} {plb : Nat} {pla : Nat} {m0 : Nat} {m_width : Nat} {m_many : Nat} {m_cells : Nat} {m_moved : Nat} {m_tape : Nat} {m_lines : Nat} {m_has : Nat} {m_state : Nat} {m_gate : Nat} {m_guest : Nat} {m_gone : Nat} {m_isKept : Nat} {m_first : Nat} {m_second : Nat} {m_far : Nat} {m_wished : Nat} {m_wasState : Nat} {m_isHere : Nat} {m_round : Nat} {m_bestRound : Nat} {m_taken : Nat} {k_lines : ClassId} {k_has : ClassId} (hE0 : Kx s) {dC : Nat → ClassId} {dI : Nat → Nat → Nat} (hK : va_K (dC, dI) vwCl [(k_lines, .int), (k_has, .int)] s) {H : Heap} {locs : List Loc} (hP : va_P (dC, dI) vwCl [(x0, .inr (6, [.ref tp, .int 0, .int 0, .int (-1), .ref rd, .ref gd, .ref im, .ref rw, .ref gn, .ref ho, .ref sq])), (gd, .inr (0, [.ref pl, .int 0, .long 0, .long 0, .int 0, .int (-1), .int 0, .ref gdt, .int 0, .ref gdu, .int 0, .ref gdn])), (pl, .inr (3, [.int 0, .int 0, .int 0, .int 0, .long 0, .ref plf, .ref plo, .ref plb, .ref pla])), (m0, .inr (7, [.int 0, .ref m_width, .ref m_many, .ref m_cells, .ref m_moved, .ref m_tape, .int 0, .int 0, .int 0, .int 0, .int 0, .long 0, .int 0, .int 0, .int 0, .int (-1), .ref m_lines, .ref m_has, .ref m_state, .ref m_gate, .ref m_guest, .ref m_gone, .int 0, .ref m_isKept, .ref m_first, .ref m_second, .int 0, .ref m_far, .ref m_wished, .ref m_wasState, .ref m_isHere, .ref m_round, .ref m_bestRound, .int 0, .int 0, .long 0, .long 0, .ref m_taken, .int 0])), (m_lines, .inl (k_lines, 5, .inl (fun _ => 0))), (m_has, .inl (k_has, 45, .inl (fun _ => 0)))] H) (hD : va_D A [(x0, .inr (6, [.ref tp, .int 0, .int 0, .int (-1), .ref rd, .ref gd, .ref im, .ref rw, .ref gn, .ref ho, .ref sq])), (gd, .inr (0, [.ref pl, .int 0, .long 0, .long 0, .int 0, .int (-1), .int 0, .ref gdt, .int 0, .ref gdu, .int 0, .ref gdn])), (pl, .inr (3, [.int 0, .int 0, .int 0, .int 0, .long 0, .ref plf, .ref plo, .ref plb, .ref pla])), (m0, .inr (7, [.int 0, .ref m_width, .ref m_many, .ref m_cells, .ref m_moved, .ref m_tape, .int 0, .int 0, .int 0, .int 0, .int 0, .long 0, .int 0, .int 0, .int 0, .int (-1), .ref m_lines, .ref m_has, .ref m_state, .ref m_gate, .ref m_guest, .ref m_gone, .int 0, .ref m_isKept, .ref m_first, .ref m_second, .int 0, .ref m_far, .ref m_wished, .ref m_wasState, .ref m_isHere, .ref m_round, .ref m_bestRound, .int 0, .int 0, .long 0, .long 0, .ref m_taken, .int 0])), (m_lines, .inl (k_lines, 5, .inl (fun _ => 0))), (m_has, .inl (k_has, 45, .inl (fun _ => 0)))]) (hS : va_S A s.heap H locs) {ls : Array Slot} (hl : lv_has ls 4 [(3, .int 0), (2, .ref m0), (1, .ref x0), (0, .ref b)]) : W p l e room_1 s m #[Value.ref b] below meth c H locs 70 7203 (lw_Z below #[Value.ref b] s) (F0 m 912 ls []) := by
  obtain ⟨hx, hb, hr, hml, hown, hts, hX, hbl, hlocks, hgv⟩ := id C0
  have hown : s.vm.findClass RL = some m.cls := hown
  have hts := fun w (h : w ∈ wz_law) => hts w (wz_law_in w h)
  have hbA : ¬ A b := fun h => absurd (hA2 b h) (Nat.not_le.mpr hbl)
  obtain ⟨a0, ea0⟩ : ∃ y : Int32, y = xs (0 : Int32).toNatClampNeg := ⟨_, rfl⟩
  obtain ⟨a1, ea1⟩ : ∃ y : Int32, y = xs (1 : Int32).toNatClampNeg := ⟨_, rfl⟩
  obtain ⟨a2, ea2⟩ : ∃ y : Int32, y = xs (2 : Int32).toNatClampNeg := ⟨_, rfl⟩
  obtain ⟨a3, ea3⟩ : ∃ y : Int32, y = xs (3 : Int32).toNatClampNeg := ⟨_, rfl⟩
  obtain ⟨a4, ea4⟩ : ∃ y : Int32, y = xs (4 : Int32).toNatClampNeg := ⟨_, rfl⟩
  obtain ⟨a5, ea5⟩ : ∃ y : Int32, y = xs (5 : Int32).toNatClampNeg := ⟨_, rfl⟩
  refine lv_aload_n hx hb dL_law_912 rfl (lv_at hl 2 rfl) ?_
  refine lv_aload_n hx hb dL_law_913 rfl (lv_at hl 3 rfl) ?_
  refine lv_iload_n hx hb dL_law_914 rfl (lv_at hl 0 rfl) ?_
  refine lv_iconst (v := 1) hx hb dL_law_915 (by decide) ?_
  refine lv_iadd hx hb dL_law_916 ?_
  refine lv_topi (fun z_1 ez_1 => ?_)
  obtain rfl : z_1 = 1 := ez_1.trans (by decide)
  refine va_sld hx hb hX hbl hbA hS (vp_in_iff.mpr ⟨by decide, by decide⟩) dL_law_917 ?_
  refine lv_topi (fun z_2 ez_2 => ?_)
  obtain rfl : a1 = z_2 := ea1.trans ez_2.symm
  have hPc := hP.sub (ws' := [(x0, .inr (6, [.ref tp, .int 0, .int 0, .int (-1), .ref rd, .ref gd, .ref im, .ref rw, .ref gn, .ref ho, .ref sq])), (gd, .inr (0, [.ref pl, .int 0, .long 0, .long 0, .int 0, .int (-1), .int 0, .ref gdt, .int 0, .ref gdu, .int 0, .ref gdn])), (pl, .inr (3, [.int 0, .int 0, .int 0, .int 0, .long 0, .ref plf, .ref plo, .ref plb, .ref pla]))]) [0, 1, 2] rfl
  have hDc := hD.sub (ws' := [(x0, .inr (6, [.ref tp, .int 0, .int 0, .int (-1), .ref rd, .ref gd, .ref im, .ref rw, .ref gn, .ref ho, .ref sq])), (gd, .inr (0, [.ref pl, .int 0, .long 0, .long 0, .int 0, .int (-1), .int 0, .ref gdt, .int 0, .ref gdu, .int 0, .ref gdn])), (pl, .inr (3, [.int 0, .int 0, .int 0, .int 0, .long 0, .ref plf, .ref plo, .ref plb, .ref pla]))]) [0, 1, 2] (by decide) rfl
  have hKc := hK.sub (tys' := []) [] rfl
  have hFc := va_free (wc := [(x0, .inr (6, [.ref tp, .int 0, .int 0, .int (-1), .ref rd, .ref gd, .ref im, .ref rw, .ref gn, .ref ho, .ref sq])), (gd, .inr (0, [.ref pl, .int 0, .long 0, .long 0, .int 0, .int (-1), .int 0, .ref gdt, .int 0, .ref gdu, .int 0, .ref gdn])), (pl, .inr (3, [.int 0, .int 0, .int 0, .int 0, .long 0, .ref plf, .ref plo, .ref plb, .ref pla]))]) hD hS hA [0, 1, 2] rfl
  refine va_calli (va_runV (As := [.int a1]) (rest := []) ⟨hx, hb, hml, hown, hts⟩ (c_X6_worst l dC dI H.size x0 tp rd gd im rw gn ho sq pl gdt gdu gdn plf plo plb pla a1 ) (cwV 1 hts g_law_X6_worst rfl rfl rfl (by decide +kernel) ⟨Nat.le_of_ble_eq_true rfl, Nat.le_of_ble_eq_true rfl⟩) ⟨fun a U g mk q => by obtain ⟨q0, q1, qP, qK, qD⟩ := q; exact ⟨q0, q1, qP, va_K.moved (u := U) (U := U.calling g mk a) (Vm.Alike.refl U.vm) qK, qD⟩, va_recv hKc hPc (ci := 6) (q0 := 0) rfl rfl, fun U hU hW => ⟨rfl, by rw [hU], by rw [hU]; exact hPc, va_K.moved hW.alike hKc, hDc.weaken (fun _ _ _ _ => trivial)⟩⟩ rfl rfl hl.1 rfl (lv_room (Nat.le_of_ble_eq_true rfl)) dL_law_918 ⟨Nat.le_of_ble_eq_true rfl, Nat.le_of_ble_eq_true rfl⟩) hS (fun q _ h => hFc q h) hFc (fun r_3 u t H1 locs ht hvm hw_4 hB hz1 hk1 hS => ?_)
  have hP1 : va_P (dC, dI) vwCl [] H1 := i_nilP
  have hD1 : va_D (va_A [(x0, .inr (6, [.ref tp, .int 0, .int 0, .int (-1), .ref rd, .ref gd, .ref im, .ref rw, .ref gn, .ref ho, .ref sq])), (gd, .inr (0, [.ref pl, .int 0, .long 0, .long 0, .int 0, .int (-1), .int 0, .ref gdt, .int 0, .ref gdu, .int 0, .ref gdn])), (pl, .inr (3, [.int 0, .int 0, .int 0, .int 0, .long 0, .ref plf, .ref plo, .ref plb, .ref pla]))] H.size) [] := i_nilD
  try dsimp only at hw_4
  obtain ⟨hP, hD⟩ := va_join (wr := [(m0, .inr (7, [.int 0, .ref m_width, .ref m_many, .ref m_cells, .ref m_moved, .ref m_tape, .int 0, .int 0, .int 0, .int 0, .int 0, .long 0, .int 0, .int 0, .int 0, .int (-1), .ref m_lines, .ref m_has, .ref m_state, .ref m_gate, .ref m_guest, .ref m_gone, .int 0, .ref m_isKept, .ref m_first, .ref m_second, .int 0, .ref m_far, .ref m_wished, .ref m_wasState, .ref m_isHere, .ref m_round, .ref m_bestRound, .int 0, .int 0, .long 0, .long 0, .ref m_taken, .int 0])), (m_lines, .inl (k_lines, 5, .inl (fun _ => 0))), (m_has, .inl (k_has, 45, .inl (fun _ => 0)))]) (w1 := []) hP hD [0, 1, 2] [3, 4, 5] rfl rfl (by decide) (by decide) hk1 hFc hP1 hD1
  generalize H1 = H at hP hS ⊢
  have hP : va_P (dC, dI) vwCl [(m0, .inr (7, [.int 0, .ref m_width, .ref m_many, .ref m_cells, .ref m_moved, .ref m_tape, .int 0, .int 0, .int 0, .int 0, .int 0, .long 0, .int 0, .int 0, .int 0, .int (-1), .ref m_lines, .ref m_has, .ref m_state, .ref m_gate, .ref m_guest, .ref m_gone, .int 0, .ref m_isKept, .ref m_first, .ref m_second, .int 0, .ref m_far, .ref m_wished, .ref m_wasState, .ref m_isHere, .ref m_round, .ref m_bestRound, .int 0, .int 0, .long 0, .long 0, .ref m_taken, .int 0])), (m_lines, .inl (k_lines, 5, .inl (fun _ => 0))), (m_has, .inl (k_has, 45, .inl (fun _ => 0)))] H := hP
  have hD : va_D A [(m0, .inr (7, [.int 0, .ref m_width, .ref m_many, .ref m_cells, .ref m_moved, .ref m_tape, .int 0, .int 0, .int 0, .int 0, .int 0, .long 0, .int 0, .int 0, .int 0, .int (-1), .ref m_lines, .ref m_has, .ref m_state, .ref m_gate, .ref m_guest, .ref m_gone, .int 0, .ref m_isKept, .ref m_first, .ref m_second, .int 0, .ref m_far, .ref m_wished, .ref m_wasState, .ref m_isHere, .ref m_round, .ref m_bestRound, .int 0, .int 0, .long 0, .long 0, .ref m_taken, .int 0])), (m_lines, .inl (k_lines, 5, .inl (fun _ => 0))), (m_has, .inl (k_has, 45, .inl (fun _ => 0)))] := hD
  obtain rfl : r_3 = -2 := hw_4
  refine lv_aload_n hx hb dL_law_921 rfl (lv_at hl 1 rfl) ?_
  refine lv_aload_n hx hb dL_law_922 rfl (lv_at hl 3 rfl) ?_
  refine lv_iload_n hx hb dL_law_923 rfl (lv_at hl 0 rfl) ?_
  refine lv_iconst (v := 1) hx hb dL_law_924 (by decide) ?_
  refine lv_iadd hx hb dL_law_925 ?_
  refine lv_topi (fun z_5 ez_5 => ?_)
  obtain rfl : z_5 = 1 := ez_5.trans (by decide)
  refine va_sld hx hb hX hbl hbA hS (vp_in_iff.mpr ⟨by decide, by decide⟩) dL_law_926 ?_
  refine lv_topi (fun z_6 ez_6 => ?_)
  obtain rfl : a1 = z_6 := ea1.trans ez_6.symm
  have hPc := hP.sub (ws' := [(m0, .inr (7, [.int 0, .ref m_width, .ref m_many, .ref m_cells, .ref m_moved, .ref m_tape, .int 0, .int 0, .int 0, .int 0, .int 0, .long 0, .int 0, .int 0, .int 0, .int (-1), .ref m_lines, .ref m_has, .ref m_state, .ref m_gate, .ref m_guest, .ref m_gone, .int 0, .ref m_isKept, .ref m_first, .ref m_second, .int 0, .ref m_far, .ref m_wished, .ref m_wasState, .ref m_isHere, .ref m_round, .ref m_bestRound, .int 0, .int 0, .long 0, .long 0, .ref m_taken, .int 0])), (m_lines, .inl (k_lines, 5, .inl (fun _ => 0))), (m_has, .inl (k_has, 45, .inl (fun _ => 0)))]) [0, 1, 2] rfl
  have hDc := hD.sub (ws' := [(m0, .inr (7, [.int 0, .ref m_width, .ref m_many, .ref m_cells, .ref m_moved, .ref m_tape, .int 0, .int 0, .int 0, .int 0, .int 0, .long 0, .int 0, .int 0, .int 0, .int (-1), .ref m_lines, .ref m_has, .ref m_state, .ref m_gate, .ref m_guest, .ref m_gone, .int 0, .ref m_isKept, .ref m_first, .ref m_second, .int 0, .ref m_far, .ref m_wished, .ref m_wasState, .ref m_isHere, .ref m_round, .ref m_bestRound, .int 0, .int 0, .long 0, .long 0, .ref m_taken, .int 0])), (m_lines, .inl (k_lines, 5, .inl (fun _ => 0))), (m_has, .inl (k_has, 45, .inl (fun _ => 0)))]) [0, 1, 2] (by decide) rfl
  have hKc := hK.sub (tys' := [(k_lines, .int), (k_has, .int)]) [0, 1] rfl
  have hFc := va_free (wc := [(m0, .inr (7, [.int 0, .ref m_width, .ref m_many, .ref m_cells, .ref m_moved, .ref m_tape, .int 0, .int 0, .int 0, .int 0, .int 0, .long 0, .int 0, .int 0, .int 0, .int (-1), .ref m_lines, .ref m_has, .ref m_state, .ref m_gate, .ref m_guest, .ref m_gone, .int 0, .ref m_isKept, .ref m_first, .ref m_second, .int 0, .ref m_far, .ref m_wished, .ref m_wasState, .ref m_isHere, .ref m_round, .ref m_bestRound, .int 0, .int 0, .long 0, .long 0, .ref m_taken, .int 0])), (m_lines, .inl (k_lines, 5, .inl (fun _ => 0))), (m_has, .inl (k_has, 45, .inl (fun _ => 0)))]) hD hS hA [0, 1, 2] rfl
  refine va_calli (va_runV (As := [.int a1]) (rest := [.int (-2)]) ⟨hx, hb, hml, hown, hts⟩ (c_X7_worst l dC dI H.size m0 m_width m_many m_cells m_moved m_tape m_lines m_has m_state m_gate m_guest m_gone m_isKept m_first m_second m_far m_wished m_wasState m_isHere m_round m_bestRound m_taken k_lines k_has a1 ) (cwV 1 hts g_law_X7_worst rfl rfl rfl (by decide +kernel) ⟨Nat.le_of_ble_eq_true rfl, Nat.le_of_ble_eq_true rfl⟩) ⟨fun a U g mk q => by obtain ⟨q0, q1, qP, qK, qD⟩ := q; exact ⟨q0, q1, qP, va_K.moved (u := U) (U := U.calling g mk a) (Vm.Alike.refl U.vm) qK, qD⟩, va_recv hKc hPc (ci := 7) (q0 := 0) rfl rfl, fun U hU hW => ⟨rfl, by rw [hU], by rw [hU]; exact hPc, va_K.moved hW.alike hKc, hDc.weaken (fun _ _ _ _ => trivial)⟩⟩ rfl rfl hl.1 rfl (lv_room (Nat.le_of_ble_eq_true rfl)) dL_law_927 ⟨Nat.le_of_ble_eq_true rfl, Nat.le_of_ble_eq_true rfl⟩) hS (fun q _ h => hFc q h) hFc (fun r_7 u t H1 locs ht hvm hw_8 hB hz1 hk1 hS => ?_)
  have hP1 : va_P (dC, dI) vwCl [] H1 := i_nilP
  have hD1 : va_D (va_A [(m0, .inr (7, [.int 0, .ref m_width, .ref m_many, .ref m_cells, .ref m_moved, .ref m_tape, .int 0, .int 0, .int 0, .int 0, .int 0, .long 0, .int 0, .int 0, .int 0, .int (-1), .ref m_lines, .ref m_has, .ref m_state, .ref m_gate, .ref m_guest, .ref m_gone, .int 0, .ref m_isKept, .ref m_first, .ref m_second, .int 0, .ref m_far, .ref m_wished, .ref m_wasState, .ref m_isHere, .ref m_round, .ref m_bestRound, .int 0, .int 0, .long 0, .long 0, .ref m_taken, .int 0])), (m_lines, .inl (k_lines, 5, .inl (fun _ => 0))), (m_has, .inl (k_has, 45, .inl (fun _ => 0)))] H.size) [] := i_nilD
  try dsimp only at hw_8
  obtain ⟨hP, hD⟩ := va_join (wr := []) (w1 := []) hP hD [0, 1, 2] [] rfl rfl (by decide) (by decide) hk1 hFc hP1 hD1
  generalize H1 = H at hP hS ⊢
  have hP : va_P (dC, dI) vwCl [] H := hP
  have hD : va_D A [] := hD
  obtain rfl : r_7 = -2 := hw_8
  refine lv_icmp_eq (tgt := 1569) hx hb dL_law_930 (by decide) (fun _ => ?_) (fun h => absurd (by decide) h)
  refine lv_iinc (v := 6) (lv' := [(3, .int 6), (2, .ref m0), (1, .ref x0), (0, .ref b)]) hx hb dL_law_1569 hl (k := 0) rfl (by decide) (by decide) rfl (fun ls hl => ?_)
  refine lv_goto (tgt := 18) hx hb dL_law_1572 (by decide) ?_
  exact law_exit C0 hA2 hS (lv_sub hl [0, 3] rfl) (by decide) (by omega) (by omega)

set_option maxHeartbeats 4000000 in
set_option maxRecDepth 100000 in
/-- the law, its call 25: guest -/
theorem law_25 {p : Program} {e : Env} {s : State} {m : MethodId} {below : List Frame} {meth : Method} {c : Code} (l : Launch) {b : Nat} {xs : Nat → Int32} (C0 : lw_At p s m meth c b 6 xs) {A : Nat → Prop} (hA : ∀ q, s.heap.size ≤ q → A q) (hA2 : ∀ q, A q → s.heap.size ≤ q) {x0 : Nat} {tp : Nat} {rd : Nat} {gd : Nat} {im : Nat} {rw : Nat} {gn : Nat} {ho : Nat} {sq : Nat} {pl : Nat} {gdt : Nat} {gdu : Nat} {gdn : Nat} {plf : Nat} {plo : Nat} {plb : Nat} {pla : Nat} {m0 : Nat} {m_width : Nat} {m_many : Nat} {m_cells : Nat} {m_moved : Nat} {m_tape : Nat} {m_lines : Nat} {m_has : Nat} {m_state : Nat} {m_gate : Nat} {m_guest : Nat} {m_gone : Nat} {m_isKept : Nat} {m_first : Nat} {m_second : Nat} {m_far : Nat} {m_wished : Nat} {m_wasState : Nat} {m_isHere : Nat} {m_round : Nat} {m_bestRound : Nat} {m_taken : Nat} {k_lines : ClassId} {k_has : ClassId} (hE0 : Kx s) {dC : Nat → ClassId} {dI : Nat → Nat → Nat} (hK : va_K (dC, dI) vwCl [(k_lines, .int), (k_has, .int)] s) {H : Heap} {locs : List Loc} (hP : va_P (dC, dI) vwCl [(x0, .inr (6, [.ref tp, .int 0, .int 0, .int (-1), .ref rd, .ref gd, .ref im, .ref rw, .ref gn, .ref ho, .ref sq])), (gd, .inr (0, [.ref pl, .int 0, .long 0, .long 0, .int 0, .int (-1), .int 0, .ref gdt, .int 0, .ref gdu, .int 0, .ref gdn])), (pl, .inr (3, [.int 0, .int 0, .int 0, .int 0, .long 0, .ref plf, .ref plo, .ref plb, .ref pla])), (m0, .inr (7, [.int 0, .ref m_width, .ref m_many, .ref m_cells, .ref m_moved, .ref m_tape, .int 0, .int 0, .int 0, .int 0, .int 0, .long 0, .int 0, .int 0, .int 0, .int (-1), .ref m_lines, .ref m_has, .ref m_state, .ref m_gate, .ref m_guest, .ref m_gone, .int 0, .ref m_isKept, .ref m_first, .ref m_second, .int 0, .ref m_far, .ref m_wished, .ref m_wasState, .ref m_isHere, .ref m_round, .ref m_bestRound, .int 0, .int 0, .long 0, .long 0, .ref m_taken, .int 0])), (m_lines, .inl (k_lines, 5, .inl (fun _ => 0))), (m_has, .inl (k_has, 45, .inl (fun _ => 0)))] H) (hD : va_D A [(x0, .inr (6, [.ref tp, .int 0, .int 0, .int (-1), .ref rd, .ref gd, .ref im, .ref rw, .ref gn, .ref ho, .ref sq])), (gd, .inr (0, [.ref pl, .int 0, .long 0, .long 0, .int 0, .int (-1), .int 0, .ref gdt, .int 0, .ref gdu, .int 0, .ref gdn])), (pl, .inr (3, [.int 0, .int 0, .int 0, .int 0, .long 0, .ref plf, .ref plo, .ref plb, .ref pla])), (m0, .inr (7, [.int 0, .ref m_width, .ref m_many, .ref m_cells, .ref m_moved, .ref m_tape, .int 0, .int 0, .int 0, .int 0, .int 0, .long 0, .int 0, .int 0, .int 0, .int (-1), .ref m_lines, .ref m_has, .ref m_state, .ref m_gate, .ref m_guest, .ref m_gone, .int 0, .ref m_isKept, .ref m_first, .ref m_second, .int 0, .ref m_far, .ref m_wished, .ref m_wasState, .ref m_isHere, .ref m_round, .ref m_bestRound, .int 0, .int 0, .long 0, .long 0, .ref m_taken, .int 0])), (m_lines, .inl (k_lines, 5, .inl (fun _ => 0))), (m_has, .inl (k_has, 45, .inl (fun _ => 0)))]) (hS : va_S A s.heap H locs) {ls : Array Slot} (hl : lv_has ls 4 [(3, .int 0), (2, .ref m0), (1, .ref x0), (0, .ref b)]) : W p l e room_1 s m #[Value.ref b] below meth c H locs 70 7203 (lw_Z below #[Value.ref b] s) (F0 m 935 ls []) := by
  obtain ⟨hx, hb, hr, hml, hown, hts, hX, hbl, hlocks, hgv⟩ := id C0
  have hown : s.vm.findClass RL = some m.cls := hown
  have hts := fun w (h : w ∈ wz_law) => hts w (wz_law_in w h)
  have hbA : ¬ A b := fun h => absurd (hA2 b h) (Nat.not_le.mpr hbl)
  obtain ⟨a0, ea0⟩ : ∃ y : Int32, y = xs (0 : Int32).toNatClampNeg := ⟨_, rfl⟩
  obtain ⟨a1, ea1⟩ : ∃ y : Int32, y = xs (1 : Int32).toNatClampNeg := ⟨_, rfl⟩
  obtain ⟨a2, ea2⟩ : ∃ y : Int32, y = xs (2 : Int32).toNatClampNeg := ⟨_, rfl⟩
  obtain ⟨a3, ea3⟩ : ∃ y : Int32, y = xs (3 : Int32).toNatClampNeg := ⟨_, rfl⟩
  obtain ⟨a4, ea4⟩ : ∃ y : Int32, y = xs (4 : Int32).toNatClampNeg := ⟨_, rfl⟩
  obtain ⟨a5, ea5⟩ : ∃ y : Int32, y = xs (5 : Int32).toNatClampNeg := ⟨_, rfl⟩
  refine lv_aload_n hx hb dL_law_935 rfl (lv_at hl 2 rfl) ?_
  refine lv_aload_n hx hb dL_law_936 rfl (lv_at hl 3 rfl) ?_
  refine lv_iload_n hx hb dL_law_937 rfl (lv_at hl 0 rfl) ?_
  refine lv_iconst (v := 1) hx hb dL_law_938 (by decide) ?_
  refine lv_iadd hx hb dL_law_939 ?_
  refine lv_topi (fun z_1 ez_1 => ?_)
  obtain rfl : z_1 = 1 := ez_1.trans (by decide)
  refine va_sld hx hb hX hbl hbA hS (vp_in_iff.mpr ⟨by decide, by decide⟩) dL_law_940 ?_
  refine lv_topi (fun z_2 ez_2 => ?_)
  obtain rfl : a1 = z_2 := ea1.trans ez_2.symm
  have hPc := hP.sub (ws' := [(x0, .inr (6, [.ref tp, .int 0, .int 0, .int (-1), .ref rd, .ref gd, .ref im, .ref rw, .ref gn, .ref ho, .ref sq])), (gd, .inr (0, [.ref pl, .int 0, .long 0, .long 0, .int 0, .int (-1), .int 0, .ref gdt, .int 0, .ref gdu, .int 0, .ref gdn])), (pl, .inr (3, [.int 0, .int 0, .int 0, .int 0, .long 0, .ref plf, .ref plo, .ref plb, .ref pla]))]) [0, 1, 2] rfl
  have hDc := hD.sub (ws' := [(x0, .inr (6, [.ref tp, .int 0, .int 0, .int (-1), .ref rd, .ref gd, .ref im, .ref rw, .ref gn, .ref ho, .ref sq])), (gd, .inr (0, [.ref pl, .int 0, .long 0, .long 0, .int 0, .int (-1), .int 0, .ref gdt, .int 0, .ref gdu, .int 0, .ref gdn])), (pl, .inr (3, [.int 0, .int 0, .int 0, .int 0, .long 0, .ref plf, .ref plo, .ref plb, .ref pla]))]) [0, 1, 2] (by decide) rfl
  have hKc := hK.sub (tys' := []) [] rfl
  have hFc := va_free (wc := [(x0, .inr (6, [.ref tp, .int 0, .int 0, .int (-1), .ref rd, .ref gd, .ref im, .ref rw, .ref gn, .ref ho, .ref sq])), (gd, .inr (0, [.ref pl, .int 0, .long 0, .long 0, .int 0, .int (-1), .int 0, .ref gdt, .int 0, .ref gdu, .int 0, .ref gdn])), (pl, .inr (3, [.int 0, .int 0, .int 0, .int 0, .long 0, .ref plf, .ref plo, .ref plb, .ref pla]))]) hD hS hA [0, 1, 2] rfl
  refine va_calli (va_runV (As := [.int a1]) (rest := []) ⟨hx, hb, hml, hown, hts⟩ (c_X6_guest l dC dI H.size x0 tp rd gd im rw gn ho sq pl gdt gdu gdn plf plo plb pla a1 ) (cwV 1 hts g_law_X6_guest rfl rfl rfl (by decide +kernel) ⟨Nat.le_of_ble_eq_true rfl, Nat.le_of_ble_eq_true rfl⟩) ⟨fun a U g mk q => by obtain ⟨q0, q1, qP, qK, qD⟩ := q; exact ⟨q0, q1, qP, va_K.moved (u := U) (U := U.calling g mk a) (Vm.Alike.refl U.vm) qK, qD⟩, va_recv hKc hPc (ci := 6) (q0 := 0) rfl rfl, fun U hU hW => ⟨rfl, by rw [hU], by rw [hU]; exact hPc, va_K.moved hW.alike hKc, hDc.weaken (fun _ _ _ _ => trivial)⟩⟩ rfl rfl hl.1 rfl (lv_room (Nat.le_of_ble_eq_true rfl)) dL_law_941 ⟨Nat.le_of_ble_eq_true rfl, Nat.le_of_ble_eq_true rfl⟩) hS (fun q _ h => hFc q h) hFc (fun r_3 u t H1 locs ht hvm hw_4 hB hz1 hk1 hS => ?_)
  have hP1 : va_P (dC, dI) vwCl [] H1 := i_nilP
  have hD1 : va_D (va_A [(x0, .inr (6, [.ref tp, .int 0, .int 0, .int (-1), .ref rd, .ref gd, .ref im, .ref rw, .ref gn, .ref ho, .ref sq])), (gd, .inr (0, [.ref pl, .int 0, .long 0, .long 0, .int 0, .int (-1), .int 0, .ref gdt, .int 0, .ref gdu, .int 0, .ref gdn])), (pl, .inr (3, [.int 0, .int 0, .int 0, .int 0, .long 0, .ref plf, .ref plo, .ref plb, .ref pla]))] H.size) [] := i_nilD
  try dsimp only at hw_4
  obtain ⟨hP, hD⟩ := va_join (wr := [(m0, .inr (7, [.int 0, .ref m_width, .ref m_many, .ref m_cells, .ref m_moved, .ref m_tape, .int 0, .int 0, .int 0, .int 0, .int 0, .long 0, .int 0, .int 0, .int 0, .int (-1), .ref m_lines, .ref m_has, .ref m_state, .ref m_gate, .ref m_guest, .ref m_gone, .int 0, .ref m_isKept, .ref m_first, .ref m_second, .int 0, .ref m_far, .ref m_wished, .ref m_wasState, .ref m_isHere, .ref m_round, .ref m_bestRound, .int 0, .int 0, .long 0, .long 0, .ref m_taken, .int 0])), (m_lines, .inl (k_lines, 5, .inl (fun _ => 0))), (m_has, .inl (k_has, 45, .inl (fun _ => 0)))]) (w1 := []) hP hD [0, 1, 2] [3, 4, 5] rfl rfl (by decide) (by decide) hk1 hFc hP1 hD1
  generalize H1 = H at hP hS ⊢
  have hP : va_P (dC, dI) vwCl [(m0, .inr (7, [.int 0, .ref m_width, .ref m_many, .ref m_cells, .ref m_moved, .ref m_tape, .int 0, .int 0, .int 0, .int 0, .int 0, .long 0, .int 0, .int 0, .int 0, .int (-1), .ref m_lines, .ref m_has, .ref m_state, .ref m_gate, .ref m_guest, .ref m_gone, .int 0, .ref m_isKept, .ref m_first, .ref m_second, .int 0, .ref m_far, .ref m_wished, .ref m_wasState, .ref m_isHere, .ref m_round, .ref m_bestRound, .int 0, .int 0, .long 0, .long 0, .ref m_taken, .int 0])), (m_lines, .inl (k_lines, 5, .inl (fun _ => 0))), (m_has, .inl (k_has, 45, .inl (fun _ => 0)))] H := hP
  have hD : va_D A [(m0, .inr (7, [.int 0, .ref m_width, .ref m_many, .ref m_cells, .ref m_moved, .ref m_tape, .int 0, .int 0, .int 0, .int 0, .int 0, .long 0, .int 0, .int 0, .int 0, .int (-1), .ref m_lines, .ref m_has, .ref m_state, .ref m_gate, .ref m_guest, .ref m_gone, .int 0, .ref m_isKept, .ref m_first, .ref m_second, .int 0, .ref m_far, .ref m_wished, .ref m_wasState, .ref m_isHere, .ref m_round, .ref m_bestRound, .int 0, .int 0, .long 0, .long 0, .ref m_taken, .int 0])), (m_lines, .inl (k_lines, 5, .inl (fun _ => 0))), (m_has, .inl (k_has, 45, .inl (fun _ => 0)))] := hD
  obtain rfl : r_3 = -1 := hw_4
  refine lv_aload_n hx hb dL_law_944 rfl (lv_at hl 1 rfl) ?_
  refine lv_aload_n hx hb dL_law_945 rfl (lv_at hl 3 rfl) ?_
  refine lv_iload_n hx hb dL_law_946 rfl (lv_at hl 0 rfl) ?_
  refine lv_iconst (v := 1) hx hb dL_law_947 (by decide) ?_
  refine lv_iadd hx hb dL_law_948 ?_
  refine lv_topi (fun z_5 ez_5 => ?_)
  obtain rfl : z_5 = 1 := ez_5.trans (by decide)
  refine va_sld hx hb hX hbl hbA hS (vp_in_iff.mpr ⟨by decide, by decide⟩) dL_law_949 ?_
  refine lv_topi (fun z_6 ez_6 => ?_)
  obtain rfl : a1 = z_6 := ea1.trans ez_6.symm
  have hPc := hP.sub (ws' := [(m0, .inr (7, [.int 0, .ref m_width, .ref m_many, .ref m_cells, .ref m_moved, .ref m_tape, .int 0, .int 0, .int 0, .int 0, .int 0, .long 0, .int 0, .int 0, .int 0, .int (-1), .ref m_lines, .ref m_has, .ref m_state, .ref m_gate, .ref m_guest, .ref m_gone, .int 0, .ref m_isKept, .ref m_first, .ref m_second, .int 0, .ref m_far, .ref m_wished, .ref m_wasState, .ref m_isHere, .ref m_round, .ref m_bestRound, .int 0, .int 0, .long 0, .long 0, .ref m_taken, .int 0])), (m_lines, .inl (k_lines, 5, .inl (fun _ => 0))), (m_has, .inl (k_has, 45, .inl (fun _ => 0)))]) [0, 1, 2] rfl
  have hDc := hD.sub (ws' := [(m0, .inr (7, [.int 0, .ref m_width, .ref m_many, .ref m_cells, .ref m_moved, .ref m_tape, .int 0, .int 0, .int 0, .int 0, .int 0, .long 0, .int 0, .int 0, .int 0, .int (-1), .ref m_lines, .ref m_has, .ref m_state, .ref m_gate, .ref m_guest, .ref m_gone, .int 0, .ref m_isKept, .ref m_first, .ref m_second, .int 0, .ref m_far, .ref m_wished, .ref m_wasState, .ref m_isHere, .ref m_round, .ref m_bestRound, .int 0, .int 0, .long 0, .long 0, .ref m_taken, .int 0])), (m_lines, .inl (k_lines, 5, .inl (fun _ => 0))), (m_has, .inl (k_has, 45, .inl (fun _ => 0)))]) [0, 1, 2] (by decide) rfl
  have hKc := hK.sub (tys' := [(k_lines, .int), (k_has, .int)]) [0, 1] rfl
  have hFc := va_free (wc := [(m0, .inr (7, [.int 0, .ref m_width, .ref m_many, .ref m_cells, .ref m_moved, .ref m_tape, .int 0, .int 0, .int 0, .int 0, .int 0, .long 0, .int 0, .int 0, .int 0, .int (-1), .ref m_lines, .ref m_has, .ref m_state, .ref m_gate, .ref m_guest, .ref m_gone, .int 0, .ref m_isKept, .ref m_first, .ref m_second, .int 0, .ref m_far, .ref m_wished, .ref m_wasState, .ref m_isHere, .ref m_round, .ref m_bestRound, .int 0, .int 0, .long 0, .long 0, .ref m_taken, .int 0])), (m_lines, .inl (k_lines, 5, .inl (fun _ => 0))), (m_has, .inl (k_has, 45, .inl (fun _ => 0)))]) hD hS hA [0, 1, 2] rfl
  refine va_calli (va_runV (As := [.int a1]) (rest := [.int (-1)]) ⟨hx, hb, hml, hown, hts⟩ (c_X7_guest l dC dI H.size m0 m_width m_many m_cells m_moved m_tape m_lines m_has m_state m_gate m_guest m_gone m_isKept m_first m_second m_far m_wished m_wasState m_isHere m_round m_bestRound m_taken k_lines k_has a1 ) (cwV 1 hts g_law_X7_guest rfl rfl rfl (by decide +kernel) ⟨Nat.le_of_ble_eq_true rfl, Nat.le_of_ble_eq_true rfl⟩) ⟨fun a U g mk q => by obtain ⟨q0, q1, qP, qK, qD⟩ := q; exact ⟨q0, q1, qP, va_K.moved (u := U) (U := U.calling g mk a) (Vm.Alike.refl U.vm) qK, qD⟩, va_recv hKc hPc (ci := 7) (q0 := 0) rfl rfl, fun U hU hW => ⟨rfl, by rw [hU], by rw [hU]; exact hPc, va_K.moved hW.alike hKc, hDc.weaken (fun _ _ _ _ => trivial)⟩⟩ rfl rfl hl.1 rfl (lv_room (Nat.le_of_ble_eq_true rfl)) dL_law_950 ⟨Nat.le_of_ble_eq_true rfl, Nat.le_of_ble_eq_true rfl⟩) hS (fun q _ h => hFc q h) hFc (fun r_7 u t H1 locs ht hvm hw_8 hB hz1 hk1 hS => ?_)
  have hP1 : va_P (dC, dI) vwCl [] H1 := i_nilP
  have hD1 : va_D (va_A [(m0, .inr (7, [.int 0, .ref m_width, .ref m_many, .ref m_cells, .ref m_moved, .ref m_tape, .int 0, .int 0, .int 0, .int 0, .int 0, .long 0, .int 0, .int 0, .int 0, .int (-1), .ref m_lines, .ref m_has, .ref m_state, .ref m_gate, .ref m_guest, .ref m_gone, .int 0, .ref m_isKept, .ref m_first, .ref m_second, .int 0, .ref m_far, .ref m_wished, .ref m_wasState, .ref m_isHere, .ref m_round, .ref m_bestRound, .int 0, .int 0, .long 0, .long 0, .ref m_taken, .int 0])), (m_lines, .inl (k_lines, 5, .inl (fun _ => 0))), (m_has, .inl (k_has, 45, .inl (fun _ => 0)))] H.size) [] := i_nilD
  try dsimp only at hw_8
  obtain ⟨hP, hD⟩ := va_join (wr := []) (w1 := []) hP hD [0, 1, 2] [] rfl rfl (by decide) (by decide) hk1 hFc hP1 hD1
  generalize H1 = H at hP hS ⊢
  have hP : va_P (dC, dI) vwCl [] H := hP
  have hD : va_D A [] := hD
  obtain rfl : r_7 = -1 := hw_8
  refine lv_icmp_eq (tgt := 1569) hx hb dL_law_953 (by decide) (fun _ => ?_) (fun h => absurd (by decide) h)
  refine lv_iinc (v := 6) (lv' := [(3, .int 6), (2, .ref m0), (1, .ref x0), (0, .ref b)]) hx hb dL_law_1569 hl (k := 0) rfl (by decide) (by decide) rfl (fun ls hl => ?_)
  refine lv_goto (tgt := 18) hx hb dL_law_1572 (by decide) ?_
  exact law_exit C0 hA2 hS (lv_sub hl [0, 3] rfl) (by decide) (by omega) (by omega)

set_option maxHeartbeats 4000000 in
set_option maxRecDepth 100000 in
/-- the law, its call 26: meet -/
theorem law_26 {p : Program} {e : Env} {s : State} {m : MethodId} {below : List Frame} {meth : Method} {c : Code} (l : Launch) {b : Nat} {xs : Nat → Int32} (C0 : lw_At p s m meth c b 6 xs) {A : Nat → Prop} (hA : ∀ q, s.heap.size ≤ q → A q) (hA2 : ∀ q, A q → s.heap.size ≤ q) {x0 : Nat} {tp : Nat} {rd : Nat} {gd : Nat} {im : Nat} {rw : Nat} {gn : Nat} {ho : Nat} {sq : Nat} {pl : Nat} {gdt : Nat} {gdu : Nat} {gdn : Nat} {plf : Nat} {plo : Nat} {plb : Nat} {pla : Nat} {m0 : Nat} {m_width : Nat} {m_many : Nat} {m_cells : Nat} {m_moved : Nat} {m_tape : Nat} {m_lines : Nat} {m_has : Nat} {m_state : Nat} {m_gate : Nat} {m_guest : Nat} {m_gone : Nat} {m_isKept : Nat} {m_first : Nat} {m_second : Nat} {m_far : Nat} {m_wished : Nat} {m_wasState : Nat} {m_isHere : Nat} {m_round : Nat} {m_bestRound : Nat} {m_taken : Nat} {k_lines : ClassId} {k_has : ClassId} (hE0 : Kx s) {dC : Nat → ClassId} {dI : Nat → Nat → Nat} (hK : va_K (dC, dI) vwCl [(k_lines, .int), (k_has, .int)] s) {H : Heap} {locs : List Loc} (hP : va_P (dC, dI) vwCl [(x0, .inr (6, [.ref tp, .int 0, .int 0, .int (-1), .ref rd, .ref gd, .ref im, .ref rw, .ref gn, .ref ho, .ref sq])), (gd, .inr (0, [.ref pl, .int 0, .long 0, .long 0, .int 0, .int (-1), .int 0, .ref gdt, .int 0, .ref gdu, .int 0, .ref gdn])), (pl, .inr (3, [.int 0, .int 0, .int 0, .int 0, .long 0, .ref plf, .ref plo, .ref plb, .ref pla])), (m0, .inr (7, [.int 0, .ref m_width, .ref m_many, .ref m_cells, .ref m_moved, .ref m_tape, .int 0, .int 0, .int 0, .int 0, .int 0, .long 0, .int 0, .int 0, .int 0, .int (-1), .ref m_lines, .ref m_has, .ref m_state, .ref m_gate, .ref m_guest, .ref m_gone, .int 0, .ref m_isKept, .ref m_first, .ref m_second, .int 0, .ref m_far, .ref m_wished, .ref m_wasState, .ref m_isHere, .ref m_round, .ref m_bestRound, .int 0, .int 0, .long 0, .long 0, .ref m_taken, .int 0])), (m_lines, .inl (k_lines, 5, .inl (fun _ => 0))), (m_has, .inl (k_has, 45, .inl (fun _ => 0)))] H) (hD : va_D A [(x0, .inr (6, [.ref tp, .int 0, .int 0, .int (-1), .ref rd, .ref gd, .ref im, .ref rw, .ref gn, .ref ho, .ref sq])), (gd, .inr (0, [.ref pl, .int 0, .long 0, .long 0, .int 0, .int (-1), .int 0, .ref gdt, .int 0, .ref gdu, .int 0, .ref gdn])), (pl, .inr (3, [.int 0, .int 0, .int 0, .int 0, .long 0, .ref plf, .ref plo, .ref plb, .ref pla])), (m0, .inr (7, [.int 0, .ref m_width, .ref m_many, .ref m_cells, .ref m_moved, .ref m_tape, .int 0, .int 0, .int 0, .int 0, .int 0, .long 0, .int 0, .int 0, .int 0, .int (-1), .ref m_lines, .ref m_has, .ref m_state, .ref m_gate, .ref m_guest, .ref m_gone, .int 0, .ref m_isKept, .ref m_first, .ref m_second, .int 0, .ref m_far, .ref m_wished, .ref m_wasState, .ref m_isHere, .ref m_round, .ref m_bestRound, .int 0, .int 0, .long 0, .long 0, .ref m_taken, .int 0])), (m_lines, .inl (k_lines, 5, .inl (fun _ => 0))), (m_has, .inl (k_has, 45, .inl (fun _ => 0)))]) (hS : va_S A s.heap H locs) {ls : Array Slot} (hl : lv_has ls 4 [(3, .int 0), (2, .ref m0), (1, .ref x0), (0, .ref b)]) : W p l e room_1 s m #[Value.ref b] below meth c H locs 70 7203 (lw_Z below #[Value.ref b] s) (F0 m 958 ls []) := by
  obtain ⟨hx, hb, hr, hml, hown, hts, hX, hbl, hlocks, hgv⟩ := id C0
  have hown : s.vm.findClass RL = some m.cls := hown
  have hts := fun w (h : w ∈ wz_law) => hts w (wz_law_in w h)
  have hbA : ¬ A b := fun h => absurd (hA2 b h) (Nat.not_le.mpr hbl)
  obtain ⟨a0, ea0⟩ : ∃ y : Int32, y = xs (0 : Int32).toNatClampNeg := ⟨_, rfl⟩
  obtain ⟨a1, ea1⟩ : ∃ y : Int32, y = xs (1 : Int32).toNatClampNeg := ⟨_, rfl⟩
  obtain ⟨a2, ea2⟩ : ∃ y : Int32, y = xs (2 : Int32).toNatClampNeg := ⟨_, rfl⟩
  obtain ⟨a3, ea3⟩ : ∃ y : Int32, y = xs (3 : Int32).toNatClampNeg := ⟨_, rfl⟩
  obtain ⟨a4, ea4⟩ : ∃ y : Int32, y = xs (4 : Int32).toNatClampNeg := ⟨_, rfl⟩
  obtain ⟨a5, ea5⟩ : ∃ y : Int32, y = xs (5 : Int32).toNatClampNeg := ⟨_, rfl⟩
  refine lv_aload_n hx hb dL_law_958 rfl (lv_at hl 2 rfl) ?_
  refine lv_aload_n hx hb dL_law_959 rfl (lv_at hl 3 rfl) ?_
  refine lv_iload_n hx hb dL_law_960 rfl (lv_at hl 0 rfl) ?_
  refine lv_iconst (v := 1) hx hb dL_law_961 (by decide) ?_
  refine lv_iadd hx hb dL_law_962 ?_
  refine lv_topi (fun z_1 ez_1 => ?_)
  obtain rfl : z_1 = 1 := ez_1.trans (by decide)
  refine va_sld hx hb hX hbl hbA hS (vp_in_iff.mpr ⟨by decide, by decide⟩) dL_law_963 ?_
  refine lv_topi (fun z_2 ez_2 => ?_)
  obtain rfl : a1 = z_2 := ea1.trans ez_2.symm
  have hPc := hP.sub (ws' := [(x0, .inr (6, [.ref tp, .int 0, .int 0, .int (-1), .ref rd, .ref gd, .ref im, .ref rw, .ref gn, .ref ho, .ref sq])), (gd, .inr (0, [.ref pl, .int 0, .long 0, .long 0, .int 0, .int (-1), .int 0, .ref gdt, .int 0, .ref gdu, .int 0, .ref gdn])), (pl, .inr (3, [.int 0, .int 0, .int 0, .int 0, .long 0, .ref plf, .ref plo, .ref plb, .ref pla]))]) [0, 1, 2] rfl
  have hDc := hD.sub (ws' := [(x0, .inr (6, [.ref tp, .int 0, .int 0, .int (-1), .ref rd, .ref gd, .ref im, .ref rw, .ref gn, .ref ho, .ref sq])), (gd, .inr (0, [.ref pl, .int 0, .long 0, .long 0, .int 0, .int (-1), .int 0, .ref gdt, .int 0, .ref gdu, .int 0, .ref gdn])), (pl, .inr (3, [.int 0, .int 0, .int 0, .int 0, .long 0, .ref plf, .ref plo, .ref plb, .ref pla]))]) [0, 1, 2] (by decide) rfl
  have hKc := hK.sub (tys' := []) [] rfl
  have hFc := va_free (wc := [(x0, .inr (6, [.ref tp, .int 0, .int 0, .int (-1), .ref rd, .ref gd, .ref im, .ref rw, .ref gn, .ref ho, .ref sq])), (gd, .inr (0, [.ref pl, .int 0, .long 0, .long 0, .int 0, .int (-1), .int 0, .ref gdt, .int 0, .ref gdu, .int 0, .ref gdn])), (pl, .inr (3, [.int 0, .int 0, .int 0, .int 0, .long 0, .ref plf, .ref plo, .ref plb, .ref pla]))]) hD hS hA [0, 1, 2] rfl
  refine va_calli (va_runV (As := [.int a1]) (rest := []) ⟨hx, hb, hml, hown, hts⟩ (c_X6_meet l dC dI H.size x0 tp rd gd im rw gn ho sq pl gdt gdu gdn plf plo plb pla a1 ) (cwV 1 hts g_law_X6_meet rfl rfl rfl (by decide +kernel) ⟨Nat.le_of_ble_eq_true rfl, Nat.le_of_ble_eq_true rfl⟩) ⟨fun a U g mk q => by obtain ⟨q0, q1, qP, qK, qD⟩ := q; exact ⟨q0, q1, qP, va_K.moved (u := U) (U := U.calling g mk a) (Vm.Alike.refl U.vm) qK, qD⟩, va_recv hKc hPc (ci := 6) (q0 := 0) rfl rfl, fun U hU hW => ⟨rfl, by rw [hU], by rw [hU]; exact hPc, va_K.moved hW.alike hKc, hDc.weaken (fun _ _ _ _ => trivial)⟩⟩ rfl rfl hl.1 rfl (lv_room (Nat.le_of_ble_eq_true rfl)) dL_law_964 ⟨Nat.le_of_ble_eq_true rfl, Nat.le_of_ble_eq_true rfl⟩) hS (fun q _ h => hFc q h) hFc (fun r_3 u t H1 locs ht hvm hw_4 hB hz1 hk1 hS => ?_)
  have hP1 : va_P (dC, dI) vwCl [] H1 := i_nilP
  have hD1 : va_D (va_A [(x0, .inr (6, [.ref tp, .int 0, .int 0, .int (-1), .ref rd, .ref gd, .ref im, .ref rw, .ref gn, .ref ho, .ref sq])), (gd, .inr (0, [.ref pl, .int 0, .long 0, .long 0, .int 0, .int (-1), .int 0, .ref gdt, .int 0, .ref gdu, .int 0, .ref gdn])), (pl, .inr (3, [.int 0, .int 0, .int 0, .int 0, .long 0, .ref plf, .ref plo, .ref plb, .ref pla]))] H.size) [] := i_nilD
  try dsimp only at hw_4
  obtain ⟨hP, hD⟩ := va_join (wr := [(m0, .inr (7, [.int 0, .ref m_width, .ref m_many, .ref m_cells, .ref m_moved, .ref m_tape, .int 0, .int 0, .int 0, .int 0, .int 0, .long 0, .int 0, .int 0, .int 0, .int (-1), .ref m_lines, .ref m_has, .ref m_state, .ref m_gate, .ref m_guest, .ref m_gone, .int 0, .ref m_isKept, .ref m_first, .ref m_second, .int 0, .ref m_far, .ref m_wished, .ref m_wasState, .ref m_isHere, .ref m_round, .ref m_bestRound, .int 0, .int 0, .long 0, .long 0, .ref m_taken, .int 0])), (m_lines, .inl (k_lines, 5, .inl (fun _ => 0))), (m_has, .inl (k_has, 45, .inl (fun _ => 0)))]) (w1 := []) hP hD [0, 1, 2] [3, 4, 5] rfl rfl (by decide) (by decide) hk1 hFc hP1 hD1
  generalize H1 = H at hP hS ⊢
  have hP : va_P (dC, dI) vwCl [(m0, .inr (7, [.int 0, .ref m_width, .ref m_many, .ref m_cells, .ref m_moved, .ref m_tape, .int 0, .int 0, .int 0, .int 0, .int 0, .long 0, .int 0, .int 0, .int 0, .int (-1), .ref m_lines, .ref m_has, .ref m_state, .ref m_gate, .ref m_guest, .ref m_gone, .int 0, .ref m_isKept, .ref m_first, .ref m_second, .int 0, .ref m_far, .ref m_wished, .ref m_wasState, .ref m_isHere, .ref m_round, .ref m_bestRound, .int 0, .int 0, .long 0, .long 0, .ref m_taken, .int 0])), (m_lines, .inl (k_lines, 5, .inl (fun _ => 0))), (m_has, .inl (k_has, 45, .inl (fun _ => 0)))] H := hP
  have hD : va_D A [(m0, .inr (7, [.int 0, .ref m_width, .ref m_many, .ref m_cells, .ref m_moved, .ref m_tape, .int 0, .int 0, .int 0, .int 0, .int 0, .long 0, .int 0, .int 0, .int 0, .int (-1), .ref m_lines, .ref m_has, .ref m_state, .ref m_gate, .ref m_guest, .ref m_gone, .int 0, .ref m_isKept, .ref m_first, .ref m_second, .int 0, .ref m_far, .ref m_wished, .ref m_wasState, .ref m_isHere, .ref m_round, .ref m_bestRound, .int 0, .int 0, .long 0, .long 0, .ref m_taken, .int 0])), (m_lines, .inl (k_lines, 5, .inl (fun _ => 0))), (m_has, .inl (k_has, 45, .inl (fun _ => 0)))] := hD
  obtain rfl : r_3 = -2 := hw_4
  refine lv_aload_n hx hb dL_law_967 rfl (lv_at hl 1 rfl) ?_
  refine lv_aload_n hx hb dL_law_968 rfl (lv_at hl 3 rfl) ?_
  refine lv_iload_n hx hb dL_law_969 rfl (lv_at hl 0 rfl) ?_
  refine lv_iconst (v := 1) hx hb dL_law_970 (by decide) ?_
  refine lv_iadd hx hb dL_law_971 ?_
  refine lv_topi (fun z_5 ez_5 => ?_)
  obtain rfl : z_5 = 1 := ez_5.trans (by decide)
  refine va_sld hx hb hX hbl hbA hS (vp_in_iff.mpr ⟨by decide, by decide⟩) dL_law_972 ?_
  refine lv_topi (fun z_6 ez_6 => ?_)
  obtain rfl : a1 = z_6 := ea1.trans ez_6.symm
  have hPc := hP.sub (ws' := [(m0, .inr (7, [.int 0, .ref m_width, .ref m_many, .ref m_cells, .ref m_moved, .ref m_tape, .int 0, .int 0, .int 0, .int 0, .int 0, .long 0, .int 0, .int 0, .int 0, .int (-1), .ref m_lines, .ref m_has, .ref m_state, .ref m_gate, .ref m_guest, .ref m_gone, .int 0, .ref m_isKept, .ref m_first, .ref m_second, .int 0, .ref m_far, .ref m_wished, .ref m_wasState, .ref m_isHere, .ref m_round, .ref m_bestRound, .int 0, .int 0, .long 0, .long 0, .ref m_taken, .int 0])), (m_lines, .inl (k_lines, 5, .inl (fun _ => 0))), (m_has, .inl (k_has, 45, .inl (fun _ => 0)))]) [0, 1, 2] rfl
  have hDc := hD.sub (ws' := [(m0, .inr (7, [.int 0, .ref m_width, .ref m_many, .ref m_cells, .ref m_moved, .ref m_tape, .int 0, .int 0, .int 0, .int 0, .int 0, .long 0, .int 0, .int 0, .int 0, .int (-1), .ref m_lines, .ref m_has, .ref m_state, .ref m_gate, .ref m_guest, .ref m_gone, .int 0, .ref m_isKept, .ref m_first, .ref m_second, .int 0, .ref m_far, .ref m_wished, .ref m_wasState, .ref m_isHere, .ref m_round, .ref m_bestRound, .int 0, .int 0, .long 0, .long 0, .ref m_taken, .int 0])), (m_lines, .inl (k_lines, 5, .inl (fun _ => 0))), (m_has, .inl (k_has, 45, .inl (fun _ => 0)))]) [0, 1, 2] (by decide) rfl
  have hKc := hK.sub (tys' := [(k_lines, .int), (k_has, .int)]) [0, 1] rfl
  have hFc := va_free (wc := [(m0, .inr (7, [.int 0, .ref m_width, .ref m_many, .ref m_cells, .ref m_moved, .ref m_tape, .int 0, .int 0, .int 0, .int 0, .int 0, .long 0, .int 0, .int 0, .int 0, .int (-1), .ref m_lines, .ref m_has, .ref m_state, .ref m_gate, .ref m_guest, .ref m_gone, .int 0, .ref m_isKept, .ref m_first, .ref m_second, .int 0, .ref m_far, .ref m_wished, .ref m_wasState, .ref m_isHere, .ref m_round, .ref m_bestRound, .int 0, .int 0, .long 0, .long 0, .ref m_taken, .int 0])), (m_lines, .inl (k_lines, 5, .inl (fun _ => 0))), (m_has, .inl (k_has, 45, .inl (fun _ => 0)))]) hD hS hA [0, 1, 2] rfl
  refine va_calli (va_runV (As := [.int a1]) (rest := [.int (-2)]) ⟨hx, hb, hml, hown, hts⟩ (c_X7_meet l dC dI H.size m0 m_width m_many m_cells m_moved m_tape m_lines m_has m_state m_gate m_guest m_gone m_isKept m_first m_second m_far m_wished m_wasState m_isHere m_round m_bestRound m_taken k_lines k_has a1 ) (cwV 1 hts g_law_X7_meet rfl rfl rfl (by decide +kernel) ⟨Nat.le_of_ble_eq_true rfl, Nat.le_of_ble_eq_true rfl⟩) ⟨fun a U g mk q => by obtain ⟨q0, q1, qP, qK, qD⟩ := q; exact ⟨q0, q1, qP, va_K.moved (u := U) (U := U.calling g mk a) (Vm.Alike.refl U.vm) qK, qD⟩, va_recv hKc hPc (ci := 7) (q0 := 0) rfl rfl, fun U hU hW => ⟨rfl, by rw [hU], by rw [hU]; exact hPc, va_K.moved hW.alike hKc, hDc.weaken (fun _ _ _ _ => trivial)⟩⟩ rfl rfl hl.1 rfl (lv_room (Nat.le_of_ble_eq_true rfl)) dL_law_973 ⟨Nat.le_of_ble_eq_true rfl, Nat.le_of_ble_eq_true rfl⟩) hS (fun q _ h => hFc q h) hFc (fun r_7 u t H1 locs ht hvm hw_8 hB hz1 hk1 hS => ?_)
  have hP1 : va_P (dC, dI) vwCl [] H1 := i_nilP
  have hD1 : va_D (va_A [(m0, .inr (7, [.int 0, .ref m_width, .ref m_many, .ref m_cells, .ref m_moved, .ref m_tape, .int 0, .int 0, .int 0, .int 0, .int 0, .long 0, .int 0, .int 0, .int 0, .int (-1), .ref m_lines, .ref m_has, .ref m_state, .ref m_gate, .ref m_guest, .ref m_gone, .int 0, .ref m_isKept, .ref m_first, .ref m_second, .int 0, .ref m_far, .ref m_wished, .ref m_wasState, .ref m_isHere, .ref m_round, .ref m_bestRound, .int 0, .int 0, .long 0, .long 0, .ref m_taken, .int 0])), (m_lines, .inl (k_lines, 5, .inl (fun _ => 0))), (m_has, .inl (k_has, 45, .inl (fun _ => 0)))] H.size) [] := i_nilD
  try dsimp only at hw_8
  obtain ⟨hP, hD⟩ := va_join (wr := []) (w1 := []) hP hD [0, 1, 2] [] rfl rfl (by decide) (by decide) hk1 hFc hP1 hD1
  generalize H1 = H at hP hS ⊢
  have hP : va_P (dC, dI) vwCl [] H := hP
  have hD : va_D A [] := hD
  obtain rfl : r_7 = -2 := hw_8
  refine lv_icmp_eq (tgt := 1569) hx hb dL_law_976 (by decide) (fun _ => ?_) (fun h => absurd (by decide) h)
  refine lv_iinc (v := 6) (lv' := [(3, .int 6), (2, .ref m0), (1, .ref x0), (0, .ref b)]) hx hb dL_law_1569 hl (k := 0) rfl (by decide) (by decide) rfl (fun ls hl => ?_)
  refine lv_goto (tgt := 18) hx hb dL_law_1572 (by decide) ?_
  exact law_exit C0 hA2 hS (lv_sub hl [0, 3] rfl) (by decide) (by omega) (by omega)

set_option maxHeartbeats 4000000 in
set_option maxRecDepth 100000 in
/-- the law, its call 27: tea -/
theorem law_27 {p : Program} {e : Env} {s : State} {m : MethodId} {below : List Frame} {meth : Method} {c : Code} (l : Launch) {b : Nat} {xs : Nat → Int32} (C0 : lw_At p s m meth c b 6 xs) {A : Nat → Prop} (hA : ∀ q, s.heap.size ≤ q → A q) (hA2 : ∀ q, A q → s.heap.size ≤ q) {x0 : Nat} {tp : Nat} {rd : Nat} {gd : Nat} {im : Nat} {rw : Nat} {gn : Nat} {ho : Nat} {sq : Nat} {pl : Nat} {gdt : Nat} {gdu : Nat} {gdn : Nat} {plf : Nat} {plo : Nat} {plb : Nat} {pla : Nat} {m0 : Nat} {m_width : Nat} {m_many : Nat} {m_cells : Nat} {m_moved : Nat} {m_tape : Nat} {m_lines : Nat} {m_has : Nat} {m_state : Nat} {m_gate : Nat} {m_guest : Nat} {m_gone : Nat} {m_isKept : Nat} {m_first : Nat} {m_second : Nat} {m_far : Nat} {m_wished : Nat} {m_wasState : Nat} {m_isHere : Nat} {m_round : Nat} {m_bestRound : Nat} {m_taken : Nat} {k_lines : ClassId} {k_has : ClassId} (hE0 : Kx s) {dC : Nat → ClassId} {dI : Nat → Nat → Nat} (hK : va_K (dC, dI) vwCl [(k_lines, .int), (k_has, .int)] s) {H : Heap} {locs : List Loc} (hP : va_P (dC, dI) vwCl [(x0, .inr (6, [.ref tp, .int 0, .int 0, .int (-1), .ref rd, .ref gd, .ref im, .ref rw, .ref gn, .ref ho, .ref sq])), (gd, .inr (0, [.ref pl, .int 0, .long 0, .long 0, .int 0, .int (-1), .int 0, .ref gdt, .int 0, .ref gdu, .int 0, .ref gdn])), (pl, .inr (3, [.int 0, .int 0, .int 0, .int 0, .long 0, .ref plf, .ref plo, .ref plb, .ref pla])), (m0, .inr (7, [.int 0, .ref m_width, .ref m_many, .ref m_cells, .ref m_moved, .ref m_tape, .int 0, .int 0, .int 0, .int 0, .int 0, .long 0, .int 0, .int 0, .int 0, .int (-1), .ref m_lines, .ref m_has, .ref m_state, .ref m_gate, .ref m_guest, .ref m_gone, .int 0, .ref m_isKept, .ref m_first, .ref m_second, .int 0, .ref m_far, .ref m_wished, .ref m_wasState, .ref m_isHere, .ref m_round, .ref m_bestRound, .int 0, .int 0, .long 0, .long 0, .ref m_taken, .int 0])), (m_lines, .inl (k_lines, 5, .inl (fun _ => 0))), (m_has, .inl (k_has, 45, .inl (fun _ => 0)))] H) (hD : va_D A [(x0, .inr (6, [.ref tp, .int 0, .int 0, .int (-1), .ref rd, .ref gd, .ref im, .ref rw, .ref gn, .ref ho, .ref sq])), (gd, .inr (0, [.ref pl, .int 0, .long 0, .long 0, .int 0, .int (-1), .int 0, .ref gdt, .int 0, .ref gdu, .int 0, .ref gdn])), (pl, .inr (3, [.int 0, .int 0, .int 0, .int 0, .long 0, .ref plf, .ref plo, .ref plb, .ref pla])), (m0, .inr (7, [.int 0, .ref m_width, .ref m_many, .ref m_cells, .ref m_moved, .ref m_tape, .int 0, .int 0, .int 0, .int 0, .int 0, .long 0, .int 0, .int 0, .int 0, .int (-1), .ref m_lines, .ref m_has, .ref m_state, .ref m_gate, .ref m_guest, .ref m_gone, .int 0, .ref m_isKept, .ref m_first, .ref m_second, .int 0, .ref m_far, .ref m_wished, .ref m_wasState, .ref m_isHere, .ref m_round, .ref m_bestRound, .int 0, .int 0, .long 0, .long 0, .ref m_taken, .int 0])), (m_lines, .inl (k_lines, 5, .inl (fun _ => 0))), (m_has, .inl (k_has, 45, .inl (fun _ => 0)))]) (hS : va_S A s.heap H locs) {ls : Array Slot} (hl : lv_has ls 4 [(3, .int 0), (2, .ref m0), (1, .ref x0), (0, .ref b)]) : W p l e room_1 s m #[Value.ref b] below meth c H locs 70 7203 (lw_Z below #[Value.ref b] s) (F0 m 981 ls []) := by
  obtain ⟨hx, hb, hr, hml, hown, hts, hX, hbl, hlocks, hgv⟩ := id C0
  have hown : s.vm.findClass RL = some m.cls := hown
  have hts := fun w (h : w ∈ wz_law) => hts w (wz_law_in w h)
  have hbA : ¬ A b := fun h => absurd (hA2 b h) (Nat.not_le.mpr hbl)
  obtain ⟨a0, ea0⟩ : ∃ y : Int32, y = xs (0 : Int32).toNatClampNeg := ⟨_, rfl⟩
  obtain ⟨a1, ea1⟩ : ∃ y : Int32, y = xs (1 : Int32).toNatClampNeg := ⟨_, rfl⟩
  obtain ⟨a2, ea2⟩ : ∃ y : Int32, y = xs (2 : Int32).toNatClampNeg := ⟨_, rfl⟩
  obtain ⟨a3, ea3⟩ : ∃ y : Int32, y = xs (3 : Int32).toNatClampNeg := ⟨_, rfl⟩
  obtain ⟨a4, ea4⟩ : ∃ y : Int32, y = xs (4 : Int32).toNatClampNeg := ⟨_, rfl⟩
  obtain ⟨a5, ea5⟩ : ∃ y : Int32, y = xs (5 : Int32).toNatClampNeg := ⟨_, rfl⟩
  refine lv_aload_n hx hb dL_law_981 rfl (lv_at hl 2 rfl) ?_
  refine lv_aload_n hx hb dL_law_982 rfl (lv_at hl 3 rfl) ?_
  refine lv_iload_n hx hb dL_law_983 rfl (lv_at hl 0 rfl) ?_
  refine lv_iconst (v := 1) hx hb dL_law_984 (by decide) ?_
  refine lv_iadd hx hb dL_law_985 ?_
  refine lv_topi (fun z_1 ez_1 => ?_)
  obtain rfl : z_1 = 1 := ez_1.trans (by decide)
  refine va_sld hx hb hX hbl hbA hS (vp_in_iff.mpr ⟨by decide, by decide⟩) dL_law_986 ?_
  refine lv_topi (fun z_2 ez_2 => ?_)
  obtain rfl : a1 = z_2 := ea1.trans ez_2.symm
  have hPc := hP.sub (ws' := [(x0, .inr (6, [.ref tp, .int 0, .int 0, .int (-1), .ref rd, .ref gd, .ref im, .ref rw, .ref gn, .ref ho, .ref sq])), (gd, .inr (0, [.ref pl, .int 0, .long 0, .long 0, .int 0, .int (-1), .int 0, .ref gdt, .int 0, .ref gdu, .int 0, .ref gdn])), (pl, .inr (3, [.int 0, .int 0, .int 0, .int 0, .long 0, .ref plf, .ref plo, .ref plb, .ref pla]))]) [0, 1, 2] rfl
  have hDc := hD.sub (ws' := [(x0, .inr (6, [.ref tp, .int 0, .int 0, .int (-1), .ref rd, .ref gd, .ref im, .ref rw, .ref gn, .ref ho, .ref sq])), (gd, .inr (0, [.ref pl, .int 0, .long 0, .long 0, .int 0, .int (-1), .int 0, .ref gdt, .int 0, .ref gdu, .int 0, .ref gdn])), (pl, .inr (3, [.int 0, .int 0, .int 0, .int 0, .long 0, .ref plf, .ref plo, .ref plb, .ref pla]))]) [0, 1, 2] (by decide) rfl
  have hKc := hK.sub (tys' := []) [] rfl
  have hFc := va_free (wc := [(x0, .inr (6, [.ref tp, .int 0, .int 0, .int (-1), .ref rd, .ref gd, .ref im, .ref rw, .ref gn, .ref ho, .ref sq])), (gd, .inr (0, [.ref pl, .int 0, .long 0, .long 0, .int 0, .int (-1), .int 0, .ref gdt, .int 0, .ref gdu, .int 0, .ref gdn])), (pl, .inr (3, [.int 0, .int 0, .int 0, .int 0, .long 0, .ref plf, .ref plo, .ref plb, .ref pla]))]) hD hS hA [0, 1, 2] rfl
  refine va_calli (va_runV (As := [.int a1]) (rest := []) ⟨hx, hb, hml, hown, hts⟩ (c_X6_tea l dC dI H.size x0 tp rd gd im rw gn ho sq pl gdt gdu gdn plf plo plb pla a1 ) (cwV 1 hts g_law_X6_tea rfl rfl rfl (by decide +kernel) ⟨Nat.le_of_ble_eq_true rfl, Nat.le_of_ble_eq_true rfl⟩) ⟨fun a U g mk q => by obtain ⟨q0, q1, qP, qK, qD⟩ := q; exact ⟨q0, q1, qP, va_K.moved (u := U) (U := U.calling g mk a) (Vm.Alike.refl U.vm) qK, qD⟩, va_recv hKc hPc (ci := 6) (q0 := 0) rfl rfl, fun U hU hW => ⟨rfl, by rw [hU], by rw [hU]; exact hPc, va_K.moved hW.alike hKc, hDc.weaken (fun _ _ _ _ => trivial)⟩⟩ rfl rfl hl.1 rfl (lv_room (Nat.le_of_ble_eq_true rfl)) dL_law_987 ⟨Nat.le_of_ble_eq_true rfl, Nat.le_of_ble_eq_true rfl⟩) hS (fun q _ h => hFc q h) hFc (fun r_3 u t H1 locs ht hvm hw_4 hB hz1 hk1 hS => ?_)
  have hP1 : va_P (dC, dI) vwCl [] H1 := i_nilP
  have hD1 : va_D (va_A [(x0, .inr (6, [.ref tp, .int 0, .int 0, .int (-1), .ref rd, .ref gd, .ref im, .ref rw, .ref gn, .ref ho, .ref sq])), (gd, .inr (0, [.ref pl, .int 0, .long 0, .long 0, .int 0, .int (-1), .int 0, .ref gdt, .int 0, .ref gdu, .int 0, .ref gdn])), (pl, .inr (3, [.int 0, .int 0, .int 0, .int 0, .long 0, .ref plf, .ref plo, .ref plb, .ref pla]))] H.size) [] := i_nilD
  try dsimp only at hw_4
  obtain ⟨hP, hD⟩ := va_join (wr := [(m0, .inr (7, [.int 0, .ref m_width, .ref m_many, .ref m_cells, .ref m_moved, .ref m_tape, .int 0, .int 0, .int 0, .int 0, .int 0, .long 0, .int 0, .int 0, .int 0, .int (-1), .ref m_lines, .ref m_has, .ref m_state, .ref m_gate, .ref m_guest, .ref m_gone, .int 0, .ref m_isKept, .ref m_first, .ref m_second, .int 0, .ref m_far, .ref m_wished, .ref m_wasState, .ref m_isHere, .ref m_round, .ref m_bestRound, .int 0, .int 0, .long 0, .long 0, .ref m_taken, .int 0])), (m_lines, .inl (k_lines, 5, .inl (fun _ => 0))), (m_has, .inl (k_has, 45, .inl (fun _ => 0)))]) (w1 := []) hP hD [0, 1, 2] [3, 4, 5] rfl rfl (by decide) (by decide) hk1 hFc hP1 hD1
  generalize H1 = H at hP hS ⊢
  have hP : va_P (dC, dI) vwCl [(m0, .inr (7, [.int 0, .ref m_width, .ref m_many, .ref m_cells, .ref m_moved, .ref m_tape, .int 0, .int 0, .int 0, .int 0, .int 0, .long 0, .int 0, .int 0, .int 0, .int (-1), .ref m_lines, .ref m_has, .ref m_state, .ref m_gate, .ref m_guest, .ref m_gone, .int 0, .ref m_isKept, .ref m_first, .ref m_second, .int 0, .ref m_far, .ref m_wished, .ref m_wasState, .ref m_isHere, .ref m_round, .ref m_bestRound, .int 0, .int 0, .long 0, .long 0, .ref m_taken, .int 0])), (m_lines, .inl (k_lines, 5, .inl (fun _ => 0))), (m_has, .inl (k_has, 45, .inl (fun _ => 0)))] H := hP
  have hD : va_D A [(m0, .inr (7, [.int 0, .ref m_width, .ref m_many, .ref m_cells, .ref m_moved, .ref m_tape, .int 0, .int 0, .int 0, .int 0, .int 0, .long 0, .int 0, .int 0, .int 0, .int (-1), .ref m_lines, .ref m_has, .ref m_state, .ref m_gate, .ref m_guest, .ref m_gone, .int 0, .ref m_isKept, .ref m_first, .ref m_second, .int 0, .ref m_far, .ref m_wished, .ref m_wasState, .ref m_isHere, .ref m_round, .ref m_bestRound, .int 0, .int 0, .long 0, .long 0, .ref m_taken, .int 0])), (m_lines, .inl (k_lines, 5, .inl (fun _ => 0))), (m_has, .inl (k_has, 45, .inl (fun _ => 0)))] := hD
  obtain rfl : r_3 = -2 := hw_4
  refine lv_aload_n hx hb dL_law_990 rfl (lv_at hl 1 rfl) ?_
  refine lv_aload_n hx hb dL_law_991 rfl (lv_at hl 3 rfl) ?_
  refine lv_iload_n hx hb dL_law_992 rfl (lv_at hl 0 rfl) ?_
  refine lv_iconst (v := 1) hx hb dL_law_993 (by decide) ?_
  refine lv_iadd hx hb dL_law_994 ?_
  refine lv_topi (fun z_5 ez_5 => ?_)
  obtain rfl : z_5 = 1 := ez_5.trans (by decide)
  refine va_sld hx hb hX hbl hbA hS (vp_in_iff.mpr ⟨by decide, by decide⟩) dL_law_995 ?_
  refine lv_topi (fun z_6 ez_6 => ?_)
  obtain rfl : a1 = z_6 := ea1.trans ez_6.symm
  have hPc := hP.sub (ws' := [(m0, .inr (7, [.int 0, .ref m_width, .ref m_many, .ref m_cells, .ref m_moved, .ref m_tape, .int 0, .int 0, .int 0, .int 0, .int 0, .long 0, .int 0, .int 0, .int 0, .int (-1), .ref m_lines, .ref m_has, .ref m_state, .ref m_gate, .ref m_guest, .ref m_gone, .int 0, .ref m_isKept, .ref m_first, .ref m_second, .int 0, .ref m_far, .ref m_wished, .ref m_wasState, .ref m_isHere, .ref m_round, .ref m_bestRound, .int 0, .int 0, .long 0, .long 0, .ref m_taken, .int 0])), (m_lines, .inl (k_lines, 5, .inl (fun _ => 0))), (m_has, .inl (k_has, 45, .inl (fun _ => 0)))]) [0, 1, 2] rfl
  have hDc := hD.sub (ws' := [(m0, .inr (7, [.int 0, .ref m_width, .ref m_many, .ref m_cells, .ref m_moved, .ref m_tape, .int 0, .int 0, .int 0, .int 0, .int 0, .long 0, .int 0, .int 0, .int 0, .int (-1), .ref m_lines, .ref m_has, .ref m_state, .ref m_gate, .ref m_guest, .ref m_gone, .int 0, .ref m_isKept, .ref m_first, .ref m_second, .int 0, .ref m_far, .ref m_wished, .ref m_wasState, .ref m_isHere, .ref m_round, .ref m_bestRound, .int 0, .int 0, .long 0, .long 0, .ref m_taken, .int 0])), (m_lines, .inl (k_lines, 5, .inl (fun _ => 0))), (m_has, .inl (k_has, 45, .inl (fun _ => 0)))]) [0, 1, 2] (by decide) rfl
  have hKc := hK.sub (tys' := [(k_lines, .int), (k_has, .int)]) [0, 1] rfl
  have hFc := va_free (wc := [(m0, .inr (7, [.int 0, .ref m_width, .ref m_many, .ref m_cells, .ref m_moved, .ref m_tape, .int 0, .int 0, .int 0, .int 0, .int 0, .long 0, .int 0, .int 0, .int 0, .int (-1), .ref m_lines, .ref m_has, .ref m_state, .ref m_gate, .ref m_guest, .ref m_gone, .int 0, .ref m_isKept, .ref m_first, .ref m_second, .int 0, .ref m_far, .ref m_wished, .ref m_wasState, .ref m_isHere, .ref m_round, .ref m_bestRound, .int 0, .int 0, .long 0, .long 0, .ref m_taken, .int 0])), (m_lines, .inl (k_lines, 5, .inl (fun _ => 0))), (m_has, .inl (k_has, 45, .inl (fun _ => 0)))]) hD hS hA [0, 1, 2] rfl
  refine va_calli (va_runV (As := [.int a1]) (rest := [.int (-2)]) ⟨hx, hb, hml, hown, hts⟩ (c_X7_tea l dC dI H.size m0 m_width m_many m_cells m_moved m_tape m_lines m_has m_state m_gate m_guest m_gone m_isKept m_first m_second m_far m_wished m_wasState m_isHere m_round m_bestRound m_taken k_lines k_has a1 ) (cwV 1 hts g_law_X7_tea rfl rfl rfl (by decide +kernel) ⟨Nat.le_of_ble_eq_true rfl, Nat.le_of_ble_eq_true rfl⟩) ⟨fun a U g mk q => by obtain ⟨q0, q1, qP, qK, qD⟩ := q; exact ⟨q0, q1, qP, va_K.moved (u := U) (U := U.calling g mk a) (Vm.Alike.refl U.vm) qK, qD⟩, va_recv hKc hPc (ci := 7) (q0 := 0) rfl rfl, fun U hU hW => ⟨rfl, by rw [hU], by rw [hU]; exact hPc, va_K.moved hW.alike hKc, hDc.weaken (fun _ _ _ _ => trivial)⟩⟩ rfl rfl hl.1 rfl (lv_room (Nat.le_of_ble_eq_true rfl)) dL_law_996 ⟨Nat.le_of_ble_eq_true rfl, Nat.le_of_ble_eq_true rfl⟩) hS (fun q _ h => hFc q h) hFc (fun r_7 u t H1 locs ht hvm hw_8 hB hz1 hk1 hS => ?_)
  have hP1 : va_P (dC, dI) vwCl [] H1 := i_nilP
  have hD1 : va_D (va_A [(m0, .inr (7, [.int 0, .ref m_width, .ref m_many, .ref m_cells, .ref m_moved, .ref m_tape, .int 0, .int 0, .int 0, .int 0, .int 0, .long 0, .int 0, .int 0, .int 0, .int (-1), .ref m_lines, .ref m_has, .ref m_state, .ref m_gate, .ref m_guest, .ref m_gone, .int 0, .ref m_isKept, .ref m_first, .ref m_second, .int 0, .ref m_far, .ref m_wished, .ref m_wasState, .ref m_isHere, .ref m_round, .ref m_bestRound, .int 0, .int 0, .long 0, .long 0, .ref m_taken, .int 0])), (m_lines, .inl (k_lines, 5, .inl (fun _ => 0))), (m_has, .inl (k_has, 45, .inl (fun _ => 0)))] H.size) [] := i_nilD
  try dsimp only at hw_8
  obtain ⟨hP, hD⟩ := va_join (wr := []) (w1 := []) hP hD [0, 1, 2] [] rfl rfl (by decide) (by decide) hk1 hFc hP1 hD1
  generalize H1 = H at hP hS ⊢
  have hP : va_P (dC, dI) vwCl [] H := hP
  have hD : va_D A [] := hD
  obtain rfl : r_7 = -2 := hw_8
  refine lv_icmp_eq (tgt := 1569) hx hb dL_law_999 (by decide) (fun _ => ?_) (fun h => absurd (by decide) h)
  refine lv_iinc (v := 6) (lv' := [(3, .int 6), (2, .ref m0), (1, .ref x0), (0, .ref b)]) hx hb dL_law_1569 hl (k := 0) rfl (by decide) (by decide) rfl (fun ls hl => ?_)
  refine lv_goto (tgt := 18) hx hb dL_law_1572 (by decide) ?_
  exact law_exit C0 hA2 hS (lv_sub hl [0, 3] rfl) (by decide) (by omega) (by omega)

set_option maxHeartbeats 4000000 in
set_option maxRecDepth 100000 in
/-- the law, its call 28: served -/
theorem law_28 {p : Program} {e : Env} {s : State} {m : MethodId} {below : List Frame} {meth : Method} {c : Code} (l : Launch) {b : Nat} {xs : Nat → Int32} (C0 : lw_At p s m meth c b 6 xs) {A : Nat → Prop} (hA : ∀ q, s.heap.size ≤ q → A q) (hA2 : ∀ q, A q → s.heap.size ≤ q) {x0 : Nat} {tp : Nat} {rd : Nat} {gd : Nat} {im : Nat} {rw : Nat} {gn : Nat} {ho : Nat} {sq : Nat} {pl : Nat} {gdt : Nat} {gdu : Nat} {gdn : Nat} {plf : Nat} {plo : Nat} {plb : Nat} {pla : Nat} {m0 : Nat} {m_width : Nat} {m_many : Nat} {m_cells : Nat} {m_moved : Nat} {m_tape : Nat} {m_lines : Nat} {m_has : Nat} {m_state : Nat} {m_gate : Nat} {m_guest : Nat} {m_gone : Nat} {m_isKept : Nat} {m_first : Nat} {m_second : Nat} {m_far : Nat} {m_wished : Nat} {m_wasState : Nat} {m_isHere : Nat} {m_round : Nat} {m_bestRound : Nat} {m_taken : Nat} {k_lines : ClassId} {k_has : ClassId} (hE0 : Kx s) {dC : Nat → ClassId} {dI : Nat → Nat → Nat} (hK : va_K (dC, dI) vwCl [(k_lines, .int), (k_has, .int)] s) {H : Heap} {locs : List Loc} (hP : va_P (dC, dI) vwCl [(x0, .inr (6, [.ref tp, .int 0, .int 0, .int (-1), .ref rd, .ref gd, .ref im, .ref rw, .ref gn, .ref ho, .ref sq])), (gd, .inr (0, [.ref pl, .int 0, .long 0, .long 0, .int 0, .int (-1), .int 0, .ref gdt, .int 0, .ref gdu, .int 0, .ref gdn])), (pl, .inr (3, [.int 0, .int 0, .int 0, .int 0, .long 0, .ref plf, .ref plo, .ref plb, .ref pla])), (m0, .inr (7, [.int 0, .ref m_width, .ref m_many, .ref m_cells, .ref m_moved, .ref m_tape, .int 0, .int 0, .int 0, .int 0, .int 0, .long 0, .int 0, .int 0, .int 0, .int (-1), .ref m_lines, .ref m_has, .ref m_state, .ref m_gate, .ref m_guest, .ref m_gone, .int 0, .ref m_isKept, .ref m_first, .ref m_second, .int 0, .ref m_far, .ref m_wished, .ref m_wasState, .ref m_isHere, .ref m_round, .ref m_bestRound, .int 0, .int 0, .long 0, .long 0, .ref m_taken, .int 0])), (m_lines, .inl (k_lines, 5, .inl (fun _ => 0))), (m_has, .inl (k_has, 45, .inl (fun _ => 0)))] H) (hD : va_D A [(x0, .inr (6, [.ref tp, .int 0, .int 0, .int (-1), .ref rd, .ref gd, .ref im, .ref rw, .ref gn, .ref ho, .ref sq])), (gd, .inr (0, [.ref pl, .int 0, .long 0, .long 0, .int 0, .int (-1), .int 0, .ref gdt, .int 0, .ref gdu, .int 0, .ref gdn])), (pl, .inr (3, [.int 0, .int 0, .int 0, .int 0, .long 0, .ref plf, .ref plo, .ref plb, .ref pla])), (m0, .inr (7, [.int 0, .ref m_width, .ref m_many, .ref m_cells, .ref m_moved, .ref m_tape, .int 0, .int 0, .int 0, .int 0, .int 0, .long 0, .int 0, .int 0, .int 0, .int (-1), .ref m_lines, .ref m_has, .ref m_state, .ref m_gate, .ref m_guest, .ref m_gone, .int 0, .ref m_isKept, .ref m_first, .ref m_second, .int 0, .ref m_far, .ref m_wished, .ref m_wasState, .ref m_isHere, .ref m_round, .ref m_bestRound, .int 0, .int 0, .long 0, .long 0, .ref m_taken, .int 0])), (m_lines, .inl (k_lines, 5, .inl (fun _ => 0))), (m_has, .inl (k_has, 45, .inl (fun _ => 0)))]) (hS : va_S A s.heap H locs) {ls : Array Slot} (hl : lv_has ls 4 [(3, .int 0), (2, .ref m0), (1, .ref x0), (0, .ref b)]) : W p l e room_1 s m #[Value.ref b] below meth c H locs 70 7203 (lw_Z below #[Value.ref b] s) (F0 m 1004 ls []) := by
  obtain ⟨hx, hb, hr, hml, hown, hts, hX, hbl, hlocks, hgv⟩ := id C0
  have hown : s.vm.findClass RL = some m.cls := hown
  have hts := fun w (h : w ∈ wz_law) => hts w (wz_law_in w h)
  have hbA : ¬ A b := fun h => absurd (hA2 b h) (Nat.not_le.mpr hbl)
  obtain ⟨a0, ea0⟩ : ∃ y : Int32, y = xs (0 : Int32).toNatClampNeg := ⟨_, rfl⟩
  obtain ⟨a1, ea1⟩ : ∃ y : Int32, y = xs (1 : Int32).toNatClampNeg := ⟨_, rfl⟩
  obtain ⟨a2, ea2⟩ : ∃ y : Int32, y = xs (2 : Int32).toNatClampNeg := ⟨_, rfl⟩
  obtain ⟨a3, ea3⟩ : ∃ y : Int32, y = xs (3 : Int32).toNatClampNeg := ⟨_, rfl⟩
  obtain ⟨a4, ea4⟩ : ∃ y : Int32, y = xs (4 : Int32).toNatClampNeg := ⟨_, rfl⟩
  obtain ⟨a5, ea5⟩ : ∃ y : Int32, y = xs (5 : Int32).toNatClampNeg := ⟨_, rfl⟩
  refine lv_aload_n hx hb dL_law_1004 rfl (lv_at hl 2 rfl) ?_
  refine lv_aload_n hx hb dL_law_1005 rfl (lv_at hl 3 rfl) ?_
  refine lv_iload_n hx hb dL_law_1006 rfl (lv_at hl 0 rfl) ?_
  refine lv_iconst (v := 1) hx hb dL_law_1007 (by decide) ?_
  refine lv_iadd hx hb dL_law_1008 ?_
  refine lv_topi (fun z_1 ez_1 => ?_)
  obtain rfl : z_1 = 1 := ez_1.trans (by decide)
  refine va_sld hx hb hX hbl hbA hS (vp_in_iff.mpr ⟨by decide, by decide⟩) dL_law_1009 ?_
  refine lv_topi (fun z_2 ez_2 => ?_)
  obtain rfl : a1 = z_2 := ea1.trans ez_2.symm
  refine lv_aload_n hx hb dL_law_1010 rfl (lv_at hl 3 rfl) ?_
  refine lv_iload_n hx hb dL_law_1011 rfl (lv_at hl 0 rfl) ?_
  refine lv_iconst (v := 2) hx hb dL_law_1012 (by decide) ?_
  refine lv_iadd hx hb dL_law_1013 ?_
  refine lv_topi (fun z_3 ez_3 => ?_)
  obtain rfl : z_3 = 2 := ez_3.trans (by decide)
  refine va_sld hx hb hX hbl hbA hS (vp_in_iff.mpr ⟨by decide, by decide⟩) dL_law_1014 ?_
  refine lv_topi (fun z_4 ez_4 => ?_)
  obtain rfl : a2 = z_4 := ea2.trans ez_4.symm
  have hPc := hP.sub (ws' := [(x0, .inr (6, [.ref tp, .int 0, .int 0, .int (-1), .ref rd, .ref gd, .ref im, .ref rw, .ref gn, .ref ho, .ref sq])), (gd, .inr (0, [.ref pl, .int 0, .long 0, .long 0, .int 0, .int (-1), .int 0, .ref gdt, .int 0, .ref gdu, .int 0, .ref gdn])), (pl, .inr (3, [.int 0, .int 0, .int 0, .int 0, .long 0, .ref plf, .ref plo, .ref plb, .ref pla]))]) [0, 1, 2] rfl
  have hDc := hD.sub (ws' := [(x0, .inr (6, [.ref tp, .int 0, .int 0, .int (-1), .ref rd, .ref gd, .ref im, .ref rw, .ref gn, .ref ho, .ref sq])), (gd, .inr (0, [.ref pl, .int 0, .long 0, .long 0, .int 0, .int (-1), .int 0, .ref gdt, .int 0, .ref gdu, .int 0, .ref gdn])), (pl, .inr (3, [.int 0, .int 0, .int 0, .int 0, .long 0, .ref plf, .ref plo, .ref plb, .ref pla]))]) [0, 1, 2] (by decide) rfl
  have hKc := hK.sub (tys' := []) [] rfl
  have hFc := va_free (wc := [(x0, .inr (6, [.ref tp, .int 0, .int 0, .int (-1), .ref rd, .ref gd, .ref im, .ref rw, .ref gn, .ref ho, .ref sq])), (gd, .inr (0, [.ref pl, .int 0, .long 0, .long 0, .int 0, .int (-1), .int 0, .ref gdt, .int 0, .ref gdu, .int 0, .ref gdn])), (pl, .inr (3, [.int 0, .int 0, .int 0, .int 0, .long 0, .ref plf, .ref plo, .ref plb, .ref pla]))]) hD hS hA [0, 1, 2] rfl
  refine va_calli (va_runV (As := [.int a1, .int a2]) (rest := []) ⟨hx, hb, hml, hown, hts⟩ (c_X6_served l dC dI H.size x0 tp rd gd im rw gn ho sq pl gdt gdu gdn plf plo plb pla a1 a2 ) (cwV 2 hts g_law_X6_served rfl rfl rfl (by decide +kernel) ⟨Nat.le_of_ble_eq_true rfl, Nat.le_of_ble_eq_true rfl⟩) ⟨fun a U g mk q => by obtain ⟨q0, q1, qP, qK, qD⟩ := q; exact ⟨q0, q1, qP, va_K.moved (u := U) (U := U.calling g mk a) (Vm.Alike.refl U.vm) qK, qD⟩, va_recv hKc hPc (ci := 6) (q0 := 0) rfl rfl, fun U hU hW => ⟨rfl, by rw [hU], by rw [hU]; exact hPc, va_K.moved hW.alike hKc, hDc.weaken (fun _ _ _ _ => trivial)⟩⟩ rfl rfl hl.1 rfl (lv_room (Nat.le_of_ble_eq_true rfl)) dL_law_1015 ⟨Nat.le_of_ble_eq_true rfl, Nat.le_of_ble_eq_true rfl⟩) hS (fun q _ h => hFc q h) hFc (fun r_5 u t H1 locs ht hvm hw_6 hB hz1 hk1 hS => ?_)
  have hP1 : va_P (dC, dI) vwCl [] H1 := i_nilP
  have hD1 : va_D (va_A [(x0, .inr (6, [.ref tp, .int 0, .int 0, .int (-1), .ref rd, .ref gd, .ref im, .ref rw, .ref gn, .ref ho, .ref sq])), (gd, .inr (0, [.ref pl, .int 0, .long 0, .long 0, .int 0, .int (-1), .int 0, .ref gdt, .int 0, .ref gdu, .int 0, .ref gdn])), (pl, .inr (3, [.int 0, .int 0, .int 0, .int 0, .long 0, .ref plf, .ref plo, .ref plb, .ref pla]))] H.size) [] := i_nilD
  try dsimp only at hw_6
  obtain ⟨hP, hD⟩ := va_join (wr := [(m0, .inr (7, [.int 0, .ref m_width, .ref m_many, .ref m_cells, .ref m_moved, .ref m_tape, .int 0, .int 0, .int 0, .int 0, .int 0, .long 0, .int 0, .int 0, .int 0, .int (-1), .ref m_lines, .ref m_has, .ref m_state, .ref m_gate, .ref m_guest, .ref m_gone, .int 0, .ref m_isKept, .ref m_first, .ref m_second, .int 0, .ref m_far, .ref m_wished, .ref m_wasState, .ref m_isHere, .ref m_round, .ref m_bestRound, .int 0, .int 0, .long 0, .long 0, .ref m_taken, .int 0])), (m_lines, .inl (k_lines, 5, .inl (fun _ => 0))), (m_has, .inl (k_has, 45, .inl (fun _ => 0)))]) (w1 := []) hP hD [0, 1, 2] [3, 4, 5] rfl rfl (by decide) (by decide) hk1 hFc hP1 hD1
  generalize H1 = H at hP hS ⊢
  have hP : va_P (dC, dI) vwCl [(m0, .inr (7, [.int 0, .ref m_width, .ref m_many, .ref m_cells, .ref m_moved, .ref m_tape, .int 0, .int 0, .int 0, .int 0, .int 0, .long 0, .int 0, .int 0, .int 0, .int (-1), .ref m_lines, .ref m_has, .ref m_state, .ref m_gate, .ref m_guest, .ref m_gone, .int 0, .ref m_isKept, .ref m_first, .ref m_second, .int 0, .ref m_far, .ref m_wished, .ref m_wasState, .ref m_isHere, .ref m_round, .ref m_bestRound, .int 0, .int 0, .long 0, .long 0, .ref m_taken, .int 0])), (m_lines, .inl (k_lines, 5, .inl (fun _ => 0))), (m_has, .inl (k_has, 45, .inl (fun _ => 0)))] H := hP
  have hD : va_D A [(m0, .inr (7, [.int 0, .ref m_width, .ref m_many, .ref m_cells, .ref m_moved, .ref m_tape, .int 0, .int 0, .int 0, .int 0, .int 0, .long 0, .int 0, .int 0, .int 0, .int (-1), .ref m_lines, .ref m_has, .ref m_state, .ref m_gate, .ref m_guest, .ref m_gone, .int 0, .ref m_isKept, .ref m_first, .ref m_second, .int 0, .ref m_far, .ref m_wished, .ref m_wasState, .ref m_isHere, .ref m_round, .ref m_bestRound, .int 0, .int 0, .long 0, .long 0, .ref m_taken, .int 0])), (m_lines, .inl (k_lines, 5, .inl (fun _ => 0))), (m_has, .inl (k_has, 45, .inl (fun _ => 0)))] := hD
  obtain rfl : r_5 = -2 := hw_6
  refine lv_aload_n hx hb dL_law_1018 rfl (lv_at hl 1 rfl) ?_
  refine lv_aload_n hx hb dL_law_1019 rfl (lv_at hl 3 rfl) ?_
  refine lv_iload_n hx hb dL_law_1020 rfl (lv_at hl 0 rfl) ?_
  refine lv_iconst (v := 1) hx hb dL_law_1021 (by decide) ?_
  refine lv_iadd hx hb dL_law_1022 ?_
  refine lv_topi (fun z_7 ez_7 => ?_)
  obtain rfl : z_7 = 1 := ez_7.trans (by decide)
  refine va_sld hx hb hX hbl hbA hS (vp_in_iff.mpr ⟨by decide, by decide⟩) dL_law_1023 ?_
  refine lv_topi (fun z_8 ez_8 => ?_)
  obtain rfl : a1 = z_8 := ea1.trans ez_8.symm
  refine lv_aload_n hx hb dL_law_1024 rfl (lv_at hl 3 rfl) ?_
  refine lv_iload_n hx hb dL_law_1025 rfl (lv_at hl 0 rfl) ?_
  refine lv_iconst (v := 2) hx hb dL_law_1026 (by decide) ?_
  refine lv_iadd hx hb dL_law_1027 ?_
  refine lv_topi (fun z_9 ez_9 => ?_)
  obtain rfl : z_9 = 2 := ez_9.trans (by decide)
  refine va_sld hx hb hX hbl hbA hS (vp_in_iff.mpr ⟨by decide, by decide⟩) dL_law_1028 ?_
  refine lv_topi (fun z_10 ez_10 => ?_)
  obtain rfl : a2 = z_10 := ea2.trans ez_10.symm
  have hPc := hP.sub (ws' := [(m0, .inr (7, [.int 0, .ref m_width, .ref m_many, .ref m_cells, .ref m_moved, .ref m_tape, .int 0, .int 0, .int 0, .int 0, .int 0, .long 0, .int 0, .int 0, .int 0, .int (-1), .ref m_lines, .ref m_has, .ref m_state, .ref m_gate, .ref m_guest, .ref m_gone, .int 0, .ref m_isKept, .ref m_first, .ref m_second, .int 0, .ref m_far, .ref m_wished, .ref m_wasState, .ref m_isHere, .ref m_round, .ref m_bestRound, .int 0, .int 0, .long 0, .long 0, .ref m_taken, .int 0])), (m_lines, .inl (k_lines, 5, .inl (fun _ => 0))), (m_has, .inl (k_has, 45, .inl (fun _ => 0)))]) [0, 1, 2] rfl
  have hDc := hD.sub (ws' := [(m0, .inr (7, [.int 0, .ref m_width, .ref m_many, .ref m_cells, .ref m_moved, .ref m_tape, .int 0, .int 0, .int 0, .int 0, .int 0, .long 0, .int 0, .int 0, .int 0, .int (-1), .ref m_lines, .ref m_has, .ref m_state, .ref m_gate, .ref m_guest, .ref m_gone, .int 0, .ref m_isKept, .ref m_first, .ref m_second, .int 0, .ref m_far, .ref m_wished, .ref m_wasState, .ref m_isHere, .ref m_round, .ref m_bestRound, .int 0, .int 0, .long 0, .long 0, .ref m_taken, .int 0])), (m_lines, .inl (k_lines, 5, .inl (fun _ => 0))), (m_has, .inl (k_has, 45, .inl (fun _ => 0)))]) [0, 1, 2] (by decide) rfl
  have hKc := hK.sub (tys' := [(k_lines, .int), (k_has, .int)]) [0, 1] rfl
  have hFc := va_free (wc := [(m0, .inr (7, [.int 0, .ref m_width, .ref m_many, .ref m_cells, .ref m_moved, .ref m_tape, .int 0, .int 0, .int 0, .int 0, .int 0, .long 0, .int 0, .int 0, .int 0, .int (-1), .ref m_lines, .ref m_has, .ref m_state, .ref m_gate, .ref m_guest, .ref m_gone, .int 0, .ref m_isKept, .ref m_first, .ref m_second, .int 0, .ref m_far, .ref m_wished, .ref m_wasState, .ref m_isHere, .ref m_round, .ref m_bestRound, .int 0, .int 0, .long 0, .long 0, .ref m_taken, .int 0])), (m_lines, .inl (k_lines, 5, .inl (fun _ => 0))), (m_has, .inl (k_has, 45, .inl (fun _ => 0)))]) hD hS hA [0, 1, 2] rfl
  refine va_calli (va_runV (As := [.int a1, .int a2]) (rest := [.int (-2)]) ⟨hx, hb, hml, hown, hts⟩ (c_X7_served l dC dI H.size m0 m_width m_many m_cells m_moved m_tape m_lines m_has m_state m_gate m_guest m_gone m_isKept m_first m_second m_far m_wished m_wasState m_isHere m_round m_bestRound m_taken k_lines k_has a1 a2 ) (cwV 2 hts g_law_X7_served rfl rfl rfl (by decide +kernel) ⟨Nat.le_of_ble_eq_true rfl, Nat.le_of_ble_eq_true rfl⟩) ⟨fun a U g mk q => by obtain ⟨q0, q1, qP, qK, qD⟩ := q; exact ⟨q0, q1, qP, va_K.moved (u := U) (U := U.calling g mk a) (Vm.Alike.refl U.vm) qK, qD⟩, va_recv hKc hPc (ci := 7) (q0 := 0) rfl rfl, fun U hU hW => ⟨rfl, by rw [hU], by rw [hU]; exact hPc, va_K.moved hW.alike hKc, hDc.weaken (fun _ _ _ _ => trivial)⟩⟩ rfl rfl hl.1 rfl (lv_room (Nat.le_of_ble_eq_true rfl)) dL_law_1029 ⟨Nat.le_of_ble_eq_true rfl, Nat.le_of_ble_eq_true rfl⟩) hS (fun q _ h => hFc q h) hFc (fun r_11 u t H1 locs ht hvm hw_12 hB hz1 hk1 hS => ?_)
  have hP1 : va_P (dC, dI) vwCl [] H1 := i_nilP
  have hD1 : va_D (va_A [(m0, .inr (7, [.int 0, .ref m_width, .ref m_many, .ref m_cells, .ref m_moved, .ref m_tape, .int 0, .int 0, .int 0, .int 0, .int 0, .long 0, .int 0, .int 0, .int 0, .int (-1), .ref m_lines, .ref m_has, .ref m_state, .ref m_gate, .ref m_guest, .ref m_gone, .int 0, .ref m_isKept, .ref m_first, .ref m_second, .int 0, .ref m_far, .ref m_wished, .ref m_wasState, .ref m_isHere, .ref m_round, .ref m_bestRound, .int 0, .int 0, .long 0, .long 0, .ref m_taken, .int 0])), (m_lines, .inl (k_lines, 5, .inl (fun _ => 0))), (m_has, .inl (k_has, 45, .inl (fun _ => 0)))] H.size) [] := i_nilD
  try dsimp only at hw_12
  obtain ⟨hP, hD⟩ := va_join (wr := []) (w1 := []) hP hD [0, 1, 2] [] rfl rfl (by decide) (by decide) hk1 hFc hP1 hD1
  generalize H1 = H at hP hS ⊢
  have hP : va_P (dC, dI) vwCl [] H := hP
  have hD : va_D A [] := hD
  obtain rfl : r_11 = -2 := hw_12
  refine lv_icmp_eq (tgt := 1569) hx hb dL_law_1032 (by decide) (fun _ => ?_) (fun h => absurd (by decide) h)
  refine lv_iinc (v := 6) (lv' := [(3, .int 6), (2, .ref m0), (1, .ref x0), (0, .ref b)]) hx hb dL_law_1569 hl (k := 0) rfl (by decide) (by decide) rfl (fun ls hl => ?_)
  refine lv_goto (tgt := 18) hx hb dL_law_1572 (by decide) ?_
  exact law_exit C0 hA2 hS (lv_sub hl [0, 3] rfl) (by decide) (by omega) (by omega)

set_option maxHeartbeats 4000000 in
set_option maxRecDepth 100000 in
/-- the law, its call 29: letter -/
theorem law_29 {p : Program} {e : Env} {s : State} {m : MethodId} {below : List Frame} {meth : Method} {c : Code} (l : Launch) {b : Nat} {xs : Nat → Int32} (C0 : lw_At p s m meth c b 6 xs) {A : Nat → Prop} (hA : ∀ q, s.heap.size ≤ q → A q) (hA2 : ∀ q, A q → s.heap.size ≤ q) {x0 : Nat} {tp : Nat} {rd : Nat} {gd : Nat} {im : Nat} {rw : Nat} {gn : Nat} {ho : Nat} {sq : Nat} {pl : Nat} {gdt : Nat} {gdu : Nat} {gdn : Nat} {plf : Nat} {plo : Nat} {plb : Nat} {pla : Nat} {m0 : Nat} {m_width : Nat} {m_many : Nat} {m_cells : Nat} {m_moved : Nat} {m_tape : Nat} {m_lines : Nat} {m_has : Nat} {m_state : Nat} {m_gate : Nat} {m_guest : Nat} {m_gone : Nat} {m_isKept : Nat} {m_first : Nat} {m_second : Nat} {m_far : Nat} {m_wished : Nat} {m_wasState : Nat} {m_isHere : Nat} {m_round : Nat} {m_bestRound : Nat} {m_taken : Nat} {k_lines : ClassId} {k_has : ClassId} (hE0 : Kx s) {dC : Nat → ClassId} {dI : Nat → Nat → Nat} (hK : va_K (dC, dI) vwCl [(k_lines, .int), (k_has, .int)] s) {H : Heap} {locs : List Loc} (hP : va_P (dC, dI) vwCl [(x0, .inr (6, [.ref tp, .int 0, .int 0, .int (-1), .ref rd, .ref gd, .ref im, .ref rw, .ref gn, .ref ho, .ref sq])), (gd, .inr (0, [.ref pl, .int 0, .long 0, .long 0, .int 0, .int (-1), .int 0, .ref gdt, .int 0, .ref gdu, .int 0, .ref gdn])), (pl, .inr (3, [.int 0, .int 0, .int 0, .int 0, .long 0, .ref plf, .ref plo, .ref plb, .ref pla])), (m0, .inr (7, [.int 0, .ref m_width, .ref m_many, .ref m_cells, .ref m_moved, .ref m_tape, .int 0, .int 0, .int 0, .int 0, .int 0, .long 0, .int 0, .int 0, .int 0, .int (-1), .ref m_lines, .ref m_has, .ref m_state, .ref m_gate, .ref m_guest, .ref m_gone, .int 0, .ref m_isKept, .ref m_first, .ref m_second, .int 0, .ref m_far, .ref m_wished, .ref m_wasState, .ref m_isHere, .ref m_round, .ref m_bestRound, .int 0, .int 0, .long 0, .long 0, .ref m_taken, .int 0])), (m_lines, .inl (k_lines, 5, .inl (fun _ => 0))), (m_has, .inl (k_has, 45, .inl (fun _ => 0)))] H) (hD : va_D A [(x0, .inr (6, [.ref tp, .int 0, .int 0, .int (-1), .ref rd, .ref gd, .ref im, .ref rw, .ref gn, .ref ho, .ref sq])), (gd, .inr (0, [.ref pl, .int 0, .long 0, .long 0, .int 0, .int (-1), .int 0, .ref gdt, .int 0, .ref gdu, .int 0, .ref gdn])), (pl, .inr (3, [.int 0, .int 0, .int 0, .int 0, .long 0, .ref plf, .ref plo, .ref plb, .ref pla])), (m0, .inr (7, [.int 0, .ref m_width, .ref m_many, .ref m_cells, .ref m_moved, .ref m_tape, .int 0, .int 0, .int 0, .int 0, .int 0, .long 0, .int 0, .int 0, .int 0, .int (-1), .ref m_lines, .ref m_has, .ref m_state, .ref m_gate, .ref m_guest, .ref m_gone, .int 0, .ref m_isKept, .ref m_first, .ref m_second, .int 0, .ref m_far, .ref m_wished, .ref m_wasState, .ref m_isHere, .ref m_round, .ref m_bestRound, .int 0, .int 0, .long 0, .long 0, .ref m_taken, .int 0])), (m_lines, .inl (k_lines, 5, .inl (fun _ => 0))), (m_has, .inl (k_has, 45, .inl (fun _ => 0)))]) (hS : va_S A s.heap H locs) {ls : Array Slot} (hl : lv_has ls 4 [(3, .int 0), (2, .ref m0), (1, .ref x0), (0, .ref b)]) : W p l e room_1 s m #[Value.ref b] below meth c H locs 70 7203 (lw_Z below #[Value.ref b] s) (F0 m 1037 ls []) := by
  obtain ⟨hx, hb, hr, hml, hown, hts, hX, hbl, hlocks, hgv⟩ := id C0
  have hown : s.vm.findClass RL = some m.cls := hown
  have hts := fun w (h : w ∈ wz_law) => hts w (wz_law_in w h)
  have hbA : ¬ A b := fun h => absurd (hA2 b h) (Nat.not_le.mpr hbl)
  obtain ⟨a0, ea0⟩ : ∃ y : Int32, y = xs (0 : Int32).toNatClampNeg := ⟨_, rfl⟩
  obtain ⟨a1, ea1⟩ : ∃ y : Int32, y = xs (1 : Int32).toNatClampNeg := ⟨_, rfl⟩
  obtain ⟨a2, ea2⟩ : ∃ y : Int32, y = xs (2 : Int32).toNatClampNeg := ⟨_, rfl⟩
  obtain ⟨a3, ea3⟩ : ∃ y : Int32, y = xs (3 : Int32).toNatClampNeg := ⟨_, rfl⟩
  obtain ⟨a4, ea4⟩ : ∃ y : Int32, y = xs (4 : Int32).toNatClampNeg := ⟨_, rfl⟩
  obtain ⟨a5, ea5⟩ : ∃ y : Int32, y = xs (5 : Int32).toNatClampNeg := ⟨_, rfl⟩
  refine lv_aload_n hx hb dL_law_1037 rfl (lv_at hl 2 rfl) ?_
  refine lv_aload_n hx hb dL_law_1038 rfl (lv_at hl 3 rfl) ?_
  refine lv_iload_n hx hb dL_law_1039 rfl (lv_at hl 0 rfl) ?_
  refine lv_iconst (v := 1) hx hb dL_law_1040 (by decide) ?_
  refine lv_iadd hx hb dL_law_1041 ?_
  refine lv_topi (fun z_1 ez_1 => ?_)
  obtain rfl : z_1 = 1 := ez_1.trans (by decide)
  refine va_sld hx hb hX hbl hbA hS (vp_in_iff.mpr ⟨by decide, by decide⟩) dL_law_1042 ?_
  refine lv_topi (fun z_2 ez_2 => ?_)
  obtain rfl : a1 = z_2 := ea1.trans ez_2.symm
  have hPc := hP.sub (ws' := [(x0, .inr (6, [.ref tp, .int 0, .int 0, .int (-1), .ref rd, .ref gd, .ref im, .ref rw, .ref gn, .ref ho, .ref sq])), (gd, .inr (0, [.ref pl, .int 0, .long 0, .long 0, .int 0, .int (-1), .int 0, .ref gdt, .int 0, .ref gdu, .int 0, .ref gdn])), (pl, .inr (3, [.int 0, .int 0, .int 0, .int 0, .long 0, .ref plf, .ref plo, .ref plb, .ref pla]))]) [0, 1, 2] rfl
  have hDc := hD.sub (ws' := [(x0, .inr (6, [.ref tp, .int 0, .int 0, .int (-1), .ref rd, .ref gd, .ref im, .ref rw, .ref gn, .ref ho, .ref sq])), (gd, .inr (0, [.ref pl, .int 0, .long 0, .long 0, .int 0, .int (-1), .int 0, .ref gdt, .int 0, .ref gdu, .int 0, .ref gdn])), (pl, .inr (3, [.int 0, .int 0, .int 0, .int 0, .long 0, .ref plf, .ref plo, .ref plb, .ref pla]))]) [0, 1, 2] (by decide) rfl
  have hKc := hK.sub (tys' := []) [] rfl
  have hFc := va_free (wc := [(x0, .inr (6, [.ref tp, .int 0, .int 0, .int (-1), .ref rd, .ref gd, .ref im, .ref rw, .ref gn, .ref ho, .ref sq])), (gd, .inr (0, [.ref pl, .int 0, .long 0, .long 0, .int 0, .int (-1), .int 0, .ref gdt, .int 0, .ref gdu, .int 0, .ref gdn])), (pl, .inr (3, [.int 0, .int 0, .int 0, .int 0, .long 0, .ref plf, .ref plo, .ref plb, .ref pla]))]) hD hS hA [0, 1, 2] rfl
  refine va_calli (va_runV (As := [.int a1]) (rest := []) ⟨hx, hb, hml, hown, hts⟩ (c_X6_letter l dC dI H.size x0 tp rd gd im rw gn ho sq pl gdt gdu gdn plf plo plb pla a1 ) (cwV 1 hts g_law_X6_letter rfl rfl rfl (by decide +kernel) ⟨Nat.le_of_ble_eq_true rfl, Nat.le_of_ble_eq_true rfl⟩) ⟨fun a U g mk q => by obtain ⟨q0, q1, qP, qK, qD⟩ := q; exact ⟨q0, q1, qP, va_K.moved (u := U) (U := U.calling g mk a) (Vm.Alike.refl U.vm) qK, qD⟩, va_recv hKc hPc (ci := 6) (q0 := 0) rfl rfl, fun U hU hW => ⟨rfl, by rw [hU], by rw [hU]; exact hPc, va_K.moved hW.alike hKc, hDc.weaken (fun _ _ _ _ => trivial)⟩⟩ rfl rfl hl.1 rfl (lv_room (Nat.le_of_ble_eq_true rfl)) dL_law_1043 ⟨Nat.le_of_ble_eq_true rfl, Nat.le_of_ble_eq_true rfl⟩) hS (fun q _ h => hFc q h) hFc (fun r_3 u t H1 locs ht hvm hw_4 hB hz1 hk1 hS => ?_)
  have hP1 : va_P (dC, dI) vwCl [] H1 := i_nilP
  have hD1 : va_D (va_A [(x0, .inr (6, [.ref tp, .int 0, .int 0, .int (-1), .ref rd, .ref gd, .ref im, .ref rw, .ref gn, .ref ho, .ref sq])), (gd, .inr (0, [.ref pl, .int 0, .long 0, .long 0, .int 0, .int (-1), .int 0, .ref gdt, .int 0, .ref gdu, .int 0, .ref gdn])), (pl, .inr (3, [.int 0, .int 0, .int 0, .int 0, .long 0, .ref plf, .ref plo, .ref plb, .ref pla]))] H.size) [] := i_nilD
  try dsimp only at hw_4
  obtain ⟨hP, hD⟩ := va_join (wr := [(m0, .inr (7, [.int 0, .ref m_width, .ref m_many, .ref m_cells, .ref m_moved, .ref m_tape, .int 0, .int 0, .int 0, .int 0, .int 0, .long 0, .int 0, .int 0, .int 0, .int (-1), .ref m_lines, .ref m_has, .ref m_state, .ref m_gate, .ref m_guest, .ref m_gone, .int 0, .ref m_isKept, .ref m_first, .ref m_second, .int 0, .ref m_far, .ref m_wished, .ref m_wasState, .ref m_isHere, .ref m_round, .ref m_bestRound, .int 0, .int 0, .long 0, .long 0, .ref m_taken, .int 0])), (m_lines, .inl (k_lines, 5, .inl (fun _ => 0))), (m_has, .inl (k_has, 45, .inl (fun _ => 0)))]) (w1 := []) hP hD [0, 1, 2] [3, 4, 5] rfl rfl (by decide) (by decide) hk1 hFc hP1 hD1
  generalize H1 = H at hP hS ⊢
  have hP : va_P (dC, dI) vwCl [(m0, .inr (7, [.int 0, .ref m_width, .ref m_many, .ref m_cells, .ref m_moved, .ref m_tape, .int 0, .int 0, .int 0, .int 0, .int 0, .long 0, .int 0, .int 0, .int 0, .int (-1), .ref m_lines, .ref m_has, .ref m_state, .ref m_gate, .ref m_guest, .ref m_gone, .int 0, .ref m_isKept, .ref m_first, .ref m_second, .int 0, .ref m_far, .ref m_wished, .ref m_wasState, .ref m_isHere, .ref m_round, .ref m_bestRound, .int 0, .int 0, .long 0, .long 0, .ref m_taken, .int 0])), (m_lines, .inl (k_lines, 5, .inl (fun _ => 0))), (m_has, .inl (k_has, 45, .inl (fun _ => 0)))] H := hP
  have hD : va_D A [(m0, .inr (7, [.int 0, .ref m_width, .ref m_many, .ref m_cells, .ref m_moved, .ref m_tape, .int 0, .int 0, .int 0, .int 0, .int 0, .long 0, .int 0, .int 0, .int 0, .int (-1), .ref m_lines, .ref m_has, .ref m_state, .ref m_gate, .ref m_guest, .ref m_gone, .int 0, .ref m_isKept, .ref m_first, .ref m_second, .int 0, .ref m_far, .ref m_wished, .ref m_wasState, .ref m_isHere, .ref m_round, .ref m_bestRound, .int 0, .int 0, .long 0, .long 0, .ref m_taken, .int 0])), (m_lines, .inl (k_lines, 5, .inl (fun _ => 0))), (m_has, .inl (k_has, 45, .inl (fun _ => 0)))] := hD
  obtain rfl : r_3 = -2 := hw_4
  refine lv_aload_n hx hb dL_law_1046 rfl (lv_at hl 1 rfl) ?_
  refine lv_aload_n hx hb dL_law_1047 rfl (lv_at hl 3 rfl) ?_
  refine lv_iload_n hx hb dL_law_1048 rfl (lv_at hl 0 rfl) ?_
  refine lv_iconst (v := 1) hx hb dL_law_1049 (by decide) ?_
  refine lv_iadd hx hb dL_law_1050 ?_
  refine lv_topi (fun z_5 ez_5 => ?_)
  obtain rfl : z_5 = 1 := ez_5.trans (by decide)
  refine va_sld hx hb hX hbl hbA hS (vp_in_iff.mpr ⟨by decide, by decide⟩) dL_law_1051 ?_
  refine lv_topi (fun z_6 ez_6 => ?_)
  obtain rfl : a1 = z_6 := ea1.trans ez_6.symm
  have hPc := hP.sub (ws' := [(m0, .inr (7, [.int 0, .ref m_width, .ref m_many, .ref m_cells, .ref m_moved, .ref m_tape, .int 0, .int 0, .int 0, .int 0, .int 0, .long 0, .int 0, .int 0, .int 0, .int (-1), .ref m_lines, .ref m_has, .ref m_state, .ref m_gate, .ref m_guest, .ref m_gone, .int 0, .ref m_isKept, .ref m_first, .ref m_second, .int 0, .ref m_far, .ref m_wished, .ref m_wasState, .ref m_isHere, .ref m_round, .ref m_bestRound, .int 0, .int 0, .long 0, .long 0, .ref m_taken, .int 0])), (m_lines, .inl (k_lines, 5, .inl (fun _ => 0))), (m_has, .inl (k_has, 45, .inl (fun _ => 0)))]) [0, 1, 2] rfl
  have hDc := hD.sub (ws' := [(m0, .inr (7, [.int 0, .ref m_width, .ref m_many, .ref m_cells, .ref m_moved, .ref m_tape, .int 0, .int 0, .int 0, .int 0, .int 0, .long 0, .int 0, .int 0, .int 0, .int (-1), .ref m_lines, .ref m_has, .ref m_state, .ref m_gate, .ref m_guest, .ref m_gone, .int 0, .ref m_isKept, .ref m_first, .ref m_second, .int 0, .ref m_far, .ref m_wished, .ref m_wasState, .ref m_isHere, .ref m_round, .ref m_bestRound, .int 0, .int 0, .long 0, .long 0, .ref m_taken, .int 0])), (m_lines, .inl (k_lines, 5, .inl (fun _ => 0))), (m_has, .inl (k_has, 45, .inl (fun _ => 0)))]) [0, 1, 2] (by decide) rfl
  have hKc := hK.sub (tys' := [(k_lines, .int), (k_has, .int)]) [0, 1] rfl
  have hFc := va_free (wc := [(m0, .inr (7, [.int 0, .ref m_width, .ref m_many, .ref m_cells, .ref m_moved, .ref m_tape, .int 0, .int 0, .int 0, .int 0, .int 0, .long 0, .int 0, .int 0, .int 0, .int (-1), .ref m_lines, .ref m_has, .ref m_state, .ref m_gate, .ref m_guest, .ref m_gone, .int 0, .ref m_isKept, .ref m_first, .ref m_second, .int 0, .ref m_far, .ref m_wished, .ref m_wasState, .ref m_isHere, .ref m_round, .ref m_bestRound, .int 0, .int 0, .long 0, .long 0, .ref m_taken, .int 0])), (m_lines, .inl (k_lines, 5, .inl (fun _ => 0))), (m_has, .inl (k_has, 45, .inl (fun _ => 0)))]) hD hS hA [0, 1, 2] rfl
  refine va_calli (va_runV (As := [.int a1]) (rest := [.int (-2)]) ⟨hx, hb, hml, hown, hts⟩ (c_X7_letter l dC dI H.size m0 m_width m_many m_cells m_moved m_tape m_lines m_has m_state m_gate m_guest m_gone m_isKept m_first m_second m_far m_wished m_wasState m_isHere m_round m_bestRound m_taken k_lines k_has a1 ) (cwV 1 hts g_law_X7_letter rfl rfl rfl (by decide +kernel) ⟨Nat.le_of_ble_eq_true rfl, Nat.le_of_ble_eq_true rfl⟩) ⟨fun a U g mk q => by obtain ⟨q0, q1, qP, qK, qD⟩ := q; exact ⟨q0, q1, qP, va_K.moved (u := U) (U := U.calling g mk a) (Vm.Alike.refl U.vm) qK, qD⟩, va_recv hKc hPc (ci := 7) (q0 := 0) rfl rfl, fun U hU hW => ⟨rfl, by rw [hU], by rw [hU]; exact hPc, va_K.moved hW.alike hKc, hDc.weaken (fun _ _ _ _ => trivial)⟩⟩ rfl rfl hl.1 rfl (lv_room (Nat.le_of_ble_eq_true rfl)) dL_law_1052 ⟨Nat.le_of_ble_eq_true rfl, Nat.le_of_ble_eq_true rfl⟩) hS (fun q _ h => hFc q h) hFc (fun r_7 u t H1 locs ht hvm hw_8 hB hz1 hk1 hS => ?_)
  have hP1 : va_P (dC, dI) vwCl [] H1 := i_nilP
  have hD1 : va_D (va_A [(m0, .inr (7, [.int 0, .ref m_width, .ref m_many, .ref m_cells, .ref m_moved, .ref m_tape, .int 0, .int 0, .int 0, .int 0, .int 0, .long 0, .int 0, .int 0, .int 0, .int (-1), .ref m_lines, .ref m_has, .ref m_state, .ref m_gate, .ref m_guest, .ref m_gone, .int 0, .ref m_isKept, .ref m_first, .ref m_second, .int 0, .ref m_far, .ref m_wished, .ref m_wasState, .ref m_isHere, .ref m_round, .ref m_bestRound, .int 0, .int 0, .long 0, .long 0, .ref m_taken, .int 0])), (m_lines, .inl (k_lines, 5, .inl (fun _ => 0))), (m_has, .inl (k_has, 45, .inl (fun _ => 0)))] H.size) [] := i_nilD
  try dsimp only at hw_8
  obtain ⟨hP, hD⟩ := va_join (wr := []) (w1 := []) hP hD [0, 1, 2] [] rfl rfl (by decide) (by decide) hk1 hFc hP1 hD1
  generalize H1 = H at hP hS ⊢
  have hP : va_P (dC, dI) vwCl [] H := hP
  have hD : va_D A [] := hD
  obtain rfl : r_7 = -2 := hw_8
  refine lv_icmp_eq (tgt := 1569) hx hb dL_law_1055 (by decide) (fun _ => ?_) (fun h => absurd (by decide) h)
  refine lv_iinc (v := 6) (lv' := [(3, .int 6), (2, .ref m0), (1, .ref x0), (0, .ref b)]) hx hb dL_law_1569 hl (k := 0) rfl (by decide) (by decide) rfl (fun ls hl => ?_)
  refine lv_goto (tgt := 18) hx hb dL_law_1572 (by decide) ?_
  exact law_exit C0 hA2 hS (lv_sub hl [0, 3] rfl) (by decide) (by omega) (by omega)

set_option maxHeartbeats 4000000 in
set_option maxRecDepth 100000 in
/-- the law, its call 30: goes -/
theorem law_30 {p : Program} {e : Env} {s : State} {m : MethodId} {below : List Frame} {meth : Method} {c : Code} (l : Launch) {b : Nat} {xs : Nat → Int32} (C0 : lw_At p s m meth c b 6 xs) {A : Nat → Prop} (hA : ∀ q, s.heap.size ≤ q → A q) (hA2 : ∀ q, A q → s.heap.size ≤ q) {x0 : Nat} {tp : Nat} {rd : Nat} {gd : Nat} {im : Nat} {rw : Nat} {gn : Nat} {ho : Nat} {sq : Nat} {pl : Nat} {gdt : Nat} {gdu : Nat} {gdn : Nat} {plf : Nat} {plo : Nat} {plb : Nat} {pla : Nat} {m0 : Nat} {m_width : Nat} {m_many : Nat} {m_cells : Nat} {m_moved : Nat} {m_tape : Nat} {m_lines : Nat} {m_has : Nat} {m_state : Nat} {m_gate : Nat} {m_guest : Nat} {m_gone : Nat} {m_isKept : Nat} {m_first : Nat} {m_second : Nat} {m_far : Nat} {m_wished : Nat} {m_wasState : Nat} {m_isHere : Nat} {m_round : Nat} {m_bestRound : Nat} {m_taken : Nat} {k_lines : ClassId} {k_has : ClassId} (hE0 : Kx s) {dC : Nat → ClassId} {dI : Nat → Nat → Nat} (hK : va_K (dC, dI) vwCl [(k_lines, .int), (k_has, .int)] s) {H : Heap} {locs : List Loc} (hP : va_P (dC, dI) vwCl [(x0, .inr (6, [.ref tp, .int 0, .int 0, .int (-1), .ref rd, .ref gd, .ref im, .ref rw, .ref gn, .ref ho, .ref sq])), (gd, .inr (0, [.ref pl, .int 0, .long 0, .long 0, .int 0, .int (-1), .int 0, .ref gdt, .int 0, .ref gdu, .int 0, .ref gdn])), (pl, .inr (3, [.int 0, .int 0, .int 0, .int 0, .long 0, .ref plf, .ref plo, .ref plb, .ref pla])), (m0, .inr (7, [.int 0, .ref m_width, .ref m_many, .ref m_cells, .ref m_moved, .ref m_tape, .int 0, .int 0, .int 0, .int 0, .int 0, .long 0, .int 0, .int 0, .int 0, .int (-1), .ref m_lines, .ref m_has, .ref m_state, .ref m_gate, .ref m_guest, .ref m_gone, .int 0, .ref m_isKept, .ref m_first, .ref m_second, .int 0, .ref m_far, .ref m_wished, .ref m_wasState, .ref m_isHere, .ref m_round, .ref m_bestRound, .int 0, .int 0, .long 0, .long 0, .ref m_taken, .int 0])), (m_lines, .inl (k_lines, 5, .inl (fun _ => 0))), (m_has, .inl (k_has, 45, .inl (fun _ => 0)))] H) (hD : va_D A [(x0, .inr (6, [.ref tp, .int 0, .int 0, .int (-1), .ref rd, .ref gd, .ref im, .ref rw, .ref gn, .ref ho, .ref sq])), (gd, .inr (0, [.ref pl, .int 0, .long 0, .long 0, .int 0, .int (-1), .int 0, .ref gdt, .int 0, .ref gdu, .int 0, .ref gdn])), (pl, .inr (3, [.int 0, .int 0, .int 0, .int 0, .long 0, .ref plf, .ref plo, .ref plb, .ref pla])), (m0, .inr (7, [.int 0, .ref m_width, .ref m_many, .ref m_cells, .ref m_moved, .ref m_tape, .int 0, .int 0, .int 0, .int 0, .int 0, .long 0, .int 0, .int 0, .int 0, .int (-1), .ref m_lines, .ref m_has, .ref m_state, .ref m_gate, .ref m_guest, .ref m_gone, .int 0, .ref m_isKept, .ref m_first, .ref m_second, .int 0, .ref m_far, .ref m_wished, .ref m_wasState, .ref m_isHere, .ref m_round, .ref m_bestRound, .int 0, .int 0, .long 0, .long 0, .ref m_taken, .int 0])), (m_lines, .inl (k_lines, 5, .inl (fun _ => 0))), (m_has, .inl (k_has, 45, .inl (fun _ => 0)))]) (hS : va_S A s.heap H locs) {ls : Array Slot} (hl : lv_has ls 4 [(3, .int 0), (2, .ref m0), (1, .ref x0), (0, .ref b)]) : W p l e room_1 s m #[Value.ref b] below meth c H locs 70 7203 (lw_Z below #[Value.ref b] s) (F0 m 1060 ls []) := by
  obtain ⟨hx, hb, hr, hml, hown, hts, hX, hbl, hlocks, hgv⟩ := id C0
  have hown : s.vm.findClass RL = some m.cls := hown
  have hts := fun w (h : w ∈ wz_law) => hts w (wz_law_in w h)
  have hbA : ¬ A b := fun h => absurd (hA2 b h) (Nat.not_le.mpr hbl)
  obtain ⟨a0, ea0⟩ : ∃ y : Int32, y = xs (0 : Int32).toNatClampNeg := ⟨_, rfl⟩
  obtain ⟨a1, ea1⟩ : ∃ y : Int32, y = xs (1 : Int32).toNatClampNeg := ⟨_, rfl⟩
  obtain ⟨a2, ea2⟩ : ∃ y : Int32, y = xs (2 : Int32).toNatClampNeg := ⟨_, rfl⟩
  obtain ⟨a3, ea3⟩ : ∃ y : Int32, y = xs (3 : Int32).toNatClampNeg := ⟨_, rfl⟩
  obtain ⟨a4, ea4⟩ : ∃ y : Int32, y = xs (4 : Int32).toNatClampNeg := ⟨_, rfl⟩
  obtain ⟨a5, ea5⟩ : ∃ y : Int32, y = xs (5 : Int32).toNatClampNeg := ⟨_, rfl⟩
  refine lv_aload_n hx hb dL_law_1060 rfl (lv_at hl 2 rfl) ?_
  refine lv_aload_n hx hb dL_law_1061 rfl (lv_at hl 3 rfl) ?_
  refine lv_iload_n hx hb dL_law_1062 rfl (lv_at hl 0 rfl) ?_
  refine lv_iconst (v := 1) hx hb dL_law_1063 (by decide) ?_
  refine lv_iadd hx hb dL_law_1064 ?_
  refine lv_topi (fun z_1 ez_1 => ?_)
  obtain rfl : z_1 = 1 := ez_1.trans (by decide)
  refine va_sld hx hb hX hbl hbA hS (vp_in_iff.mpr ⟨by decide, by decide⟩) dL_law_1065 ?_
  refine lv_topi (fun z_2 ez_2 => ?_)
  obtain rfl : a1 = z_2 := ea1.trans ez_2.symm
  refine lv_aload_n hx hb dL_law_1066 rfl (lv_at hl 3 rfl) ?_
  refine lv_iload_n hx hb dL_law_1067 rfl (lv_at hl 0 rfl) ?_
  refine lv_iconst (v := 2) hx hb dL_law_1068 (by decide) ?_
  refine lv_iadd hx hb dL_law_1069 ?_
  refine lv_topi (fun z_3 ez_3 => ?_)
  obtain rfl : z_3 = 2 := ez_3.trans (by decide)
  refine va_sld hx hb hX hbl hbA hS (vp_in_iff.mpr ⟨by decide, by decide⟩) dL_law_1070 ?_
  refine lv_topi (fun z_4 ez_4 => ?_)
  obtain rfl : a2 = z_4 := ea2.trans ez_4.symm
  have hPc := hP.sub (ws' := [(x0, .inr (6, [.ref tp, .int 0, .int 0, .int (-1), .ref rd, .ref gd, .ref im, .ref rw, .ref gn, .ref ho, .ref sq])), (gd, .inr (0, [.ref pl, .int 0, .long 0, .long 0, .int 0, .int (-1), .int 0, .ref gdt, .int 0, .ref gdu, .int 0, .ref gdn])), (pl, .inr (3, [.int 0, .int 0, .int 0, .int 0, .long 0, .ref plf, .ref plo, .ref plb, .ref pla]))]) [0, 1, 2] rfl
  have hDc := hD.sub (ws' := [(x0, .inr (6, [.ref tp, .int 0, .int 0, .int (-1), .ref rd, .ref gd, .ref im, .ref rw, .ref gn, .ref ho, .ref sq])), (gd, .inr (0, [.ref pl, .int 0, .long 0, .long 0, .int 0, .int (-1), .int 0, .ref gdt, .int 0, .ref gdu, .int 0, .ref gdn])), (pl, .inr (3, [.int 0, .int 0, .int 0, .int 0, .long 0, .ref plf, .ref plo, .ref plb, .ref pla]))]) [0, 1, 2] (by decide) rfl
  have hKc := hK.sub (tys' := []) [] rfl
  have hFc := va_free (wc := [(x0, .inr (6, [.ref tp, .int 0, .int 0, .int (-1), .ref rd, .ref gd, .ref im, .ref rw, .ref gn, .ref ho, .ref sq])), (gd, .inr (0, [.ref pl, .int 0, .long 0, .long 0, .int 0, .int (-1), .int 0, .ref gdt, .int 0, .ref gdu, .int 0, .ref gdn])), (pl, .inr (3, [.int 0, .int 0, .int 0, .int 0, .long 0, .ref plf, .ref plo, .ref plb, .ref pla]))]) hD hS hA [0, 1, 2] rfl
  refine va_calli (va_runV (As := [.int a1, .int a2]) (rest := []) ⟨hx, hb, hml, hown, hts⟩ (c_X6_goes l dC dI H.size x0 tp rd gd im rw gn ho sq pl gdt gdu gdn plf plo plb pla a1 a2 ) (cwV 2 hts g_law_X6_goes rfl rfl rfl (by decide +kernel) ⟨Nat.le_of_ble_eq_true rfl, Nat.le_of_ble_eq_true rfl⟩) ⟨fun a U g mk q => by obtain ⟨q0, q1, qP, qK, qD⟩ := q; exact ⟨q0, q1, qP, va_K.moved (u := U) (U := U.calling g mk a) (Vm.Alike.refl U.vm) qK, qD⟩, va_recv hKc hPc (ci := 6) (q0 := 0) rfl rfl, fun U hU hW => ⟨rfl, by rw [hU], by rw [hU]; exact hPc, va_K.moved hW.alike hKc, hDc.weaken (fun _ _ _ _ => trivial)⟩⟩ rfl rfl hl.1 rfl (lv_room (Nat.le_of_ble_eq_true rfl)) dL_law_1071 ⟨Nat.le_of_ble_eq_true rfl, Nat.le_of_ble_eq_true rfl⟩) hS (fun q _ h => hFc q h) hFc (fun r_5 u t H1 locs ht hvm hw_6 hB hz1 hk1 hS => ?_)
  have hP1 : va_P (dC, dI) vwCl [] H1 := i_nilP
  have hD1 : va_D (va_A [(x0, .inr (6, [.ref tp, .int 0, .int 0, .int (-1), .ref rd, .ref gd, .ref im, .ref rw, .ref gn, .ref ho, .ref sq])), (gd, .inr (0, [.ref pl, .int 0, .long 0, .long 0, .int 0, .int (-1), .int 0, .ref gdt, .int 0, .ref gdu, .int 0, .ref gdn])), (pl, .inr (3, [.int 0, .int 0, .int 0, .int 0, .long 0, .ref plf, .ref plo, .ref plb, .ref pla]))] H.size) [] := i_nilD
  try dsimp only at hw_6
  obtain ⟨hP, hD⟩ := va_join (wr := [(m0, .inr (7, [.int 0, .ref m_width, .ref m_many, .ref m_cells, .ref m_moved, .ref m_tape, .int 0, .int 0, .int 0, .int 0, .int 0, .long 0, .int 0, .int 0, .int 0, .int (-1), .ref m_lines, .ref m_has, .ref m_state, .ref m_gate, .ref m_guest, .ref m_gone, .int 0, .ref m_isKept, .ref m_first, .ref m_second, .int 0, .ref m_far, .ref m_wished, .ref m_wasState, .ref m_isHere, .ref m_round, .ref m_bestRound, .int 0, .int 0, .long 0, .long 0, .ref m_taken, .int 0])), (m_lines, .inl (k_lines, 5, .inl (fun _ => 0))), (m_has, .inl (k_has, 45, .inl (fun _ => 0)))]) (w1 := []) hP hD [0, 1, 2] [3, 4, 5] rfl rfl (by decide) (by decide) hk1 hFc hP1 hD1
  generalize H1 = H at hP hS ⊢
  have hP : va_P (dC, dI) vwCl [(m0, .inr (7, [.int 0, .ref m_width, .ref m_many, .ref m_cells, .ref m_moved, .ref m_tape, .int 0, .int 0, .int 0, .int 0, .int 0, .long 0, .int 0, .int 0, .int 0, .int (-1), .ref m_lines, .ref m_has, .ref m_state, .ref m_gate, .ref m_guest, .ref m_gone, .int 0, .ref m_isKept, .ref m_first, .ref m_second, .int 0, .ref m_far, .ref m_wished, .ref m_wasState, .ref m_isHere, .ref m_round, .ref m_bestRound, .int 0, .int 0, .long 0, .long 0, .ref m_taken, .int 0])), (m_lines, .inl (k_lines, 5, .inl (fun _ => 0))), (m_has, .inl (k_has, 45, .inl (fun _ => 0)))] H := hP
  have hD : va_D A [(m0, .inr (7, [.int 0, .ref m_width, .ref m_many, .ref m_cells, .ref m_moved, .ref m_tape, .int 0, .int 0, .int 0, .int 0, .int 0, .long 0, .int 0, .int 0, .int 0, .int (-1), .ref m_lines, .ref m_has, .ref m_state, .ref m_gate, .ref m_guest, .ref m_gone, .int 0, .ref m_isKept, .ref m_first, .ref m_second, .int 0, .ref m_far, .ref m_wished, .ref m_wasState, .ref m_isHere, .ref m_round, .ref m_bestRound, .int 0, .int 0, .long 0, .long 0, .ref m_taken, .int 0])), (m_lines, .inl (k_lines, 5, .inl (fun _ => 0))), (m_has, .inl (k_has, 45, .inl (fun _ => 0)))] := hD
  obtain rfl : r_5 = -2 := hw_6
  refine lv_aload_n hx hb dL_law_1074 rfl (lv_at hl 1 rfl) ?_
  refine lv_aload_n hx hb dL_law_1075 rfl (lv_at hl 3 rfl) ?_
  refine lv_iload_n hx hb dL_law_1076 rfl (lv_at hl 0 rfl) ?_
  refine lv_iconst (v := 1) hx hb dL_law_1077 (by decide) ?_
  refine lv_iadd hx hb dL_law_1078 ?_
  refine lv_topi (fun z_7 ez_7 => ?_)
  obtain rfl : z_7 = 1 := ez_7.trans (by decide)
  refine va_sld hx hb hX hbl hbA hS (vp_in_iff.mpr ⟨by decide, by decide⟩) dL_law_1079 ?_
  refine lv_topi (fun z_8 ez_8 => ?_)
  obtain rfl : a1 = z_8 := ea1.trans ez_8.symm
  refine lv_aload_n hx hb dL_law_1080 rfl (lv_at hl 3 rfl) ?_
  refine lv_iload_n hx hb dL_law_1081 rfl (lv_at hl 0 rfl) ?_
  refine lv_iconst (v := 2) hx hb dL_law_1082 (by decide) ?_
  refine lv_iadd hx hb dL_law_1083 ?_
  refine lv_topi (fun z_9 ez_9 => ?_)
  obtain rfl : z_9 = 2 := ez_9.trans (by decide)
  refine va_sld hx hb hX hbl hbA hS (vp_in_iff.mpr ⟨by decide, by decide⟩) dL_law_1084 ?_
  refine lv_topi (fun z_10 ez_10 => ?_)
  obtain rfl : a2 = z_10 := ea2.trans ez_10.symm
  have hPc := hP.sub (ws' := [(m0, .inr (7, [.int 0, .ref m_width, .ref m_many, .ref m_cells, .ref m_moved, .ref m_tape, .int 0, .int 0, .int 0, .int 0, .int 0, .long 0, .int 0, .int 0, .int 0, .int (-1), .ref m_lines, .ref m_has, .ref m_state, .ref m_gate, .ref m_guest, .ref m_gone, .int 0, .ref m_isKept, .ref m_first, .ref m_second, .int 0, .ref m_far, .ref m_wished, .ref m_wasState, .ref m_isHere, .ref m_round, .ref m_bestRound, .int 0, .int 0, .long 0, .long 0, .ref m_taken, .int 0])), (m_lines, .inl (k_lines, 5, .inl (fun _ => 0))), (m_has, .inl (k_has, 45, .inl (fun _ => 0)))]) [0, 1, 2] rfl
  have hDc := hD.sub (ws' := [(m0, .inr (7, [.int 0, .ref m_width, .ref m_many, .ref m_cells, .ref m_moved, .ref m_tape, .int 0, .int 0, .int 0, .int 0, .int 0, .long 0, .int 0, .int 0, .int 0, .int (-1), .ref m_lines, .ref m_has, .ref m_state, .ref m_gate, .ref m_guest, .ref m_gone, .int 0, .ref m_isKept, .ref m_first, .ref m_second, .int 0, .ref m_far, .ref m_wished, .ref m_wasState, .ref m_isHere, .ref m_round, .ref m_bestRound, .int 0, .int 0, .long 0, .long 0, .ref m_taken, .int 0])), (m_lines, .inl (k_lines, 5, .inl (fun _ => 0))), (m_has, .inl (k_has, 45, .inl (fun _ => 0)))]) [0, 1, 2] (by decide) rfl
  have hKc := hK.sub (tys' := [(k_lines, .int), (k_has, .int)]) [0, 1] rfl
  have hFc := va_free (wc := [(m0, .inr (7, [.int 0, .ref m_width, .ref m_many, .ref m_cells, .ref m_moved, .ref m_tape, .int 0, .int 0, .int 0, .int 0, .int 0, .long 0, .int 0, .int 0, .int 0, .int (-1), .ref m_lines, .ref m_has, .ref m_state, .ref m_gate, .ref m_guest, .ref m_gone, .int 0, .ref m_isKept, .ref m_first, .ref m_second, .int 0, .ref m_far, .ref m_wished, .ref m_wasState, .ref m_isHere, .ref m_round, .ref m_bestRound, .int 0, .int 0, .long 0, .long 0, .ref m_taken, .int 0])), (m_lines, .inl (k_lines, 5, .inl (fun _ => 0))), (m_has, .inl (k_has, 45, .inl (fun _ => 0)))]) hD hS hA [0, 1, 2] rfl
  refine va_calli (va_runV (As := [.int a1, .int a2]) (rest := [.int (-2)]) ⟨hx, hb, hml, hown, hts⟩ (c_X7_goes l dC dI H.size m0 m_width m_many m_cells m_moved m_tape m_lines m_has m_state m_gate m_guest m_gone m_isKept m_first m_second m_far m_wished m_wasState m_isHere m_round m_bestRound m_taken k_lines k_has a1 a2 ) (cwV 2 hts g_law_X7_goes rfl rfl rfl (by decide +kernel) ⟨Nat.le_of_ble_eq_true rfl, Nat.le_of_ble_eq_true rfl⟩) ⟨fun a U g mk q => by obtain ⟨q0, q1, qP, qK, qD⟩ := q; exact ⟨q0, q1, qP, va_K.moved (u := U) (U := U.calling g mk a) (Vm.Alike.refl U.vm) qK, qD⟩, va_recv hKc hPc (ci := 7) (q0 := 0) rfl rfl, fun U hU hW => ⟨rfl, by rw [hU], by rw [hU]; exact hPc, va_K.moved hW.alike hKc, hDc.weaken (fun _ _ _ _ => trivial)⟩⟩ rfl rfl hl.1 rfl (lv_room (Nat.le_of_ble_eq_true rfl)) dL_law_1085 ⟨Nat.le_of_ble_eq_true rfl, Nat.le_of_ble_eq_true rfl⟩) hS (fun q _ h => hFc q h) hFc (fun r_11 u t H1 locs ht hvm hw_12 hB hz1 hk1 hS => ?_)
  have hP1 : va_P (dC, dI) vwCl [] H1 := i_nilP
  have hD1 : va_D (va_A [(m0, .inr (7, [.int 0, .ref m_width, .ref m_many, .ref m_cells, .ref m_moved, .ref m_tape, .int 0, .int 0, .int 0, .int 0, .int 0, .long 0, .int 0, .int 0, .int 0, .int (-1), .ref m_lines, .ref m_has, .ref m_state, .ref m_gate, .ref m_guest, .ref m_gone, .int 0, .ref m_isKept, .ref m_first, .ref m_second, .int 0, .ref m_far, .ref m_wished, .ref m_wasState, .ref m_isHere, .ref m_round, .ref m_bestRound, .int 0, .int 0, .long 0, .long 0, .ref m_taken, .int 0])), (m_lines, .inl (k_lines, 5, .inl (fun _ => 0))), (m_has, .inl (k_has, 45, .inl (fun _ => 0)))] H.size) [] := i_nilD
  try dsimp only at hw_12
  obtain ⟨hP, hD⟩ := va_join (wr := []) (w1 := []) hP hD [0, 1, 2] [] rfl rfl (by decide) (by decide) hk1 hFc hP1 hD1
  generalize H1 = H at hP hS ⊢
  have hP : va_P (dC, dI) vwCl [] H := hP
  have hD : va_D A [] := hD
  obtain rfl : r_11 = -2 := hw_12
  refine lv_icmp_eq (tgt := 1569) hx hb dL_law_1088 (by decide) (fun _ => ?_) (fun h => absurd (by decide) h)
  refine lv_iinc (v := 6) (lv' := [(3, .int 6), (2, .ref m0), (1, .ref x0), (0, .ref b)]) hx hb dL_law_1569 hl (k := 0) rfl (by decide) (by decide) rfl (fun ls hl => ?_)
  refine lv_goto (tgt := 18) hx hb dL_law_1572 (by decide) ?_
  exact law_exit C0 hA2 hS (lv_sub hl [0, 3] rfl) (by decide) (by omega) (by omega)

set_option maxHeartbeats 4000000 in
set_option maxRecDepth 100000 in
/-- the law, its call 31: walk -/
theorem law_31 {p : Program} {e : Env} {s : State} {m : MethodId} {below : List Frame} {meth : Method} {c : Code} (l : Launch) {b : Nat} {xs : Nat → Int32} (C0 : lw_At p s m meth c b 6 xs) {A : Nat → Prop} (hA : ∀ q, s.heap.size ≤ q → A q) (hA2 : ∀ q, A q → s.heap.size ≤ q) {x0 : Nat} {tp : Nat} {rd : Nat} {gd : Nat} {im : Nat} {rw : Nat} {gn : Nat} {ho : Nat} {sq : Nat} {pl : Nat} {gdt : Nat} {gdu : Nat} {gdn : Nat} {plf : Nat} {plo : Nat} {plb : Nat} {pla : Nat} {m0 : Nat} {m_width : Nat} {m_many : Nat} {m_cells : Nat} {m_moved : Nat} {m_tape : Nat} {m_lines : Nat} {m_has : Nat} {m_state : Nat} {m_gate : Nat} {m_guest : Nat} {m_gone : Nat} {m_isKept : Nat} {m_first : Nat} {m_second : Nat} {m_far : Nat} {m_wished : Nat} {m_wasState : Nat} {m_isHere : Nat} {m_round : Nat} {m_bestRound : Nat} {m_taken : Nat} {k_lines : ClassId} {k_has : ClassId} (hE0 : Kx s) {dC : Nat → ClassId} {dI : Nat → Nat → Nat} (hK : va_K (dC, dI) vwCl [(k_lines, .int), (k_has, .int)] s) {H : Heap} {locs : List Loc} (hP : va_P (dC, dI) vwCl [(x0, .inr (6, [.ref tp, .int 0, .int 0, .int (-1), .ref rd, .ref gd, .ref im, .ref rw, .ref gn, .ref ho, .ref sq])), (gd, .inr (0, [.ref pl, .int 0, .long 0, .long 0, .int 0, .int (-1), .int 0, .ref gdt, .int 0, .ref gdu, .int 0, .ref gdn])), (pl, .inr (3, [.int 0, .int 0, .int 0, .int 0, .long 0, .ref plf, .ref plo, .ref plb, .ref pla])), (m0, .inr (7, [.int 0, .ref m_width, .ref m_many, .ref m_cells, .ref m_moved, .ref m_tape, .int 0, .int 0, .int 0, .int 0, .int 0, .long 0, .int 0, .int 0, .int 0, .int (-1), .ref m_lines, .ref m_has, .ref m_state, .ref m_gate, .ref m_guest, .ref m_gone, .int 0, .ref m_isKept, .ref m_first, .ref m_second, .int 0, .ref m_far, .ref m_wished, .ref m_wasState, .ref m_isHere, .ref m_round, .ref m_bestRound, .int 0, .int 0, .long 0, .long 0, .ref m_taken, .int 0])), (m_lines, .inl (k_lines, 5, .inl (fun _ => 0))), (m_has, .inl (k_has, 45, .inl (fun _ => 0)))] H) (hD : va_D A [(x0, .inr (6, [.ref tp, .int 0, .int 0, .int (-1), .ref rd, .ref gd, .ref im, .ref rw, .ref gn, .ref ho, .ref sq])), (gd, .inr (0, [.ref pl, .int 0, .long 0, .long 0, .int 0, .int (-1), .int 0, .ref gdt, .int 0, .ref gdu, .int 0, .ref gdn])), (pl, .inr (3, [.int 0, .int 0, .int 0, .int 0, .long 0, .ref plf, .ref plo, .ref plb, .ref pla])), (m0, .inr (7, [.int 0, .ref m_width, .ref m_many, .ref m_cells, .ref m_moved, .ref m_tape, .int 0, .int 0, .int 0, .int 0, .int 0, .long 0, .int 0, .int 0, .int 0, .int (-1), .ref m_lines, .ref m_has, .ref m_state, .ref m_gate, .ref m_guest, .ref m_gone, .int 0, .ref m_isKept, .ref m_first, .ref m_second, .int 0, .ref m_far, .ref m_wished, .ref m_wasState, .ref m_isHere, .ref m_round, .ref m_bestRound, .int 0, .int 0, .long 0, .long 0, .ref m_taken, .int 0])), (m_lines, .inl (k_lines, 5, .inl (fun _ => 0))), (m_has, .inl (k_has, 45, .inl (fun _ => 0)))]) (hS : va_S A s.heap H locs) {ls : Array Slot} (hl : lv_has ls 4 [(3, .int 0), (2, .ref m0), (1, .ref x0), (0, .ref b)]) : W p l e room_1 s m #[Value.ref b] below meth c H locs 70 7203 (lw_Z below #[Value.ref b] s) (F0 m 1093 ls []) := by
  obtain ⟨hx, hb, hr, hml, hown, hts, hX, hbl, hlocks, hgv⟩ := id C0
  have hown : s.vm.findClass RL = some m.cls := hown
  have hts := fun w (h : w ∈ wz_law) => hts w (wz_law_in w h)
  have hbA : ¬ A b := fun h => absurd (hA2 b h) (Nat.not_le.mpr hbl)
  obtain ⟨a0, ea0⟩ : ∃ y : Int32, y = xs (0 : Int32).toNatClampNeg := ⟨_, rfl⟩
  obtain ⟨a1, ea1⟩ : ∃ y : Int32, y = xs (1 : Int32).toNatClampNeg := ⟨_, rfl⟩
  obtain ⟨a2, ea2⟩ : ∃ y : Int32, y = xs (2 : Int32).toNatClampNeg := ⟨_, rfl⟩
  obtain ⟨a3, ea3⟩ : ∃ y : Int32, y = xs (3 : Int32).toNatClampNeg := ⟨_, rfl⟩
  obtain ⟨a4, ea4⟩ : ∃ y : Int32, y = xs (4 : Int32).toNatClampNeg := ⟨_, rfl⟩
  obtain ⟨a5, ea5⟩ : ∃ y : Int32, y = xs (5 : Int32).toNatClampNeg := ⟨_, rfl⟩
  refine lv_aload_n hx hb dL_law_1093 rfl (lv_at hl 2 rfl) ?_
  refine lv_aload_n hx hb dL_law_1094 rfl (lv_at hl 3 rfl) ?_
  refine lv_iload_n hx hb dL_law_1095 rfl (lv_at hl 0 rfl) ?_
  refine lv_iconst (v := 1) hx hb dL_law_1096 (by decide) ?_
  refine lv_iadd hx hb dL_law_1097 ?_
  refine lv_topi (fun z_1 ez_1 => ?_)
  obtain rfl : z_1 = 1 := ez_1.trans (by decide)
  refine va_sld hx hb hX hbl hbA hS (vp_in_iff.mpr ⟨by decide, by decide⟩) dL_law_1098 ?_
  refine lv_topi (fun z_2 ez_2 => ?_)
  obtain rfl : a1 = z_2 := ea1.trans ez_2.symm
  refine lv_aload_n hx hb dL_law_1099 rfl (lv_at hl 3 rfl) ?_
  refine lv_iload_n hx hb dL_law_1100 rfl (lv_at hl 0 rfl) ?_
  refine lv_iconst (v := 2) hx hb dL_law_1101 (by decide) ?_
  refine lv_iadd hx hb dL_law_1102 ?_
  refine lv_topi (fun z_3 ez_3 => ?_)
  obtain rfl : z_3 = 2 := ez_3.trans (by decide)
  refine va_sld hx hb hX hbl hbA hS (vp_in_iff.mpr ⟨by decide, by decide⟩) dL_law_1103 ?_
  refine lv_topi (fun z_4 ez_4 => ?_)
  obtain rfl : a2 = z_4 := ea2.trans ez_4.symm
  have hPc := hP.sub (ws' := [(x0, .inr (6, [.ref tp, .int 0, .int 0, .int (-1), .ref rd, .ref gd, .ref im, .ref rw, .ref gn, .ref ho, .ref sq])), (gd, .inr (0, [.ref pl, .int 0, .long 0, .long 0, .int 0, .int (-1), .int 0, .ref gdt, .int 0, .ref gdu, .int 0, .ref gdn])), (pl, .inr (3, [.int 0, .int 0, .int 0, .int 0, .long 0, .ref plf, .ref plo, .ref plb, .ref pla]))]) [0, 1, 2] rfl
  have hDc := hD.sub (ws' := [(x0, .inr (6, [.ref tp, .int 0, .int 0, .int (-1), .ref rd, .ref gd, .ref im, .ref rw, .ref gn, .ref ho, .ref sq])), (gd, .inr (0, [.ref pl, .int 0, .long 0, .long 0, .int 0, .int (-1), .int 0, .ref gdt, .int 0, .ref gdu, .int 0, .ref gdn])), (pl, .inr (3, [.int 0, .int 0, .int 0, .int 0, .long 0, .ref plf, .ref plo, .ref plb, .ref pla]))]) [0, 1, 2] (by decide) rfl
  have hKc := hK.sub (tys' := []) [] rfl
  have hFc := va_free (wc := [(x0, .inr (6, [.ref tp, .int 0, .int 0, .int (-1), .ref rd, .ref gd, .ref im, .ref rw, .ref gn, .ref ho, .ref sq])), (gd, .inr (0, [.ref pl, .int 0, .long 0, .long 0, .int 0, .int (-1), .int 0, .ref gdt, .int 0, .ref gdu, .int 0, .ref gdn])), (pl, .inr (3, [.int 0, .int 0, .int 0, .int 0, .long 0, .ref plf, .ref plo, .ref plb, .ref pla]))]) hD hS hA [0, 1, 2] rfl
  refine va_calli (va_runV (As := [.int a1, .int a2]) (rest := []) ⟨hx, hb, hml, hown, hts⟩ (c_X6_walk l dC dI H.size x0 tp rd gd im rw gn ho sq pl gdt gdu gdn plf plo plb pla a1 a2 ) (cwV 2 hts g_law_X6_walk rfl rfl rfl (by decide +kernel) ⟨Nat.le_of_ble_eq_true rfl, Nat.le_of_ble_eq_true rfl⟩) ⟨fun a U g mk q => by obtain ⟨q0, q1, qP, qK, qD⟩ := q; exact ⟨q0, q1, qP, va_K.moved (u := U) (U := U.calling g mk a) (Vm.Alike.refl U.vm) qK, qD⟩, va_recv hKc hPc (ci := 6) (q0 := 0) rfl rfl, fun U hU hW => ⟨rfl, by rw [hU], by rw [hU]; exact hPc, va_K.moved hW.alike hKc, hDc.weaken (fun _ _ _ _ => trivial)⟩⟩ rfl rfl hl.1 rfl (lv_room (Nat.le_of_ble_eq_true rfl)) dL_law_1104 ⟨Nat.le_of_ble_eq_true rfl, Nat.le_of_ble_eq_true rfl⟩) hS (fun q _ h => hFc q h) hFc (fun r_5 u t H1 locs ht hvm hw_6 hB hz1 hk1 hS => ?_)
  have hP1 : va_P (dC, dI) vwCl [] H1 := i_nilP
  have hD1 : va_D (va_A [(x0, .inr (6, [.ref tp, .int 0, .int 0, .int (-1), .ref rd, .ref gd, .ref im, .ref rw, .ref gn, .ref ho, .ref sq])), (gd, .inr (0, [.ref pl, .int 0, .long 0, .long 0, .int 0, .int (-1), .int 0, .ref gdt, .int 0, .ref gdu, .int 0, .ref gdn])), (pl, .inr (3, [.int 0, .int 0, .int 0, .int 0, .long 0, .ref plf, .ref plo, .ref plb, .ref pla]))] H.size) [] := i_nilD
  try dsimp only at hw_6
  obtain ⟨hP, hD⟩ := va_join (wr := [(m0, .inr (7, [.int 0, .ref m_width, .ref m_many, .ref m_cells, .ref m_moved, .ref m_tape, .int 0, .int 0, .int 0, .int 0, .int 0, .long 0, .int 0, .int 0, .int 0, .int (-1), .ref m_lines, .ref m_has, .ref m_state, .ref m_gate, .ref m_guest, .ref m_gone, .int 0, .ref m_isKept, .ref m_first, .ref m_second, .int 0, .ref m_far, .ref m_wished, .ref m_wasState, .ref m_isHere, .ref m_round, .ref m_bestRound, .int 0, .int 0, .long 0, .long 0, .ref m_taken, .int 0])), (m_lines, .inl (k_lines, 5, .inl (fun _ => 0))), (m_has, .inl (k_has, 45, .inl (fun _ => 0)))]) (w1 := []) hP hD [0, 1, 2] [3, 4, 5] rfl rfl (by decide) (by decide) hk1 hFc hP1 hD1
  generalize H1 = H at hP hS ⊢
  have hP : va_P (dC, dI) vwCl [(m0, .inr (7, [.int 0, .ref m_width, .ref m_many, .ref m_cells, .ref m_moved, .ref m_tape, .int 0, .int 0, .int 0, .int 0, .int 0, .long 0, .int 0, .int 0, .int 0, .int (-1), .ref m_lines, .ref m_has, .ref m_state, .ref m_gate, .ref m_guest, .ref m_gone, .int 0, .ref m_isKept, .ref m_first, .ref m_second, .int 0, .ref m_far, .ref m_wished, .ref m_wasState, .ref m_isHere, .ref m_round, .ref m_bestRound, .int 0, .int 0, .long 0, .long 0, .ref m_taken, .int 0])), (m_lines, .inl (k_lines, 5, .inl (fun _ => 0))), (m_has, .inl (k_has, 45, .inl (fun _ => 0)))] H := hP
  have hD : va_D A [(m0, .inr (7, [.int 0, .ref m_width, .ref m_many, .ref m_cells, .ref m_moved, .ref m_tape, .int 0, .int 0, .int 0, .int 0, .int 0, .long 0, .int 0, .int 0, .int 0, .int (-1), .ref m_lines, .ref m_has, .ref m_state, .ref m_gate, .ref m_guest, .ref m_gone, .int 0, .ref m_isKept, .ref m_first, .ref m_second, .int 0, .ref m_far, .ref m_wished, .ref m_wasState, .ref m_isHere, .ref m_round, .ref m_bestRound, .int 0, .int 0, .long 0, .long 0, .ref m_taken, .int 0])), (m_lines, .inl (k_lines, 5, .inl (fun _ => 0))), (m_has, .inl (k_has, 45, .inl (fun _ => 0)))] := hD
  obtain rfl : r_5 = -2 := hw_6
  refine lv_aload_n hx hb dL_law_1107 rfl (lv_at hl 1 rfl) ?_
  refine lv_aload_n hx hb dL_law_1108 rfl (lv_at hl 3 rfl) ?_
  refine lv_iload_n hx hb dL_law_1109 rfl (lv_at hl 0 rfl) ?_
  refine lv_iconst (v := 1) hx hb dL_law_1110 (by decide) ?_
  refine lv_iadd hx hb dL_law_1111 ?_
  refine lv_topi (fun z_7 ez_7 => ?_)
  obtain rfl : z_7 = 1 := ez_7.trans (by decide)
  refine va_sld hx hb hX hbl hbA hS (vp_in_iff.mpr ⟨by decide, by decide⟩) dL_law_1112 ?_
  refine lv_topi (fun z_8 ez_8 => ?_)
  obtain rfl : a1 = z_8 := ea1.trans ez_8.symm
  refine lv_aload_n hx hb dL_law_1113 rfl (lv_at hl 3 rfl) ?_
  refine lv_iload_n hx hb dL_law_1114 rfl (lv_at hl 0 rfl) ?_
  refine lv_iconst (v := 2) hx hb dL_law_1115 (by decide) ?_
  refine lv_iadd hx hb dL_law_1116 ?_
  refine lv_topi (fun z_9 ez_9 => ?_)
  obtain rfl : z_9 = 2 := ez_9.trans (by decide)
  refine va_sld hx hb hX hbl hbA hS (vp_in_iff.mpr ⟨by decide, by decide⟩) dL_law_1117 ?_
  refine lv_topi (fun z_10 ez_10 => ?_)
  obtain rfl : a2 = z_10 := ea2.trans ez_10.symm
  have hPc := hP.sub (ws' := [(m0, .inr (7, [.int 0, .ref m_width, .ref m_many, .ref m_cells, .ref m_moved, .ref m_tape, .int 0, .int 0, .int 0, .int 0, .int 0, .long 0, .int 0, .int 0, .int 0, .int (-1), .ref m_lines, .ref m_has, .ref m_state, .ref m_gate, .ref m_guest, .ref m_gone, .int 0, .ref m_isKept, .ref m_first, .ref m_second, .int 0, .ref m_far, .ref m_wished, .ref m_wasState, .ref m_isHere, .ref m_round, .ref m_bestRound, .int 0, .int 0, .long 0, .long 0, .ref m_taken, .int 0])), (m_lines, .inl (k_lines, 5, .inl (fun _ => 0))), (m_has, .inl (k_has, 45, .inl (fun _ => 0)))]) [0, 1, 2] rfl
  have hDc := hD.sub (ws' := [(m0, .inr (7, [.int 0, .ref m_width, .ref m_many, .ref m_cells, .ref m_moved, .ref m_tape, .int 0, .int 0, .int 0, .int 0, .int 0, .long 0, .int 0, .int 0, .int 0, .int (-1), .ref m_lines, .ref m_has, .ref m_state, .ref m_gate, .ref m_guest, .ref m_gone, .int 0, .ref m_isKept, .ref m_first, .ref m_second, .int 0, .ref m_far, .ref m_wished, .ref m_wasState, .ref m_isHere, .ref m_round, .ref m_bestRound, .int 0, .int 0, .long 0, .long 0, .ref m_taken, .int 0])), (m_lines, .inl (k_lines, 5, .inl (fun _ => 0))), (m_has, .inl (k_has, 45, .inl (fun _ => 0)))]) [0, 1, 2] (by decide) rfl
  have hKc := hK.sub (tys' := [(k_lines, .int), (k_has, .int)]) [0, 1] rfl
  have hFc := va_free (wc := [(m0, .inr (7, [.int 0, .ref m_width, .ref m_many, .ref m_cells, .ref m_moved, .ref m_tape, .int 0, .int 0, .int 0, .int 0, .int 0, .long 0, .int 0, .int 0, .int 0, .int (-1), .ref m_lines, .ref m_has, .ref m_state, .ref m_gate, .ref m_guest, .ref m_gone, .int 0, .ref m_isKept, .ref m_first, .ref m_second, .int 0, .ref m_far, .ref m_wished, .ref m_wasState, .ref m_isHere, .ref m_round, .ref m_bestRound, .int 0, .int 0, .long 0, .long 0, .ref m_taken, .int 0])), (m_lines, .inl (k_lines, 5, .inl (fun _ => 0))), (m_has, .inl (k_has, 45, .inl (fun _ => 0)))]) hD hS hA [0, 1, 2] rfl
  refine va_calli (va_runV (As := [.int a1, .int a2]) (rest := [.int (-2)]) ⟨hx, hb, hml, hown, hts⟩ (c_X7_walk l dC dI H.size m0 m_width m_many m_cells m_moved m_tape m_lines m_has m_state m_gate m_guest m_gone m_isKept m_first m_second m_far m_wished m_wasState m_isHere m_round m_bestRound m_taken k_lines k_has a1 a2 ) (cwV 2 hts g_law_X7_walk rfl rfl rfl (by decide +kernel) ⟨Nat.le_of_ble_eq_true rfl, Nat.le_of_ble_eq_true rfl⟩) ⟨fun a U g mk q => by obtain ⟨q0, q1, qP, qK, qD⟩ := q; exact ⟨q0, q1, qP, va_K.moved (u := U) (U := U.calling g mk a) (Vm.Alike.refl U.vm) qK, qD⟩, va_recv hKc hPc (ci := 7) (q0 := 0) rfl rfl, fun U hU hW => ⟨rfl, by rw [hU], by rw [hU]; exact hPc, va_K.moved hW.alike hKc, hDc.weaken (fun _ _ _ _ => trivial)⟩⟩ rfl rfl hl.1 rfl (lv_room (Nat.le_of_ble_eq_true rfl)) dL_law_1118 ⟨Nat.le_of_ble_eq_true rfl, Nat.le_of_ble_eq_true rfl⟩) hS (fun q _ h => hFc q h) hFc (fun r_11 u t H1 locs ht hvm hw_12 hB hz1 hk1 hS => ?_)
  have hP1 : va_P (dC, dI) vwCl [] H1 := i_nilP
  have hD1 : va_D (va_A [(m0, .inr (7, [.int 0, .ref m_width, .ref m_many, .ref m_cells, .ref m_moved, .ref m_tape, .int 0, .int 0, .int 0, .int 0, .int 0, .long 0, .int 0, .int 0, .int 0, .int (-1), .ref m_lines, .ref m_has, .ref m_state, .ref m_gate, .ref m_guest, .ref m_gone, .int 0, .ref m_isKept, .ref m_first, .ref m_second, .int 0, .ref m_far, .ref m_wished, .ref m_wasState, .ref m_isHere, .ref m_round, .ref m_bestRound, .int 0, .int 0, .long 0, .long 0, .ref m_taken, .int 0])), (m_lines, .inl (k_lines, 5, .inl (fun _ => 0))), (m_has, .inl (k_has, 45, .inl (fun _ => 0)))] H.size) [] := i_nilD
  try dsimp only at hw_12
  obtain ⟨hP, hD⟩ := va_join (wr := []) (w1 := []) hP hD [0, 1, 2] [] rfl rfl (by decide) (by decide) hk1 hFc hP1 hD1
  generalize H1 = H at hP hS ⊢
  have hP : va_P (dC, dI) vwCl [] H := hP
  have hD : va_D A [] := hD
  obtain rfl : r_11 = -2 := hw_12
  refine lv_icmp_eq (tgt := 1569) hx hb dL_law_1121 (by decide) (fun _ => ?_) (fun h => absurd (by decide) h)
  refine lv_iinc (v := 6) (lv' := [(3, .int 6), (2, .ref m0), (1, .ref x0), (0, .ref b)]) hx hb dL_law_1569 hl (k := 0) rfl (by decide) (by decide) rfl (fun ls hl => ?_)
  refine lv_goto (tgt := 18) hx hb dL_law_1572 (by decide) ?_
  exact law_exit C0 hA2 hS (lv_sub hl [0, 3] rfl) (by decide) (by omega) (by omega)

set_option maxHeartbeats 4000000 in
set_option maxRecDepth 100000 in
/-- the law, its call 32: ends -/
theorem law_32 {p : Program} {e : Env} {s : State} {m : MethodId} {below : List Frame} {meth : Method} {c : Code} (l : Launch) {b : Nat} {xs : Nat → Int32} (C0 : lw_At p s m meth c b 6 xs) {A : Nat → Prop} (hA : ∀ q, s.heap.size ≤ q → A q) (hA2 : ∀ q, A q → s.heap.size ≤ q) {x0 : Nat} {tp : Nat} {rd : Nat} {gd : Nat} {im : Nat} {rw : Nat} {gn : Nat} {ho : Nat} {sq : Nat} {pl : Nat} {gdt : Nat} {gdu : Nat} {gdn : Nat} {plf : Nat} {plo : Nat} {plb : Nat} {pla : Nat} {m0 : Nat} {m_width : Nat} {m_many : Nat} {m_cells : Nat} {m_moved : Nat} {m_tape : Nat} {m_lines : Nat} {m_has : Nat} {m_state : Nat} {m_gate : Nat} {m_guest : Nat} {m_gone : Nat} {m_isKept : Nat} {m_first : Nat} {m_second : Nat} {m_far : Nat} {m_wished : Nat} {m_wasState : Nat} {m_isHere : Nat} {m_round : Nat} {m_bestRound : Nat} {m_taken : Nat} {k_lines : ClassId} {k_has : ClassId} (hE0 : Kx s) {dC : Nat → ClassId} {dI : Nat → Nat → Nat} (hK : va_K (dC, dI) vwCl [(k_lines, .int), (k_has, .int)] s) {H : Heap} {locs : List Loc} (hP : va_P (dC, dI) vwCl [(x0, .inr (6, [.ref tp, .int 0, .int 0, .int (-1), .ref rd, .ref gd, .ref im, .ref rw, .ref gn, .ref ho, .ref sq])), (gd, .inr (0, [.ref pl, .int 0, .long 0, .long 0, .int 0, .int (-1), .int 0, .ref gdt, .int 0, .ref gdu, .int 0, .ref gdn])), (pl, .inr (3, [.int 0, .int 0, .int 0, .int 0, .long 0, .ref plf, .ref plo, .ref plb, .ref pla])), (m0, .inr (7, [.int 0, .ref m_width, .ref m_many, .ref m_cells, .ref m_moved, .ref m_tape, .int 0, .int 0, .int 0, .int 0, .int 0, .long 0, .int 0, .int 0, .int 0, .int (-1), .ref m_lines, .ref m_has, .ref m_state, .ref m_gate, .ref m_guest, .ref m_gone, .int 0, .ref m_isKept, .ref m_first, .ref m_second, .int 0, .ref m_far, .ref m_wished, .ref m_wasState, .ref m_isHere, .ref m_round, .ref m_bestRound, .int 0, .int 0, .long 0, .long 0, .ref m_taken, .int 0])), (m_lines, .inl (k_lines, 5, .inl (fun _ => 0))), (m_has, .inl (k_has, 45, .inl (fun _ => 0)))] H) (hD : va_D A [(x0, .inr (6, [.ref tp, .int 0, .int 0, .int (-1), .ref rd, .ref gd, .ref im, .ref rw, .ref gn, .ref ho, .ref sq])), (gd, .inr (0, [.ref pl, .int 0, .long 0, .long 0, .int 0, .int (-1), .int 0, .ref gdt, .int 0, .ref gdu, .int 0, .ref gdn])), (pl, .inr (3, [.int 0, .int 0, .int 0, .int 0, .long 0, .ref plf, .ref plo, .ref plb, .ref pla])), (m0, .inr (7, [.int 0, .ref m_width, .ref m_many, .ref m_cells, .ref m_moved, .ref m_tape, .int 0, .int 0, .int 0, .int 0, .int 0, .long 0, .int 0, .int 0, .int 0, .int (-1), .ref m_lines, .ref m_has, .ref m_state, .ref m_gate, .ref m_guest, .ref m_gone, .int 0, .ref m_isKept, .ref m_first, .ref m_second, .int 0, .ref m_far, .ref m_wished, .ref m_wasState, .ref m_isHere, .ref m_round, .ref m_bestRound, .int 0, .int 0, .long 0, .long 0, .ref m_taken, .int 0])), (m_lines, .inl (k_lines, 5, .inl (fun _ => 0))), (m_has, .inl (k_has, 45, .inl (fun _ => 0)))]) (hS : va_S A s.heap H locs) {ls : Array Slot} (hl : lv_has ls 4 [(3, .int 0), (2, .ref m0), (1, .ref x0), (0, .ref b)]) : W p l e room_1 s m #[Value.ref b] below meth c H locs 70 7203 (lw_Z below #[Value.ref b] s) (F0 m 1126 ls []) := by
  obtain ⟨hx, hb, hr, hml, hown, hts, hX, hbl, hlocks, hgv⟩ := id C0
  have hown : s.vm.findClass RL = some m.cls := hown
  have hts := fun w (h : w ∈ wz_law) => hts w (wz_law_in w h)
  have hbA : ¬ A b := fun h => absurd (hA2 b h) (Nat.not_le.mpr hbl)
  obtain ⟨a0, ea0⟩ : ∃ y : Int32, y = xs (0 : Int32).toNatClampNeg := ⟨_, rfl⟩
  obtain ⟨a1, ea1⟩ : ∃ y : Int32, y = xs (1 : Int32).toNatClampNeg := ⟨_, rfl⟩
  obtain ⟨a2, ea2⟩ : ∃ y : Int32, y = xs (2 : Int32).toNatClampNeg := ⟨_, rfl⟩
  obtain ⟨a3, ea3⟩ : ∃ y : Int32, y = xs (3 : Int32).toNatClampNeg := ⟨_, rfl⟩
  obtain ⟨a4, ea4⟩ : ∃ y : Int32, y = xs (4 : Int32).toNatClampNeg := ⟨_, rfl⟩
  obtain ⟨a5, ea5⟩ : ∃ y : Int32, y = xs (5 : Int32).toNatClampNeg := ⟨_, rfl⟩
  refine lv_aload_n hx hb dL_law_1126 rfl (lv_at hl 2 rfl) ?_
  refine lv_aload_n hx hb dL_law_1127 rfl (lv_at hl 3 rfl) ?_
  refine lv_iload_n hx hb dL_law_1128 rfl (lv_at hl 0 rfl) ?_
  refine lv_iconst (v := 1) hx hb dL_law_1129 (by decide) ?_
  refine lv_iadd hx hb dL_law_1130 ?_
  refine lv_topi (fun z_1 ez_1 => ?_)
  obtain rfl : z_1 = 1 := ez_1.trans (by decide)
  refine va_sld hx hb hX hbl hbA hS (vp_in_iff.mpr ⟨by decide, by decide⟩) dL_law_1131 ?_
  refine lv_topi (fun z_2 ez_2 => ?_)
  obtain rfl : a1 = z_2 := ea1.trans ez_2.symm
  refine lv_aload_n hx hb dL_law_1132 rfl (lv_at hl 3 rfl) ?_
  refine lv_iload_n hx hb dL_law_1133 rfl (lv_at hl 0 rfl) ?_
  refine lv_iconst (v := 2) hx hb dL_law_1134 (by decide) ?_
  refine lv_iadd hx hb dL_law_1135 ?_
  refine lv_topi (fun z_3 ez_3 => ?_)
  obtain rfl : z_3 = 2 := ez_3.trans (by decide)
  refine va_sld hx hb hX hbl hbA hS (vp_in_iff.mpr ⟨by decide, by decide⟩) dL_law_1136 ?_
  refine lv_topi (fun z_4 ez_4 => ?_)
  obtain rfl : a2 = z_4 := ea2.trans ez_4.symm
  have hPc := hP.sub (ws' := [(x0, .inr (6, [.ref tp, .int 0, .int 0, .int (-1), .ref rd, .ref gd, .ref im, .ref rw, .ref gn, .ref ho, .ref sq])), (gd, .inr (0, [.ref pl, .int 0, .long 0, .long 0, .int 0, .int (-1), .int 0, .ref gdt, .int 0, .ref gdu, .int 0, .ref gdn])), (pl, .inr (3, [.int 0, .int 0, .int 0, .int 0, .long 0, .ref plf, .ref plo, .ref plb, .ref pla]))]) [0, 1, 2] rfl
  have hDc := hD.sub (ws' := [(x0, .inr (6, [.ref tp, .int 0, .int 0, .int (-1), .ref rd, .ref gd, .ref im, .ref rw, .ref gn, .ref ho, .ref sq])), (gd, .inr (0, [.ref pl, .int 0, .long 0, .long 0, .int 0, .int (-1), .int 0, .ref gdt, .int 0, .ref gdu, .int 0, .ref gdn])), (pl, .inr (3, [.int 0, .int 0, .int 0, .int 0, .long 0, .ref plf, .ref plo, .ref plb, .ref pla]))]) [0, 1, 2] (by decide) rfl
  have hKc := hK.sub (tys' := []) [] rfl
  have hFc := va_free (wc := [(x0, .inr (6, [.ref tp, .int 0, .int 0, .int (-1), .ref rd, .ref gd, .ref im, .ref rw, .ref gn, .ref ho, .ref sq])), (gd, .inr (0, [.ref pl, .int 0, .long 0, .long 0, .int 0, .int (-1), .int 0, .ref gdt, .int 0, .ref gdu, .int 0, .ref gdn])), (pl, .inr (3, [.int 0, .int 0, .int 0, .int 0, .long 0, .ref plf, .ref plo, .ref plb, .ref pla]))]) hD hS hA [0, 1, 2] rfl
  refine va_calli (va_runV (As := [.int a1, .int a2]) (rest := []) ⟨hx, hb, hml, hown, hts⟩ (c_X6_ends l dC dI H.size x0 tp rd gd im rw gn ho sq pl gdt gdu gdn plf plo plb pla a1 a2 ) (cwV 2 hts g_law_X6_ends rfl rfl rfl (by decide +kernel) ⟨Nat.le_of_ble_eq_true rfl, Nat.le_of_ble_eq_true rfl⟩) ⟨fun a U g mk q => by obtain ⟨q0, q1, qP, qK, qD⟩ := q; exact ⟨q0, q1, qP, va_K.moved (u := U) (U := U.calling g mk a) (Vm.Alike.refl U.vm) qK, qD⟩, va_recv hKc hPc (ci := 6) (q0 := 0) rfl rfl, fun U hU hW => ⟨rfl, by rw [hU], by rw [hU]; exact hPc, va_K.moved hW.alike hKc, hDc.weaken (fun _ _ _ _ => trivial)⟩⟩ rfl rfl hl.1 rfl (lv_room (Nat.le_of_ble_eq_true rfl)) dL_law_1137 ⟨Nat.le_of_ble_eq_true rfl, Nat.le_of_ble_eq_true rfl⟩) hS (fun q _ h => hFc q h) hFc (fun r_5 u t H1 locs ht hvm hw_6 hB hz1 hk1 hS => ?_)
  have hP1 : va_P (dC, dI) vwCl [] H1 := i_nilP
  have hD1 : va_D (va_A [(x0, .inr (6, [.ref tp, .int 0, .int 0, .int (-1), .ref rd, .ref gd, .ref im, .ref rw, .ref gn, .ref ho, .ref sq])), (gd, .inr (0, [.ref pl, .int 0, .long 0, .long 0, .int 0, .int (-1), .int 0, .ref gdt, .int 0, .ref gdu, .int 0, .ref gdn])), (pl, .inr (3, [.int 0, .int 0, .int 0, .int 0, .long 0, .ref plf, .ref plo, .ref plb, .ref pla]))] H.size) [] := i_nilD
  try dsimp only at hw_6
  obtain ⟨hP, hD⟩ := va_join (wr := [(m0, .inr (7, [.int 0, .ref m_width, .ref m_many, .ref m_cells, .ref m_moved, .ref m_tape, .int 0, .int 0, .int 0, .int 0, .int 0, .long 0, .int 0, .int 0, .int 0, .int (-1), .ref m_lines, .ref m_has, .ref m_state, .ref m_gate, .ref m_guest, .ref m_gone, .int 0, .ref m_isKept, .ref m_first, .ref m_second, .int 0, .ref m_far, .ref m_wished, .ref m_wasState, .ref m_isHere, .ref m_round, .ref m_bestRound, .int 0, .int 0, .long 0, .long 0, .ref m_taken, .int 0])), (m_lines, .inl (k_lines, 5, .inl (fun _ => 0))), (m_has, .inl (k_has, 45, .inl (fun _ => 0)))]) (w1 := []) hP hD [0, 1, 2] [3, 4, 5] rfl rfl (by decide) (by decide) hk1 hFc hP1 hD1
  generalize H1 = H at hP hS ⊢
  have hP : va_P (dC, dI) vwCl [(m0, .inr (7, [.int 0, .ref m_width, .ref m_many, .ref m_cells, .ref m_moved, .ref m_tape, .int 0, .int 0, .int 0, .int 0, .int 0, .long 0, .int 0, .int 0, .int 0, .int (-1), .ref m_lines, .ref m_has, .ref m_state, .ref m_gate, .ref m_guest, .ref m_gone, .int 0, .ref m_isKept, .ref m_first, .ref m_second, .int 0, .ref m_far, .ref m_wished, .ref m_wasState, .ref m_isHere, .ref m_round, .ref m_bestRound, .int 0, .int 0, .long 0, .long 0, .ref m_taken, .int 0])), (m_lines, .inl (k_lines, 5, .inl (fun _ => 0))), (m_has, .inl (k_has, 45, .inl (fun _ => 0)))] H := hP
  have hD : va_D A [(m0, .inr (7, [.int 0, .ref m_width, .ref m_many, .ref m_cells, .ref m_moved, .ref m_tape, .int 0, .int 0, .int 0, .int 0, .int 0, .long 0, .int 0, .int 0, .int 0, .int (-1), .ref m_lines, .ref m_has, .ref m_state, .ref m_gate, .ref m_guest, .ref m_gone, .int 0, .ref m_isKept, .ref m_first, .ref m_second, .int 0, .ref m_far, .ref m_wished, .ref m_wasState, .ref m_isHere, .ref m_round, .ref m_bestRound, .int 0, .int 0, .long 0, .long 0, .ref m_taken, .int 0])), (m_lines, .inl (k_lines, 5, .inl (fun _ => 0))), (m_has, .inl (k_has, 45, .inl (fun _ => 0)))] := hD
  obtain rfl : r_5 = -2 := hw_6
  refine lv_aload_n hx hb dL_law_1140 rfl (lv_at hl 1 rfl) ?_
  refine lv_aload_n hx hb dL_law_1141 rfl (lv_at hl 3 rfl) ?_
  refine lv_iload_n hx hb dL_law_1142 rfl (lv_at hl 0 rfl) ?_
  refine lv_iconst (v := 1) hx hb dL_law_1143 (by decide) ?_
  refine lv_iadd hx hb dL_law_1144 ?_
  refine lv_topi (fun z_7 ez_7 => ?_)
  obtain rfl : z_7 = 1 := ez_7.trans (by decide)
  refine va_sld hx hb hX hbl hbA hS (vp_in_iff.mpr ⟨by decide, by decide⟩) dL_law_1145 ?_
  refine lv_topi (fun z_8 ez_8 => ?_)
  obtain rfl : a1 = z_8 := ea1.trans ez_8.symm
  refine lv_aload_n hx hb dL_law_1146 rfl (lv_at hl 3 rfl) ?_
  refine lv_iload_n hx hb dL_law_1147 rfl (lv_at hl 0 rfl) ?_
  refine lv_iconst (v := 2) hx hb dL_law_1148 (by decide) ?_
  refine lv_iadd hx hb dL_law_1149 ?_
  refine lv_topi (fun z_9 ez_9 => ?_)
  obtain rfl : z_9 = 2 := ez_9.trans (by decide)
  refine va_sld hx hb hX hbl hbA hS (vp_in_iff.mpr ⟨by decide, by decide⟩) dL_law_1150 ?_
  refine lv_topi (fun z_10 ez_10 => ?_)
  obtain rfl : a2 = z_10 := ea2.trans ez_10.symm
  have hPc := hP.sub (ws' := [(m0, .inr (7, [.int 0, .ref m_width, .ref m_many, .ref m_cells, .ref m_moved, .ref m_tape, .int 0, .int 0, .int 0, .int 0, .int 0, .long 0, .int 0, .int 0, .int 0, .int (-1), .ref m_lines, .ref m_has, .ref m_state, .ref m_gate, .ref m_guest, .ref m_gone, .int 0, .ref m_isKept, .ref m_first, .ref m_second, .int 0, .ref m_far, .ref m_wished, .ref m_wasState, .ref m_isHere, .ref m_round, .ref m_bestRound, .int 0, .int 0, .long 0, .long 0, .ref m_taken, .int 0])), (m_lines, .inl (k_lines, 5, .inl (fun _ => 0))), (m_has, .inl (k_has, 45, .inl (fun _ => 0)))]) [0, 1, 2] rfl
  have hDc := hD.sub (ws' := [(m0, .inr (7, [.int 0, .ref m_width, .ref m_many, .ref m_cells, .ref m_moved, .ref m_tape, .int 0, .int 0, .int 0, .int 0, .int 0, .long 0, .int 0, .int 0, .int 0, .int (-1), .ref m_lines, .ref m_has, .ref m_state, .ref m_gate, .ref m_guest, .ref m_gone, .int 0, .ref m_isKept, .ref m_first, .ref m_second, .int 0, .ref m_far, .ref m_wished, .ref m_wasState, .ref m_isHere, .ref m_round, .ref m_bestRound, .int 0, .int 0, .long 0, .long 0, .ref m_taken, .int 0])), (m_lines, .inl (k_lines, 5, .inl (fun _ => 0))), (m_has, .inl (k_has, 45, .inl (fun _ => 0)))]) [0, 1, 2] (by decide) rfl
  have hKc := hK.sub (tys' := [(k_lines, .int), (k_has, .int)]) [0, 1] rfl
  have hFc := va_free (wc := [(m0, .inr (7, [.int 0, .ref m_width, .ref m_many, .ref m_cells, .ref m_moved, .ref m_tape, .int 0, .int 0, .int 0, .int 0, .int 0, .long 0, .int 0, .int 0, .int 0, .int (-1), .ref m_lines, .ref m_has, .ref m_state, .ref m_gate, .ref m_guest, .ref m_gone, .int 0, .ref m_isKept, .ref m_first, .ref m_second, .int 0, .ref m_far, .ref m_wished, .ref m_wasState, .ref m_isHere, .ref m_round, .ref m_bestRound, .int 0, .int 0, .long 0, .long 0, .ref m_taken, .int 0])), (m_lines, .inl (k_lines, 5, .inl (fun _ => 0))), (m_has, .inl (k_has, 45, .inl (fun _ => 0)))]) hD hS hA [0, 1, 2] rfl
  refine va_calli (va_runV (As := [.int a1, .int a2]) (rest := [.int (-2)]) ⟨hx, hb, hml, hown, hts⟩ (c_X7_ends_ l dC dI H.size m0 m_width m_many m_cells m_moved m_tape m_lines m_has m_state m_gate m_guest m_gone m_isKept m_first m_second m_far m_wished m_wasState m_isHere m_round m_bestRound m_taken k_lines k_has a1 a2 ) (cwV 2 hts g_law_X7_ends_ rfl rfl rfl (by decide +kernel) ⟨Nat.le_of_ble_eq_true rfl, Nat.le_of_ble_eq_true rfl⟩) ⟨fun a U g mk q => by obtain ⟨q0, q1, qP, qK, qD⟩ := q; exact ⟨q0, q1, qP, va_K.moved (u := U) (U := U.calling g mk a) (Vm.Alike.refl U.vm) qK, qD⟩, va_recv hKc hPc (ci := 7) (q0 := 0) rfl rfl, fun U hU hW => ⟨rfl, by rw [hU], by rw [hU]; exact hPc, va_K.moved hW.alike hKc, hDc.weaken (fun _ _ _ _ => trivial)⟩⟩ rfl rfl hl.1 rfl (lv_room (Nat.le_of_ble_eq_true rfl)) dL_law_1151 ⟨Nat.le_of_ble_eq_true rfl, Nat.le_of_ble_eq_true rfl⟩) hS (fun q _ h => hFc q h) hFc (fun r_11 u t H1 locs ht hvm hw_12 hB hz1 hk1 hS => ?_)
  have hP1 : va_P (dC, dI) vwCl [] H1 := i_nilP
  have hD1 : va_D (va_A [(m0, .inr (7, [.int 0, .ref m_width, .ref m_many, .ref m_cells, .ref m_moved, .ref m_tape, .int 0, .int 0, .int 0, .int 0, .int 0, .long 0, .int 0, .int 0, .int 0, .int (-1), .ref m_lines, .ref m_has, .ref m_state, .ref m_gate, .ref m_guest, .ref m_gone, .int 0, .ref m_isKept, .ref m_first, .ref m_second, .int 0, .ref m_far, .ref m_wished, .ref m_wasState, .ref m_isHere, .ref m_round, .ref m_bestRound, .int 0, .int 0, .long 0, .long 0, .ref m_taken, .int 0])), (m_lines, .inl (k_lines, 5, .inl (fun _ => 0))), (m_has, .inl (k_has, 45, .inl (fun _ => 0)))] H.size) [] := i_nilD
  try dsimp only at hw_12
  obtain ⟨hP, hD⟩ := va_join (wr := []) (w1 := []) hP hD [0, 1, 2] [] rfl rfl (by decide) (by decide) hk1 hFc hP1 hD1
  generalize H1 = H at hP hS ⊢
  have hP : va_P (dC, dI) vwCl [] H := hP
  have hD : va_D A [] := hD
  obtain rfl : r_11 = -2 := hw_12
  refine lv_icmp_eq (tgt := 1569) hx hb dL_law_1154 (by decide) (fun _ => ?_) (fun h => absurd (by decide) h)
  refine lv_iinc (v := 6) (lv' := [(3, .int 6), (2, .ref m0), (1, .ref x0), (0, .ref b)]) hx hb dL_law_1569 hl (k := 0) rfl (by decide) (by decide) rfl (fun ls hl => ?_)
  refine lv_goto (tgt := 18) hx hb dL_law_1572 (by decide) ?_
  exact law_exit C0 hA2 hS (lv_sub hl [0, 3] rfl) (by decide) (by omega) (by omega)

set_option maxHeartbeats 4000000 in
set_option maxRecDepth 100000 in
/-- the law, its call 33: odd -/
theorem law_33 {p : Program} {e : Env} {s : State} {m : MethodId} {below : List Frame} {meth : Method} {c : Code} (l : Launch) {b : Nat} {xs : Nat → Int32} (C0 : lw_At p s m meth c b 6 xs) {A : Nat → Prop} (hA : ∀ q, s.heap.size ≤ q → A q) (hA2 : ∀ q, A q → s.heap.size ≤ q) {x0 : Nat} {tp : Nat} {rd : Nat} {gd : Nat} {im : Nat} {rw : Nat} {gn : Nat} {ho : Nat} {sq : Nat} {pl : Nat} {gdt : Nat} {gdu : Nat} {gdn : Nat} {plf : Nat} {plo : Nat} {plb : Nat} {pla : Nat} {m0 : Nat} {m_width : Nat} {m_many : Nat} {m_cells : Nat} {m_moved : Nat} {m_tape : Nat} {m_lines : Nat} {m_has : Nat} {m_state : Nat} {m_gate : Nat} {m_guest : Nat} {m_gone : Nat} {m_isKept : Nat} {m_first : Nat} {m_second : Nat} {m_far : Nat} {m_wished : Nat} {m_wasState : Nat} {m_isHere : Nat} {m_round : Nat} {m_bestRound : Nat} {m_taken : Nat} {k_lines : ClassId} {k_has : ClassId} (hE0 : Kx s) {dC : Nat → ClassId} {dI : Nat → Nat → Nat} (hK : va_K (dC, dI) vwCl [(k_lines, .int), (k_has, .int)] s) {H : Heap} {locs : List Loc} (hP : va_P (dC, dI) vwCl [(x0, .inr (6, [.ref tp, .int 0, .int 0, .int (-1), .ref rd, .ref gd, .ref im, .ref rw, .ref gn, .ref ho, .ref sq])), (gd, .inr (0, [.ref pl, .int 0, .long 0, .long 0, .int 0, .int (-1), .int 0, .ref gdt, .int 0, .ref gdu, .int 0, .ref gdn])), (pl, .inr (3, [.int 0, .int 0, .int 0, .int 0, .long 0, .ref plf, .ref plo, .ref plb, .ref pla])), (m0, .inr (7, [.int 0, .ref m_width, .ref m_many, .ref m_cells, .ref m_moved, .ref m_tape, .int 0, .int 0, .int 0, .int 0, .int 0, .long 0, .int 0, .int 0, .int 0, .int (-1), .ref m_lines, .ref m_has, .ref m_state, .ref m_gate, .ref m_guest, .ref m_gone, .int 0, .ref m_isKept, .ref m_first, .ref m_second, .int 0, .ref m_far, .ref m_wished, .ref m_wasState, .ref m_isHere, .ref m_round, .ref m_bestRound, .int 0, .int 0, .long 0, .long 0, .ref m_taken, .int 0])), (m_lines, .inl (k_lines, 5, .inl (fun _ => 0))), (m_has, .inl (k_has, 45, .inl (fun _ => 0)))] H) (hD : va_D A [(x0, .inr (6, [.ref tp, .int 0, .int 0, .int (-1), .ref rd, .ref gd, .ref im, .ref rw, .ref gn, .ref ho, .ref sq])), (gd, .inr (0, [.ref pl, .int 0, .long 0, .long 0, .int 0, .int (-1), .int 0, .ref gdt, .int 0, .ref gdu, .int 0, .ref gdn])), (pl, .inr (3, [.int 0, .int 0, .int 0, .int 0, .long 0, .ref plf, .ref plo, .ref plb, .ref pla])), (m0, .inr (7, [.int 0, .ref m_width, .ref m_many, .ref m_cells, .ref m_moved, .ref m_tape, .int 0, .int 0, .int 0, .int 0, .int 0, .long 0, .int 0, .int 0, .int 0, .int (-1), .ref m_lines, .ref m_has, .ref m_state, .ref m_gate, .ref m_guest, .ref m_gone, .int 0, .ref m_isKept, .ref m_first, .ref m_second, .int 0, .ref m_far, .ref m_wished, .ref m_wasState, .ref m_isHere, .ref m_round, .ref m_bestRound, .int 0, .int 0, .long 0, .long 0, .ref m_taken, .int 0])), (m_lines, .inl (k_lines, 5, .inl (fun _ => 0))), (m_has, .inl (k_has, 45, .inl (fun _ => 0)))]) (hS : va_S A s.heap H locs) {ls : Array Slot} (hl : lv_has ls 4 [(3, .int 0), (2, .ref m0), (1, .ref x0), (0, .ref b)]) : W p l e room_1 s m #[Value.ref b] below meth c H locs 70 7203 (lw_Z below #[Value.ref b] s) (F0 m 1159 ls []) := by
  obtain ⟨hx, hb, hr, hml, hown, hts, hX, hbl, hlocks, hgv⟩ := id C0
  have hown : s.vm.findClass RL = some m.cls := hown
  have hts := fun w (h : w ∈ wz_law) => hts w (wz_law_in w h)
  have hbA : ¬ A b := fun h => absurd (hA2 b h) (Nat.not_le.mpr hbl)
  obtain ⟨a0, ea0⟩ : ∃ y : Int32, y = xs (0 : Int32).toNatClampNeg := ⟨_, rfl⟩
  obtain ⟨a1, ea1⟩ : ∃ y : Int32, y = xs (1 : Int32).toNatClampNeg := ⟨_, rfl⟩
  obtain ⟨a2, ea2⟩ : ∃ y : Int32, y = xs (2 : Int32).toNatClampNeg := ⟨_, rfl⟩
  obtain ⟨a3, ea3⟩ : ∃ y : Int32, y = xs (3 : Int32).toNatClampNeg := ⟨_, rfl⟩
  obtain ⟨a4, ea4⟩ : ∃ y : Int32, y = xs (4 : Int32).toNatClampNeg := ⟨_, rfl⟩
  obtain ⟨a5, ea5⟩ : ∃ y : Int32, y = xs (5 : Int32).toNatClampNeg := ⟨_, rfl⟩
  refine lv_aload_n hx hb dL_law_1159 rfl (lv_at hl 2 rfl) ?_
  refine lv_aload_n hx hb dL_law_1160 rfl (lv_at hl 3 rfl) ?_
  refine lv_iload_n hx hb dL_law_1161 rfl (lv_at hl 0 rfl) ?_
  refine lv_iconst (v := 1) hx hb dL_law_1162 (by decide) ?_
  refine lv_iadd hx hb dL_law_1163 ?_
  refine lv_topi (fun z_1 ez_1 => ?_)
  obtain rfl : z_1 = 1 := ez_1.trans (by decide)
  refine va_sld hx hb hX hbl hbA hS (vp_in_iff.mpr ⟨by decide, by decide⟩) dL_law_1164 ?_
  refine lv_topi (fun z_2 ez_2 => ?_)
  obtain rfl : a1 = z_2 := ea1.trans ez_2.symm
  refine lv_aload_n hx hb dL_law_1165 rfl (lv_at hl 3 rfl) ?_
  refine lv_iload_n hx hb dL_law_1166 rfl (lv_at hl 0 rfl) ?_
  refine lv_iconst (v := 2) hx hb dL_law_1167 (by decide) ?_
  refine lv_iadd hx hb dL_law_1168 ?_
  refine lv_topi (fun z_3 ez_3 => ?_)
  obtain rfl : z_3 = 2 := ez_3.trans (by decide)
  refine va_sld hx hb hX hbl hbA hS (vp_in_iff.mpr ⟨by decide, by decide⟩) dL_law_1169 ?_
  refine lv_topi (fun z_4 ez_4 => ?_)
  obtain rfl : a2 = z_4 := ea2.trans ez_4.symm
  refine lv_aload_n hx hb dL_law_1170 rfl (lv_at hl 3 rfl) ?_
  refine lv_iload_n hx hb dL_law_1171 rfl (lv_at hl 0 rfl) ?_
  refine lv_iconst (v := 3) hx hb dL_law_1172 (by decide) ?_
  refine lv_iadd hx hb dL_law_1173 ?_
  refine lv_topi (fun z_5 ez_5 => ?_)
  obtain rfl : z_5 = 3 := ez_5.trans (by decide)
  refine va_sld hx hb hX hbl hbA hS (vp_in_iff.mpr ⟨by decide, by decide⟩) dL_law_1174 ?_
  refine lv_topi (fun z_6 ez_6 => ?_)
  obtain rfl : a3 = z_6 := ea3.trans ez_6.symm
  refine lv_aload_n hx hb dL_law_1175 rfl (lv_at hl 3 rfl) ?_
  refine lv_iload_n hx hb dL_law_1176 rfl (lv_at hl 0 rfl) ?_
  refine lv_iconst (v := 4) hx hb dL_law_1177 (by decide) ?_
  refine lv_iadd hx hb dL_law_1178 ?_
  refine lv_topi (fun z_7 ez_7 => ?_)
  obtain rfl : z_7 = 4 := ez_7.trans (by decide)
  refine va_sld hx hb hX hbl hbA hS (vp_in_iff.mpr ⟨by decide, by decide⟩) dL_law_1179 ?_
  refine lv_topi (fun z_8 ez_8 => ?_)
  obtain rfl : a4 = z_8 := ea4.trans ez_8.symm
  refine lv_aload_n hx hb dL_law_1180 rfl (lv_at hl 3 rfl) ?_
  refine lv_iload_n hx hb dL_law_1181 rfl (lv_at hl 0 rfl) ?_
  refine lv_iconst (v := 5) hx hb dL_law_1182 (by decide) ?_
  refine lv_iadd hx hb dL_law_1183 ?_
  refine lv_topi (fun z_9 ez_9 => ?_)
  obtain rfl : z_9 = 5 := ez_9.trans (by decide)
  refine va_sld hx hb hX hbl hbA hS (vp_in_iff.mpr ⟨by decide, by decide⟩) dL_law_1184 ?_
  refine lv_topi (fun z_10 ez_10 => ?_)
  obtain rfl : a5 = z_10 := ea5.trans ez_10.symm
  have hPc := hP.sub (ws' := [(x0, .inr (6, [.ref tp, .int 0, .int 0, .int (-1), .ref rd, .ref gd, .ref im, .ref rw, .ref gn, .ref ho, .ref sq])), (gd, .inr (0, [.ref pl, .int 0, .long 0, .long 0, .int 0, .int (-1), .int 0, .ref gdt, .int 0, .ref gdu, .int 0, .ref gdn])), (pl, .inr (3, [.int 0, .int 0, .int 0, .int 0, .long 0, .ref plf, .ref plo, .ref plb, .ref pla]))]) [0, 1, 2] rfl
  have hDc := hD.sub (ws' := [(x0, .inr (6, [.ref tp, .int 0, .int 0, .int (-1), .ref rd, .ref gd, .ref im, .ref rw, .ref gn, .ref ho, .ref sq])), (gd, .inr (0, [.ref pl, .int 0, .long 0, .long 0, .int 0, .int (-1), .int 0, .ref gdt, .int 0, .ref gdu, .int 0, .ref gdn])), (pl, .inr (3, [.int 0, .int 0, .int 0, .int 0, .long 0, .ref plf, .ref plo, .ref plb, .ref pla]))]) [0, 1, 2] (by decide) rfl
  have hKc := hK.sub (tys' := []) [] rfl
  have hFc := va_free (wc := [(x0, .inr (6, [.ref tp, .int 0, .int 0, .int (-1), .ref rd, .ref gd, .ref im, .ref rw, .ref gn, .ref ho, .ref sq])), (gd, .inr (0, [.ref pl, .int 0, .long 0, .long 0, .int 0, .int (-1), .int 0, .ref gdt, .int 0, .ref gdu, .int 0, .ref gdn])), (pl, .inr (3, [.int 0, .int 0, .int 0, .int 0, .long 0, .ref plf, .ref plo, .ref plb, .ref pla]))]) hD hS hA [0, 1, 2] rfl
  refine va_calli (va_runV (As := [.int a1, .int a2, .int a3, .int a4, .int a5]) (rest := []) ⟨hx, hb, hml, hown, hts⟩ (c_X6_odd l dC dI H.size x0 tp rd gd im rw gn ho sq pl gdt gdu gdn plf plo plb pla a1 a2 a3 a4 a5 ) (cwV 5 hts g_law_X6_odd rfl rfl rfl (by decide +kernel) ⟨Nat.le_of_ble_eq_true rfl, Nat.le_of_ble_eq_true rfl⟩) ⟨fun a U g mk q => by obtain ⟨q0, q1, qP, qK, qD⟩ := q; exact ⟨q0, q1, qP, va_K.moved (u := U) (U := U.calling g mk a) (Vm.Alike.refl U.vm) qK, qD⟩, va_recv hKc hPc (ci := 6) (q0 := 0) rfl rfl, fun U hU hW => ⟨rfl, by rw [hU], by rw [hU]; exact hPc, va_K.moved hW.alike hKc, hDc.weaken (fun _ _ _ _ => trivial)⟩⟩ rfl rfl hl.1 rfl (lv_room (Nat.le_of_ble_eq_true rfl)) dL_law_1185 ⟨Nat.le_of_ble_eq_true rfl, Nat.le_of_ble_eq_true rfl⟩) hS (fun q _ h => hFc q h) hFc (fun r_11 u t H1 locs ht hvm hw_12 hB hz1 hk1 hS => ?_)
  have hP1 : va_P (dC, dI) vwCl [] H1 := i_nilP
  have hD1 : va_D (va_A [(x0, .inr (6, [.ref tp, .int 0, .int 0, .int (-1), .ref rd, .ref gd, .ref im, .ref rw, .ref gn, .ref ho, .ref sq])), (gd, .inr (0, [.ref pl, .int 0, .long 0, .long 0, .int 0, .int (-1), .int 0, .ref gdt, .int 0, .ref gdu, .int 0, .ref gdn])), (pl, .inr (3, [.int 0, .int 0, .int 0, .int 0, .long 0, .ref plf, .ref plo, .ref plb, .ref pla]))] H.size) [] := i_nilD
  try dsimp only at hw_12
  obtain ⟨hP, hD⟩ := va_join (wr := [(m0, .inr (7, [.int 0, .ref m_width, .ref m_many, .ref m_cells, .ref m_moved, .ref m_tape, .int 0, .int 0, .int 0, .int 0, .int 0, .long 0, .int 0, .int 0, .int 0, .int (-1), .ref m_lines, .ref m_has, .ref m_state, .ref m_gate, .ref m_guest, .ref m_gone, .int 0, .ref m_isKept, .ref m_first, .ref m_second, .int 0, .ref m_far, .ref m_wished, .ref m_wasState, .ref m_isHere, .ref m_round, .ref m_bestRound, .int 0, .int 0, .long 0, .long 0, .ref m_taken, .int 0])), (m_lines, .inl (k_lines, 5, .inl (fun _ => 0))), (m_has, .inl (k_has, 45, .inl (fun _ => 0)))]) (w1 := []) hP hD [0, 1, 2] [3, 4, 5] rfl rfl (by decide) (by decide) hk1 hFc hP1 hD1
  generalize H1 = H at hP hS ⊢
  have hP : va_P (dC, dI) vwCl [(m0, .inr (7, [.int 0, .ref m_width, .ref m_many, .ref m_cells, .ref m_moved, .ref m_tape, .int 0, .int 0, .int 0, .int 0, .int 0, .long 0, .int 0, .int 0, .int 0, .int (-1), .ref m_lines, .ref m_has, .ref m_state, .ref m_gate, .ref m_guest, .ref m_gone, .int 0, .ref m_isKept, .ref m_first, .ref m_second, .int 0, .ref m_far, .ref m_wished, .ref m_wasState, .ref m_isHere, .ref m_round, .ref m_bestRound, .int 0, .int 0, .long 0, .long 0, .ref m_taken, .int 0])), (m_lines, .inl (k_lines, 5, .inl (fun _ => 0))), (m_has, .inl (k_has, 45, .inl (fun _ => 0)))] H := hP
  have hD : va_D A [(m0, .inr (7, [.int 0, .ref m_width, .ref m_many, .ref m_cells, .ref m_moved, .ref m_tape, .int 0, .int 0, .int 0, .int 0, .int 0, .long 0, .int 0, .int 0, .int 0, .int (-1), .ref m_lines, .ref m_has, .ref m_state, .ref m_gate, .ref m_guest, .ref m_gone, .int 0, .ref m_isKept, .ref m_first, .ref m_second, .int 0, .ref m_far, .ref m_wished, .ref m_wasState, .ref m_isHere, .ref m_round, .ref m_bestRound, .int 0, .int 0, .long 0, .long 0, .ref m_taken, .int 0])), (m_lines, .inl (k_lines, 5, .inl (fun _ => 0))), (m_has, .inl (k_has, 45, .inl (fun _ => 0)))] := hD
  obtain rfl : r_11 = -2 := hw_12
  refine lv_aload_n hx hb dL_law_1188 rfl (lv_at hl 1 rfl) ?_
  refine lv_aload_n hx hb dL_law_1189 rfl (lv_at hl 3 rfl) ?_
  refine lv_iload_n hx hb dL_law_1190 rfl (lv_at hl 0 rfl) ?_
  refine lv_iconst (v := 1) hx hb dL_law_1191 (by decide) ?_
  refine lv_iadd hx hb dL_law_1192 ?_
  refine lv_topi (fun z_13 ez_13 => ?_)
  obtain rfl : z_13 = 1 := ez_13.trans (by decide)
  refine va_sld hx hb hX hbl hbA hS (vp_in_iff.mpr ⟨by decide, by decide⟩) dL_law_1193 ?_
  refine lv_topi (fun z_14 ez_14 => ?_)
  obtain rfl : a1 = z_14 := ea1.trans ez_14.symm
  refine lv_aload_n hx hb dL_law_1194 rfl (lv_at hl 3 rfl) ?_
  refine lv_iload_n hx hb dL_law_1195 rfl (lv_at hl 0 rfl) ?_
  refine lv_iconst (v := 2) hx hb dL_law_1196 (by decide) ?_
  refine lv_iadd hx hb dL_law_1197 ?_
  refine lv_topi (fun z_15 ez_15 => ?_)
  obtain rfl : z_15 = 2 := ez_15.trans (by decide)
  refine va_sld hx hb hX hbl hbA hS (vp_in_iff.mpr ⟨by decide, by decide⟩) dL_law_1198 ?_
  refine lv_topi (fun z_16 ez_16 => ?_)
  obtain rfl : a2 = z_16 := ea2.trans ez_16.symm
  refine lv_aload_n hx hb dL_law_1199 rfl (lv_at hl 3 rfl) ?_
  refine lv_iload_n hx hb dL_law_1200 rfl (lv_at hl 0 rfl) ?_
  refine lv_iconst (v := 3) hx hb dL_law_1201 (by decide) ?_
  refine lv_iadd hx hb dL_law_1202 ?_
  refine lv_topi (fun z_17 ez_17 => ?_)
  obtain rfl : z_17 = 3 := ez_17.trans (by decide)
  refine va_sld hx hb hX hbl hbA hS (vp_in_iff.mpr ⟨by decide, by decide⟩) dL_law_1203 ?_
  refine lv_topi (fun z_18 ez_18 => ?_)
  obtain rfl : a3 = z_18 := ea3.trans ez_18.symm
  refine lv_aload_n hx hb dL_law_1204 rfl (lv_at hl 3 rfl) ?_
  refine lv_iload_n hx hb dL_law_1205 rfl (lv_at hl 0 rfl) ?_
  refine lv_iconst (v := 4) hx hb dL_law_1206 (by decide) ?_
  refine lv_iadd hx hb dL_law_1207 ?_
  refine lv_topi (fun z_19 ez_19 => ?_)
  obtain rfl : z_19 = 4 := ez_19.trans (by decide)
  refine va_sld hx hb hX hbl hbA hS (vp_in_iff.mpr ⟨by decide, by decide⟩) dL_law_1208 ?_
  refine lv_topi (fun z_20 ez_20 => ?_)
  obtain rfl : a4 = z_20 := ea4.trans ez_20.symm
  refine lv_aload_n hx hb dL_law_1209 rfl (lv_at hl 3 rfl) ?_
  refine lv_iload_n hx hb dL_law_1210 rfl (lv_at hl 0 rfl) ?_
  refine lv_iconst (v := 5) hx hb dL_law_1211 (by decide) ?_
  refine lv_iadd hx hb dL_law_1212 ?_
  refine lv_topi (fun z_21 ez_21 => ?_)
  obtain rfl : z_21 = 5 := ez_21.trans (by decide)
  refine va_sld hx hb hX hbl hbA hS (vp_in_iff.mpr ⟨by decide, by decide⟩) dL_law_1213 ?_
  refine lv_topi (fun z_22 ez_22 => ?_)
  obtain rfl : a5 = z_22 := ea5.trans ez_22.symm
  have hPc := hP.sub (ws' := [(m0, .inr (7, [.int 0, .ref m_width, .ref m_many, .ref m_cells, .ref m_moved, .ref m_tape, .int 0, .int 0, .int 0, .int 0, .int 0, .long 0, .int 0, .int 0, .int 0, .int (-1), .ref m_lines, .ref m_has, .ref m_state, .ref m_gate, .ref m_guest, .ref m_gone, .int 0, .ref m_isKept, .ref m_first, .ref m_second, .int 0, .ref m_far, .ref m_wished, .ref m_wasState, .ref m_isHere, .ref m_round, .ref m_bestRound, .int 0, .int 0, .long 0, .long 0, .ref m_taken, .int 0])), (m_lines, .inl (k_lines, 5, .inl (fun _ => 0))), (m_has, .inl (k_has, 45, .inl (fun _ => 0)))]) [0, 1, 2] rfl
  have hDc := hD.sub (ws' := [(m0, .inr (7, [.int 0, .ref m_width, .ref m_many, .ref m_cells, .ref m_moved, .ref m_tape, .int 0, .int 0, .int 0, .int 0, .int 0, .long 0, .int 0, .int 0, .int 0, .int (-1), .ref m_lines, .ref m_has, .ref m_state, .ref m_gate, .ref m_guest, .ref m_gone, .int 0, .ref m_isKept, .ref m_first, .ref m_second, .int 0, .ref m_far, .ref m_wished, .ref m_wasState, .ref m_isHere, .ref m_round, .ref m_bestRound, .int 0, .int 0, .long 0, .long 0, .ref m_taken, .int 0])), (m_lines, .inl (k_lines, 5, .inl (fun _ => 0))), (m_has, .inl (k_has, 45, .inl (fun _ => 0)))]) [0, 1, 2] (by decide) rfl
  have hKc := hK.sub (tys' := [(k_lines, .int), (k_has, .int)]) [0, 1] rfl
  have hFc := va_free (wc := [(m0, .inr (7, [.int 0, .ref m_width, .ref m_many, .ref m_cells, .ref m_moved, .ref m_tape, .int 0, .int 0, .int 0, .int 0, .int 0, .long 0, .int 0, .int 0, .int 0, .int (-1), .ref m_lines, .ref m_has, .ref m_state, .ref m_gate, .ref m_guest, .ref m_gone, .int 0, .ref m_isKept, .ref m_first, .ref m_second, .int 0, .ref m_far, .ref m_wished, .ref m_wasState, .ref m_isHere, .ref m_round, .ref m_bestRound, .int 0, .int 0, .long 0, .long 0, .ref m_taken, .int 0])), (m_lines, .inl (k_lines, 5, .inl (fun _ => 0))), (m_has, .inl (k_has, 45, .inl (fun _ => 0)))]) hD hS hA [0, 1, 2] rfl
  refine va_calli (va_runV (As := [.int a1, .int a2, .int a3, .int a4, .int a5]) (rest := [.int (-2)]) ⟨hx, hb, hml, hown, hts⟩ (c_X7_odd l dC dI H.size m0 m_width m_many m_cells m_moved m_tape m_lines m_has m_state m_gate m_guest m_gone m_isKept m_first m_second m_far m_wished m_wasState m_isHere m_round m_bestRound m_taken k_lines k_has a1 a2 a3 a4 a5 ) (cwV 5 hts g_law_X7_odd rfl rfl rfl (by decide +kernel) ⟨Nat.le_of_ble_eq_true rfl, Nat.le_of_ble_eq_true rfl⟩) ⟨fun a U g mk q => by obtain ⟨q0, q1, qP, qK, qD⟩ := q; exact ⟨q0, q1, qP, va_K.moved (u := U) (U := U.calling g mk a) (Vm.Alike.refl U.vm) qK, qD⟩, va_recv hKc hPc (ci := 7) (q0 := 0) rfl rfl, fun U hU hW => ⟨rfl, by rw [hU], by rw [hU]; exact hPc, va_K.moved hW.alike hKc, hDc.weaken (fun _ _ _ _ => trivial)⟩⟩ rfl rfl hl.1 rfl (lv_room (Nat.le_of_ble_eq_true rfl)) dL_law_1214 ⟨Nat.le_of_ble_eq_true rfl, Nat.le_of_ble_eq_true rfl⟩) hS (fun q _ h => hFc q h) hFc (fun r_23 u t H1 locs ht hvm hw_24 hB hz1 hk1 hS => ?_)
  have hP1 : va_P (dC, dI) vwCl [] H1 := i_nilP
  have hD1 : va_D (va_A [(m0, .inr (7, [.int 0, .ref m_width, .ref m_many, .ref m_cells, .ref m_moved, .ref m_tape, .int 0, .int 0, .int 0, .int 0, .int 0, .long 0, .int 0, .int 0, .int 0, .int (-1), .ref m_lines, .ref m_has, .ref m_state, .ref m_gate, .ref m_guest, .ref m_gone, .int 0, .ref m_isKept, .ref m_first, .ref m_second, .int 0, .ref m_far, .ref m_wished, .ref m_wasState, .ref m_isHere, .ref m_round, .ref m_bestRound, .int 0, .int 0, .long 0, .long 0, .ref m_taken, .int 0])), (m_lines, .inl (k_lines, 5, .inl (fun _ => 0))), (m_has, .inl (k_has, 45, .inl (fun _ => 0)))] H.size) [] := i_nilD
  try dsimp only at hw_24
  obtain ⟨hP, hD⟩ := va_join (wr := []) (w1 := []) hP hD [0, 1, 2] [] rfl rfl (by decide) (by decide) hk1 hFc hP1 hD1
  generalize H1 = H at hP hS ⊢
  have hP : va_P (dC, dI) vwCl [] H := hP
  have hD : va_D A [] := hD
  obtain rfl : r_23 = -2 := hw_24
  refine lv_icmp_eq (tgt := 1569) hx hb dL_law_1217 (by decide) (fun _ => ?_) (fun h => absurd (by decide) h)
  refine lv_iinc (v := 6) (lv' := [(3, .int 6), (2, .ref m0), (1, .ref x0), (0, .ref b)]) hx hb dL_law_1569 hl (k := 0) rfl (by decide) (by decide) rfl (fun ls hl => ?_)
  refine lv_goto (tgt := 18) hx hb dL_law_1572 (by decide) ?_
  exact law_exit C0 hA2 hS (lv_sub hl [0, 3] rfl) (by decide) (by omega) (by omega)

set_option maxHeartbeats 4000000 in
set_option maxRecDepth 100000 in
/-- the law, its call 34: openings -/
theorem law_34 {p : Program} {e : Env} {s : State} {m : MethodId} {below : List Frame} {meth : Method} {c : Code} (l : Launch) {b : Nat} {xs : Nat → Int32} (C0 : lw_At p s m meth c b 6 xs) {A : Nat → Prop} (hA : ∀ q, s.heap.size ≤ q → A q) (hA2 : ∀ q, A q → s.heap.size ≤ q) {x0 : Nat} {tp : Nat} {rd : Nat} {gd : Nat} {im : Nat} {rw : Nat} {gn : Nat} {ho : Nat} {sq : Nat} {pl : Nat} {gdt : Nat} {gdu : Nat} {gdn : Nat} {plf : Nat} {plo : Nat} {plb : Nat} {pla : Nat} {m0 : Nat} {m_width : Nat} {m_many : Nat} {m_cells : Nat} {m_moved : Nat} {m_tape : Nat} {m_lines : Nat} {m_has : Nat} {m_state : Nat} {m_gate : Nat} {m_guest : Nat} {m_gone : Nat} {m_isKept : Nat} {m_first : Nat} {m_second : Nat} {m_far : Nat} {m_wished : Nat} {m_wasState : Nat} {m_isHere : Nat} {m_round : Nat} {m_bestRound : Nat} {m_taken : Nat} {k_lines : ClassId} {k_has : ClassId} (hE0 : Kx s) {dC : Nat → ClassId} {dI : Nat → Nat → Nat} (hK : va_K (dC, dI) vwCl [(k_lines, .int), (k_has, .int)] s) {H : Heap} {locs : List Loc} (hP : va_P (dC, dI) vwCl [(x0, .inr (6, [.ref tp, .int 0, .int 0, .int (-1), .ref rd, .ref gd, .ref im, .ref rw, .ref gn, .ref ho, .ref sq])), (gd, .inr (0, [.ref pl, .int 0, .long 0, .long 0, .int 0, .int (-1), .int 0, .ref gdt, .int 0, .ref gdu, .int 0, .ref gdn])), (pl, .inr (3, [.int 0, .int 0, .int 0, .int 0, .long 0, .ref plf, .ref plo, .ref plb, .ref pla])), (m0, .inr (7, [.int 0, .ref m_width, .ref m_many, .ref m_cells, .ref m_moved, .ref m_tape, .int 0, .int 0, .int 0, .int 0, .int 0, .long 0, .int 0, .int 0, .int 0, .int (-1), .ref m_lines, .ref m_has, .ref m_state, .ref m_gate, .ref m_guest, .ref m_gone, .int 0, .ref m_isKept, .ref m_first, .ref m_second, .int 0, .ref m_far, .ref m_wished, .ref m_wasState, .ref m_isHere, .ref m_round, .ref m_bestRound, .int 0, .int 0, .long 0, .long 0, .ref m_taken, .int 0])), (m_lines, .inl (k_lines, 5, .inl (fun _ => 0))), (m_has, .inl (k_has, 45, .inl (fun _ => 0)))] H) (hD : va_D A [(x0, .inr (6, [.ref tp, .int 0, .int 0, .int (-1), .ref rd, .ref gd, .ref im, .ref rw, .ref gn, .ref ho, .ref sq])), (gd, .inr (0, [.ref pl, .int 0, .long 0, .long 0, .int 0, .int (-1), .int 0, .ref gdt, .int 0, .ref gdu, .int 0, .ref gdn])), (pl, .inr (3, [.int 0, .int 0, .int 0, .int 0, .long 0, .ref plf, .ref plo, .ref plb, .ref pla])), (m0, .inr (7, [.int 0, .ref m_width, .ref m_many, .ref m_cells, .ref m_moved, .ref m_tape, .int 0, .int 0, .int 0, .int 0, .int 0, .long 0, .int 0, .int 0, .int 0, .int (-1), .ref m_lines, .ref m_has, .ref m_state, .ref m_gate, .ref m_guest, .ref m_gone, .int 0, .ref m_isKept, .ref m_first, .ref m_second, .int 0, .ref m_far, .ref m_wished, .ref m_wasState, .ref m_isHere, .ref m_round, .ref m_bestRound, .int 0, .int 0, .long 0, .long 0, .ref m_taken, .int 0])), (m_lines, .inl (k_lines, 5, .inl (fun _ => 0))), (m_has, .inl (k_has, 45, .inl (fun _ => 0)))]) (hS : va_S A s.heap H locs) {ls : Array Slot} (hl : lv_has ls 4 [(3, .int 0), (2, .ref m0), (1, .ref x0), (0, .ref b)]) : W p l e room_1 s m #[Value.ref b] below meth c H locs 70 7203 (lw_Z below #[Value.ref b] s) (F0 m 1222 ls []) := by
  obtain ⟨hx, hb, hr, hml, hown, hts, hX, hbl, hlocks, hgv⟩ := id C0
  have hown : s.vm.findClass RL = some m.cls := hown
  have hts := fun w (h : w ∈ wz_law) => hts w (wz_law_in w h)
  have hbA : ¬ A b := fun h => absurd (hA2 b h) (Nat.not_le.mpr hbl)
  obtain ⟨a0, ea0⟩ : ∃ y : Int32, y = xs (0 : Int32).toNatClampNeg := ⟨_, rfl⟩
  obtain ⟨a1, ea1⟩ : ∃ y : Int32, y = xs (1 : Int32).toNatClampNeg := ⟨_, rfl⟩
  obtain ⟨a2, ea2⟩ : ∃ y : Int32, y = xs (2 : Int32).toNatClampNeg := ⟨_, rfl⟩
  obtain ⟨a3, ea3⟩ : ∃ y : Int32, y = xs (3 : Int32).toNatClampNeg := ⟨_, rfl⟩
  obtain ⟨a4, ea4⟩ : ∃ y : Int32, y = xs (4 : Int32).toNatClampNeg := ⟨_, rfl⟩
  obtain ⟨a5, ea5⟩ : ∃ y : Int32, y = xs (5 : Int32).toNatClampNeg := ⟨_, rfl⟩
  refine lv_aload_n hx hb dL_law_1222 rfl (lv_at hl 2 rfl) ?_
  refine lv_aload_n hx hb dL_law_1223 rfl (lv_at hl 3 rfl) ?_
  refine lv_iload_n hx hb dL_law_1224 rfl (lv_at hl 0 rfl) ?_
  refine lv_iconst (v := 1) hx hb dL_law_1225 (by decide) ?_
  refine lv_iadd hx hb dL_law_1226 ?_
  refine lv_topi (fun z_1 ez_1 => ?_)
  obtain rfl : z_1 = 1 := ez_1.trans (by decide)
  refine va_sld hx hb hX hbl hbA hS (vp_in_iff.mpr ⟨by decide, by decide⟩) dL_law_1227 ?_
  refine lv_topi (fun z_2 ez_2 => ?_)
  obtain rfl : a1 = z_2 := ea1.trans ez_2.symm
  have hPc := hP.sub (ws' := [(x0, .inr (6, [.ref tp, .int 0, .int 0, .int (-1), .ref rd, .ref gd, .ref im, .ref rw, .ref gn, .ref ho, .ref sq])), (gd, .inr (0, [.ref pl, .int 0, .long 0, .long 0, .int 0, .int (-1), .int 0, .ref gdt, .int 0, .ref gdu, .int 0, .ref gdn])), (pl, .inr (3, [.int 0, .int 0, .int 0, .int 0, .long 0, .ref plf, .ref plo, .ref plb, .ref pla]))]) [0, 1, 2] rfl
  have hDc := hD.sub (ws' := [(x0, .inr (6, [.ref tp, .int 0, .int 0, .int (-1), .ref rd, .ref gd, .ref im, .ref rw, .ref gn, .ref ho, .ref sq])), (gd, .inr (0, [.ref pl, .int 0, .long 0, .long 0, .int 0, .int (-1), .int 0, .ref gdt, .int 0, .ref gdu, .int 0, .ref gdn])), (pl, .inr (3, [.int 0, .int 0, .int 0, .int 0, .long 0, .ref plf, .ref plo, .ref plb, .ref pla]))]) [0, 1, 2] (by decide) rfl
  have hKc := hK.sub (tys' := []) [] rfl
  have hFc := va_free (wc := [(x0, .inr (6, [.ref tp, .int 0, .int 0, .int (-1), .ref rd, .ref gd, .ref im, .ref rw, .ref gn, .ref ho, .ref sq])), (gd, .inr (0, [.ref pl, .int 0, .long 0, .long 0, .int 0, .int (-1), .int 0, .ref gdt, .int 0, .ref gdu, .int 0, .ref gdn])), (pl, .inr (3, [.int 0, .int 0, .int 0, .int 0, .long 0, .ref plf, .ref plo, .ref plb, .ref pla]))]) hD hS hA [0, 1, 2] rfl
  refine va_calli (va_runV (As := [.int a1]) (rest := []) ⟨hx, hb, hml, hown, hts⟩ (c_X6_openings l dC dI H.size x0 tp rd gd im rw gn ho sq pl gdt gdu gdn plf plo plb pla a1 ) (cwV 1 hts g_law_X6_openings rfl rfl rfl (by decide +kernel) ⟨Nat.le_of_ble_eq_true rfl, Nat.le_of_ble_eq_true rfl⟩) ⟨fun a U g mk q => by obtain ⟨q0, q1, qP, qK, qD⟩ := q; exact ⟨q0, q1, qP, va_K.moved (u := U) (U := U.calling g mk a) (Vm.Alike.refl U.vm) qK, qD⟩, va_recv hKc hPc (ci := 6) (q0 := 0) rfl rfl, fun U hU hW => ⟨rfl, by rw [hU], by rw [hU]; exact hPc, va_K.moved hW.alike hKc, hDc.weaken (fun _ _ _ _ => trivial)⟩⟩ rfl rfl hl.1 rfl (lv_room (Nat.le_of_ble_eq_true rfl)) dL_law_1228 ⟨Nat.le_of_ble_eq_true rfl, Nat.le_of_ble_eq_true rfl⟩) hS (fun q _ h => hFc q h) hFc (fun r_3 u t H1 locs ht hvm hw_4 hB hz1 hk1 hS => ?_)
  have hP1 : va_P (dC, dI) vwCl [] H1 := i_nilP
  have hD1 : va_D (va_A [(x0, .inr (6, [.ref tp, .int 0, .int 0, .int (-1), .ref rd, .ref gd, .ref im, .ref rw, .ref gn, .ref ho, .ref sq])), (gd, .inr (0, [.ref pl, .int 0, .long 0, .long 0, .int 0, .int (-1), .int 0, .ref gdt, .int 0, .ref gdu, .int 0, .ref gdn])), (pl, .inr (3, [.int 0, .int 0, .int 0, .int 0, .long 0, .ref plf, .ref plo, .ref plb, .ref pla]))] H.size) [] := i_nilD
  try dsimp only at hw_4
  obtain ⟨hP, hD⟩ := va_join (wr := [(m0, .inr (7, [.int 0, .ref m_width, .ref m_many, .ref m_cells, .ref m_moved, .ref m_tape, .int 0, .int 0, .int 0, .int 0, .int 0, .long 0, .int 0, .int 0, .int 0, .int (-1), .ref m_lines, .ref m_has, .ref m_state, .ref m_gate, .ref m_guest, .ref m_gone, .int 0, .ref m_isKept, .ref m_first, .ref m_second, .int 0, .ref m_far, .ref m_wished, .ref m_wasState, .ref m_isHere, .ref m_round, .ref m_bestRound, .int 0, .int 0, .long 0, .long 0, .ref m_taken, .int 0])), (m_lines, .inl (k_lines, 5, .inl (fun _ => 0))), (m_has, .inl (k_has, 45, .inl (fun _ => 0)))]) (w1 := []) hP hD [0, 1, 2] [3, 4, 5] rfl rfl (by decide) (by decide) hk1 hFc hP1 hD1
  generalize H1 = H at hP hS ⊢
  have hP : va_P (dC, dI) vwCl [(m0, .inr (7, [.int 0, .ref m_width, .ref m_many, .ref m_cells, .ref m_moved, .ref m_tape, .int 0, .int 0, .int 0, .int 0, .int 0, .long 0, .int 0, .int 0, .int 0, .int (-1), .ref m_lines, .ref m_has, .ref m_state, .ref m_gate, .ref m_guest, .ref m_gone, .int 0, .ref m_isKept, .ref m_first, .ref m_second, .int 0, .ref m_far, .ref m_wished, .ref m_wasState, .ref m_isHere, .ref m_round, .ref m_bestRound, .int 0, .int 0, .long 0, .long 0, .ref m_taken, .int 0])), (m_lines, .inl (k_lines, 5, .inl (fun _ => 0))), (m_has, .inl (k_has, 45, .inl (fun _ => 0)))] H := hP
  have hD : va_D A [(m0, .inr (7, [.int 0, .ref m_width, .ref m_many, .ref m_cells, .ref m_moved, .ref m_tape, .int 0, .int 0, .int 0, .int 0, .int 0, .long 0, .int 0, .int 0, .int 0, .int (-1), .ref m_lines, .ref m_has, .ref m_state, .ref m_gate, .ref m_guest, .ref m_gone, .int 0, .ref m_isKept, .ref m_first, .ref m_second, .int 0, .ref m_far, .ref m_wished, .ref m_wasState, .ref m_isHere, .ref m_round, .ref m_bestRound, .int 0, .int 0, .long 0, .long 0, .ref m_taken, .int 0])), (m_lines, .inl (k_lines, 5, .inl (fun _ => 0))), (m_has, .inl (k_has, 45, .inl (fun _ => 0)))] := hD
  obtain rfl : r_3 = -2 := hw_4
  refine lv_aload_n hx hb dL_law_1231 rfl (lv_at hl 1 rfl) ?_
  refine lv_aload_n hx hb dL_law_1232 rfl (lv_at hl 3 rfl) ?_
  refine lv_iload_n hx hb dL_law_1233 rfl (lv_at hl 0 rfl) ?_
  refine lv_iconst (v := 1) hx hb dL_law_1234 (by decide) ?_
  refine lv_iadd hx hb dL_law_1235 ?_
  refine lv_topi (fun z_5 ez_5 => ?_)
  obtain rfl : z_5 = 1 := ez_5.trans (by decide)
  refine va_sld hx hb hX hbl hbA hS (vp_in_iff.mpr ⟨by decide, by decide⟩) dL_law_1236 ?_
  refine lv_topi (fun z_6 ez_6 => ?_)
  obtain rfl : a1 = z_6 := ea1.trans ez_6.symm
  have hPc := hP.sub (ws' := [(m0, .inr (7, [.int 0, .ref m_width, .ref m_many, .ref m_cells, .ref m_moved, .ref m_tape, .int 0, .int 0, .int 0, .int 0, .int 0, .long 0, .int 0, .int 0, .int 0, .int (-1), .ref m_lines, .ref m_has, .ref m_state, .ref m_gate, .ref m_guest, .ref m_gone, .int 0, .ref m_isKept, .ref m_first, .ref m_second, .int 0, .ref m_far, .ref m_wished, .ref m_wasState, .ref m_isHere, .ref m_round, .ref m_bestRound, .int 0, .int 0, .long 0, .long 0, .ref m_taken, .int 0])), (m_lines, .inl (k_lines, 5, .inl (fun _ => 0))), (m_has, .inl (k_has, 45, .inl (fun _ => 0)))]) [0, 1, 2] rfl
  have hDc := hD.sub (ws' := [(m0, .inr (7, [.int 0, .ref m_width, .ref m_many, .ref m_cells, .ref m_moved, .ref m_tape, .int 0, .int 0, .int 0, .int 0, .int 0, .long 0, .int 0, .int 0, .int 0, .int (-1), .ref m_lines, .ref m_has, .ref m_state, .ref m_gate, .ref m_guest, .ref m_gone, .int 0, .ref m_isKept, .ref m_first, .ref m_second, .int 0, .ref m_far, .ref m_wished, .ref m_wasState, .ref m_isHere, .ref m_round, .ref m_bestRound, .int 0, .int 0, .long 0, .long 0, .ref m_taken, .int 0])), (m_lines, .inl (k_lines, 5, .inl (fun _ => 0))), (m_has, .inl (k_has, 45, .inl (fun _ => 0)))]) [0, 1, 2] (by decide) rfl
  have hKc := hK.sub (tys' := [(k_lines, .int), (k_has, .int)]) [0, 1] rfl
  have hFc := va_free (wc := [(m0, .inr (7, [.int 0, .ref m_width, .ref m_many, .ref m_cells, .ref m_moved, .ref m_tape, .int 0, .int 0, .int 0, .int 0, .int 0, .long 0, .int 0, .int 0, .int 0, .int (-1), .ref m_lines, .ref m_has, .ref m_state, .ref m_gate, .ref m_guest, .ref m_gone, .int 0, .ref m_isKept, .ref m_first, .ref m_second, .int 0, .ref m_far, .ref m_wished, .ref m_wasState, .ref m_isHere, .ref m_round, .ref m_bestRound, .int 0, .int 0, .long 0, .long 0, .ref m_taken, .int 0])), (m_lines, .inl (k_lines, 5, .inl (fun _ => 0))), (m_has, .inl (k_has, 45, .inl (fun _ => 0)))]) hD hS hA [0, 1, 2] rfl
  refine va_calli (va_runV (As := [.int a1]) (rest := [.int (-2)]) ⟨hx, hb, hml, hown, hts⟩ (c_X7_openings l dC dI H.size m0 m_width m_many m_cells m_moved m_tape m_lines m_has m_state m_gate m_guest m_gone m_isKept m_first m_second m_far m_wished m_wasState m_isHere m_round m_bestRound m_taken k_lines k_has a1 ) (cwV 1 hts g_law_X7_openings rfl rfl rfl (by decide +kernel) ⟨Nat.le_of_ble_eq_true rfl, Nat.le_of_ble_eq_true rfl⟩) ⟨fun a U g mk q => by obtain ⟨q0, q1, qP, qK, qD⟩ := q; exact ⟨q0, q1, qP, va_K.moved (u := U) (U := U.calling g mk a) (Vm.Alike.refl U.vm) qK, qD⟩, va_recv hKc hPc (ci := 7) (q0 := 0) rfl rfl, fun U hU hW => ⟨rfl, by rw [hU], by rw [hU]; exact hPc, va_K.moved hW.alike hKc, hDc.weaken (fun _ _ _ _ => trivial)⟩⟩ rfl rfl hl.1 rfl (lv_room (Nat.le_of_ble_eq_true rfl)) dL_law_1237 ⟨Nat.le_of_ble_eq_true rfl, Nat.le_of_ble_eq_true rfl⟩) hS (fun q _ h => hFc q h) hFc (fun r_7 u t H1 locs ht hvm hw_8 hB hz1 hk1 hS => ?_)
  have hP1 : va_P (dC, dI) vwCl [] H1 := i_nilP
  have hD1 : va_D (va_A [(m0, .inr (7, [.int 0, .ref m_width, .ref m_many, .ref m_cells, .ref m_moved, .ref m_tape, .int 0, .int 0, .int 0, .int 0, .int 0, .long 0, .int 0, .int 0, .int 0, .int (-1), .ref m_lines, .ref m_has, .ref m_state, .ref m_gate, .ref m_guest, .ref m_gone, .int 0, .ref m_isKept, .ref m_first, .ref m_second, .int 0, .ref m_far, .ref m_wished, .ref m_wasState, .ref m_isHere, .ref m_round, .ref m_bestRound, .int 0, .int 0, .long 0, .long 0, .ref m_taken, .int 0])), (m_lines, .inl (k_lines, 5, .inl (fun _ => 0))), (m_has, .inl (k_has, 45, .inl (fun _ => 0)))] H.size) [] := i_nilD
  try dsimp only at hw_8
  obtain ⟨hP, hD⟩ := va_join (wr := []) (w1 := []) hP hD [0, 1, 2] [] rfl rfl (by decide) (by decide) hk1 hFc hP1 hD1
  generalize H1 = H at hP hS ⊢
  have hP : va_P (dC, dI) vwCl [] H := hP
  have hD : va_D A [] := hD
  obtain rfl : r_7 = -2 := hw_8
  refine lv_icmp_eq (tgt := 1569) hx hb dL_law_1240 (by decide) (fun _ => ?_) (fun h => absurd (by decide) h)
  refine lv_iinc (v := 6) (lv' := [(3, .int 6), (2, .ref m0), (1, .ref x0), (0, .ref b)]) hx hb dL_law_1569 hl (k := 0) rfl (by decide) (by decide) rfl (fun ls hl => ?_)
  refine lv_goto (tgt := 18) hx hb dL_law_1572 (by decide) ?_
  exact law_exit C0 hA2 hS (lv_sub hl [0, 3] rfl) (by decide) (by omega) (by omega)

set_option maxHeartbeats 4000000 in
set_option maxRecDepth 100000 in
/-- the law, its call 35: drawn -/
theorem law_35 {p : Program} {e : Env} {s : State} {m : MethodId} {below : List Frame} {meth : Method} {c : Code} (l : Launch) {b : Nat} {xs : Nat → Int32} (C0 : lw_At p s m meth c b 6 xs) {A : Nat → Prop} (hA : ∀ q, s.heap.size ≤ q → A q) (hA2 : ∀ q, A q → s.heap.size ≤ q) {x0 : Nat} {tp : Nat} {rd : Nat} {gd : Nat} {im : Nat} {rw : Nat} {gn : Nat} {ho : Nat} {sq : Nat} {pl : Nat} {gdt : Nat} {gdu : Nat} {gdn : Nat} {plf : Nat} {plo : Nat} {plb : Nat} {pla : Nat} {m0 : Nat} {m_width : Nat} {m_many : Nat} {m_cells : Nat} {m_moved : Nat} {m_tape : Nat} {m_lines : Nat} {m_has : Nat} {m_state : Nat} {m_gate : Nat} {m_guest : Nat} {m_gone : Nat} {m_isKept : Nat} {m_first : Nat} {m_second : Nat} {m_far : Nat} {m_wished : Nat} {m_wasState : Nat} {m_isHere : Nat} {m_round : Nat} {m_bestRound : Nat} {m_taken : Nat} {k_lines : ClassId} {k_has : ClassId} (hE0 : Kx s) {dC : Nat → ClassId} {dI : Nat → Nat → Nat} (hK : va_K (dC, dI) vwCl [(k_lines, .int), (k_has, .int)] s) {H : Heap} {locs : List Loc} (hP : va_P (dC, dI) vwCl [(x0, .inr (6, [.ref tp, .int 0, .int 0, .int (-1), .ref rd, .ref gd, .ref im, .ref rw, .ref gn, .ref ho, .ref sq])), (gd, .inr (0, [.ref pl, .int 0, .long 0, .long 0, .int 0, .int (-1), .int 0, .ref gdt, .int 0, .ref gdu, .int 0, .ref gdn])), (pl, .inr (3, [.int 0, .int 0, .int 0, .int 0, .long 0, .ref plf, .ref plo, .ref plb, .ref pla])), (m0, .inr (7, [.int 0, .ref m_width, .ref m_many, .ref m_cells, .ref m_moved, .ref m_tape, .int 0, .int 0, .int 0, .int 0, .int 0, .long 0, .int 0, .int 0, .int 0, .int (-1), .ref m_lines, .ref m_has, .ref m_state, .ref m_gate, .ref m_guest, .ref m_gone, .int 0, .ref m_isKept, .ref m_first, .ref m_second, .int 0, .ref m_far, .ref m_wished, .ref m_wasState, .ref m_isHere, .ref m_round, .ref m_bestRound, .int 0, .int 0, .long 0, .long 0, .ref m_taken, .int 0])), (m_lines, .inl (k_lines, 5, .inl (fun _ => 0))), (m_has, .inl (k_has, 45, .inl (fun _ => 0)))] H) (hD : va_D A [(x0, .inr (6, [.ref tp, .int 0, .int 0, .int (-1), .ref rd, .ref gd, .ref im, .ref rw, .ref gn, .ref ho, .ref sq])), (gd, .inr (0, [.ref pl, .int 0, .long 0, .long 0, .int 0, .int (-1), .int 0, .ref gdt, .int 0, .ref gdu, .int 0, .ref gdn])), (pl, .inr (3, [.int 0, .int 0, .int 0, .int 0, .long 0, .ref plf, .ref plo, .ref plb, .ref pla])), (m0, .inr (7, [.int 0, .ref m_width, .ref m_many, .ref m_cells, .ref m_moved, .ref m_tape, .int 0, .int 0, .int 0, .int 0, .int 0, .long 0, .int 0, .int 0, .int 0, .int (-1), .ref m_lines, .ref m_has, .ref m_state, .ref m_gate, .ref m_guest, .ref m_gone, .int 0, .ref m_isKept, .ref m_first, .ref m_second, .int 0, .ref m_far, .ref m_wished, .ref m_wasState, .ref m_isHere, .ref m_round, .ref m_bestRound, .int 0, .int 0, .long 0, .long 0, .ref m_taken, .int 0])), (m_lines, .inl (k_lines, 5, .inl (fun _ => 0))), (m_has, .inl (k_has, 45, .inl (fun _ => 0)))]) (hS : va_S A s.heap H locs) {ls : Array Slot} (hl : lv_has ls 4 [(3, .int 0), (2, .ref m0), (1, .ref x0), (0, .ref b)]) : W p l e room_1 s m #[Value.ref b] below meth c H locs 70 7203 (lw_Z below #[Value.ref b] s) (F0 m 1245 ls []) := by
  obtain ⟨hx, hb, hr, hml, hown, hts, hX, hbl, hlocks, hgv⟩ := id C0
  have hown : s.vm.findClass RL = some m.cls := hown
  have hts := fun w (h : w ∈ wz_law) => hts w (wz_law_in w h)
  have hbA : ¬ A b := fun h => absurd (hA2 b h) (Nat.not_le.mpr hbl)
  obtain ⟨a0, ea0⟩ : ∃ y : Int32, y = xs (0 : Int32).toNatClampNeg := ⟨_, rfl⟩
  obtain ⟨a1, ea1⟩ : ∃ y : Int32, y = xs (1 : Int32).toNatClampNeg := ⟨_, rfl⟩
  obtain ⟨a2, ea2⟩ : ∃ y : Int32, y = xs (2 : Int32).toNatClampNeg := ⟨_, rfl⟩
  obtain ⟨a3, ea3⟩ : ∃ y : Int32, y = xs (3 : Int32).toNatClampNeg := ⟨_, rfl⟩
  obtain ⟨a4, ea4⟩ : ∃ y : Int32, y = xs (4 : Int32).toNatClampNeg := ⟨_, rfl⟩
  obtain ⟨a5, ea5⟩ : ∃ y : Int32, y = xs (5 : Int32).toNatClampNeg := ⟨_, rfl⟩
  refine lv_aload_n hx hb dL_law_1245 rfl (lv_at hl 2 rfl) ?_
  refine lv_aload_n hx hb dL_law_1246 rfl (lv_at hl 3 rfl) ?_
  refine lv_iload_n hx hb dL_law_1247 rfl (lv_at hl 0 rfl) ?_
  refine lv_iconst (v := 1) hx hb dL_law_1248 (by decide) ?_
  refine lv_iadd hx hb dL_law_1249 ?_
  refine lv_topi (fun z_1 ez_1 => ?_)
  obtain rfl : z_1 = 1 := ez_1.trans (by decide)
  refine va_sld hx hb hX hbl hbA hS (vp_in_iff.mpr ⟨by decide, by decide⟩) dL_law_1250 ?_
  refine lv_topi (fun z_2 ez_2 => ?_)
  obtain rfl : a1 = z_2 := ea1.trans ez_2.symm
  refine lv_aload_n hx hb dL_law_1251 rfl (lv_at hl 3 rfl) ?_
  refine lv_iload_n hx hb dL_law_1252 rfl (lv_at hl 0 rfl) ?_
  refine lv_iconst (v := 2) hx hb dL_law_1253 (by decide) ?_
  refine lv_iadd hx hb dL_law_1254 ?_
  refine lv_topi (fun z_3 ez_3 => ?_)
  obtain rfl : z_3 = 2 := ez_3.trans (by decide)
  refine va_sld hx hb hX hbl hbA hS (vp_in_iff.mpr ⟨by decide, by decide⟩) dL_law_1255 ?_
  refine lv_topi (fun z_4 ez_4 => ?_)
  obtain rfl : a2 = z_4 := ea2.trans ez_4.symm
  refine lv_aload_n hx hb dL_law_1256 rfl (lv_at hl 3 rfl) ?_
  refine lv_iload_n hx hb dL_law_1257 rfl (lv_at hl 0 rfl) ?_
  refine lv_iconst (v := 3) hx hb dL_law_1258 (by decide) ?_
  refine lv_iadd hx hb dL_law_1259 ?_
  refine lv_topi (fun z_5 ez_5 => ?_)
  obtain rfl : z_5 = 3 := ez_5.trans (by decide)
  refine va_sld hx hb hX hbl hbA hS (vp_in_iff.mpr ⟨by decide, by decide⟩) dL_law_1260 ?_
  refine lv_topi (fun z_6 ez_6 => ?_)
  obtain rfl : a3 = z_6 := ea3.trans ez_6.symm
  have hPc := hP.sub (ws' := [(x0, .inr (6, [.ref tp, .int 0, .int 0, .int (-1), .ref rd, .ref gd, .ref im, .ref rw, .ref gn, .ref ho, .ref sq])), (gd, .inr (0, [.ref pl, .int 0, .long 0, .long 0, .int 0, .int (-1), .int 0, .ref gdt, .int 0, .ref gdu, .int 0, .ref gdn])), (pl, .inr (3, [.int 0, .int 0, .int 0, .int 0, .long 0, .ref plf, .ref plo, .ref plb, .ref pla]))]) [0, 1, 2] rfl
  have hDc := hD.sub (ws' := [(x0, .inr (6, [.ref tp, .int 0, .int 0, .int (-1), .ref rd, .ref gd, .ref im, .ref rw, .ref gn, .ref ho, .ref sq])), (gd, .inr (0, [.ref pl, .int 0, .long 0, .long 0, .int 0, .int (-1), .int 0, .ref gdt, .int 0, .ref gdu, .int 0, .ref gdn])), (pl, .inr (3, [.int 0, .int 0, .int 0, .int 0, .long 0, .ref plf, .ref plo, .ref plb, .ref pla]))]) [0, 1, 2] (by decide) rfl
  have hKc := hK.sub (tys' := []) [] rfl
  have hFc := va_free (wc := [(x0, .inr (6, [.ref tp, .int 0, .int 0, .int (-1), .ref rd, .ref gd, .ref im, .ref rw, .ref gn, .ref ho, .ref sq])), (gd, .inr (0, [.ref pl, .int 0, .long 0, .long 0, .int 0, .int (-1), .int 0, .ref gdt, .int 0, .ref gdu, .int 0, .ref gdn])), (pl, .inr (3, [.int 0, .int 0, .int 0, .int 0, .long 0, .ref plf, .ref plo, .ref plb, .ref pla]))]) hD hS hA [0, 1, 2] rfl
  refine va_calli (va_runV (As := [.int a1, .int a2, .int a3]) (rest := []) ⟨hx, hb, hml, hown, hts⟩ (c_X6_drawn l dC dI H.size x0 tp rd gd im rw gn ho sq pl gdt gdu gdn plf plo plb pla a1 a2 a3 ) (cwV 3 hts g_law_X6_drawn rfl rfl rfl (by decide +kernel) ⟨Nat.le_of_ble_eq_true rfl, Nat.le_of_ble_eq_true rfl⟩) ⟨fun a U g mk q => by obtain ⟨q0, q1, qP, qK, qD⟩ := q; exact ⟨q0, q1, qP, va_K.moved (u := U) (U := U.calling g mk a) (Vm.Alike.refl U.vm) qK, qD⟩, va_recv hKc hPc (ci := 6) (q0 := 0) rfl rfl, fun U hU hW => ⟨rfl, by rw [hU], by rw [hU]; exact hPc, va_K.moved hW.alike hKc, hDc.weaken (fun _ _ _ _ => trivial)⟩⟩ rfl rfl hl.1 rfl (lv_room (Nat.le_of_ble_eq_true rfl)) dL_law_1261 ⟨Nat.le_of_ble_eq_true rfl, Nat.le_of_ble_eq_true rfl⟩) hS (fun q _ h => hFc q h) hFc (fun r_7 u t H1 locs ht hvm hw_8 hB hz1 hk1 hS => ?_)
  have hP1 : va_P (dC, dI) vwCl [] H1 := i_nilP
  have hD1 : va_D (va_A [(x0, .inr (6, [.ref tp, .int 0, .int 0, .int (-1), .ref rd, .ref gd, .ref im, .ref rw, .ref gn, .ref ho, .ref sq])), (gd, .inr (0, [.ref pl, .int 0, .long 0, .long 0, .int 0, .int (-1), .int 0, .ref gdt, .int 0, .ref gdu, .int 0, .ref gdn])), (pl, .inr (3, [.int 0, .int 0, .int 0, .int 0, .long 0, .ref plf, .ref plo, .ref plb, .ref pla]))] H.size) [] := i_nilD
  try dsimp only at hw_8
  obtain ⟨hP, hD⟩ := va_join (wr := [(m0, .inr (7, [.int 0, .ref m_width, .ref m_many, .ref m_cells, .ref m_moved, .ref m_tape, .int 0, .int 0, .int 0, .int 0, .int 0, .long 0, .int 0, .int 0, .int 0, .int (-1), .ref m_lines, .ref m_has, .ref m_state, .ref m_gate, .ref m_guest, .ref m_gone, .int 0, .ref m_isKept, .ref m_first, .ref m_second, .int 0, .ref m_far, .ref m_wished, .ref m_wasState, .ref m_isHere, .ref m_round, .ref m_bestRound, .int 0, .int 0, .long 0, .long 0, .ref m_taken, .int 0])), (m_lines, .inl (k_lines, 5, .inl (fun _ => 0))), (m_has, .inl (k_has, 45, .inl (fun _ => 0)))]) (w1 := []) hP hD [0, 1, 2] [3, 4, 5] rfl rfl (by decide) (by decide) hk1 hFc hP1 hD1
  generalize H1 = H at hP hS ⊢
  have hP : va_P (dC, dI) vwCl [(m0, .inr (7, [.int 0, .ref m_width, .ref m_many, .ref m_cells, .ref m_moved, .ref m_tape, .int 0, .int 0, .int 0, .int 0, .int 0, .long 0, .int 0, .int 0, .int 0, .int (-1), .ref m_lines, .ref m_has, .ref m_state, .ref m_gate, .ref m_guest, .ref m_gone, .int 0, .ref m_isKept, .ref m_first, .ref m_second, .int 0, .ref m_far, .ref m_wished, .ref m_wasState, .ref m_isHere, .ref m_round, .ref m_bestRound, .int 0, .int 0, .long 0, .long 0, .ref m_taken, .int 0])), (m_lines, .inl (k_lines, 5, .inl (fun _ => 0))), (m_has, .inl (k_has, 45, .inl (fun _ => 0)))] H := hP
  have hD : va_D A [(m0, .inr (7, [.int 0, .ref m_width, .ref m_many, .ref m_cells, .ref m_moved, .ref m_tape, .int 0, .int 0, .int 0, .int 0, .int 0, .long 0, .int 0, .int 0, .int 0, .int (-1), .ref m_lines, .ref m_has, .ref m_state, .ref m_gate, .ref m_guest, .ref m_gone, .int 0, .ref m_isKept, .ref m_first, .ref m_second, .int 0, .ref m_far, .ref m_wished, .ref m_wasState, .ref m_isHere, .ref m_round, .ref m_bestRound, .int 0, .int 0, .long 0, .long 0, .ref m_taken, .int 0])), (m_lines, .inl (k_lines, 5, .inl (fun _ => 0))), (m_has, .inl (k_has, 45, .inl (fun _ => 0)))] := hD
  obtain rfl : r_7 = -2 := hw_8
  refine lv_aload_n hx hb dL_law_1264 rfl (lv_at hl 1 rfl) ?_
  refine lv_aload_n hx hb dL_law_1265 rfl (lv_at hl 3 rfl) ?_
  refine lv_iload_n hx hb dL_law_1266 rfl (lv_at hl 0 rfl) ?_
  refine lv_iconst (v := 1) hx hb dL_law_1267 (by decide) ?_
  refine lv_iadd hx hb dL_law_1268 ?_
  refine lv_topi (fun z_9 ez_9 => ?_)
  obtain rfl : z_9 = 1 := ez_9.trans (by decide)
  refine va_sld hx hb hX hbl hbA hS (vp_in_iff.mpr ⟨by decide, by decide⟩) dL_law_1269 ?_
  refine lv_topi (fun z_10 ez_10 => ?_)
  obtain rfl : a1 = z_10 := ea1.trans ez_10.symm
  refine lv_aload_n hx hb dL_law_1270 rfl (lv_at hl 3 rfl) ?_
  refine lv_iload_n hx hb dL_law_1271 rfl (lv_at hl 0 rfl) ?_
  refine lv_iconst (v := 2) hx hb dL_law_1272 (by decide) ?_
  refine lv_iadd hx hb dL_law_1273 ?_
  refine lv_topi (fun z_11 ez_11 => ?_)
  obtain rfl : z_11 = 2 := ez_11.trans (by decide)
  refine va_sld hx hb hX hbl hbA hS (vp_in_iff.mpr ⟨by decide, by decide⟩) dL_law_1274 ?_
  refine lv_topi (fun z_12 ez_12 => ?_)
  obtain rfl : a2 = z_12 := ea2.trans ez_12.symm
  refine lv_aload_n hx hb dL_law_1275 rfl (lv_at hl 3 rfl) ?_
  refine lv_iload_n hx hb dL_law_1276 rfl (lv_at hl 0 rfl) ?_
  refine lv_iconst (v := 3) hx hb dL_law_1277 (by decide) ?_
  refine lv_iadd hx hb dL_law_1278 ?_
  refine lv_topi (fun z_13 ez_13 => ?_)
  obtain rfl : z_13 = 3 := ez_13.trans (by decide)
  refine va_sld hx hb hX hbl hbA hS (vp_in_iff.mpr ⟨by decide, by decide⟩) dL_law_1279 ?_
  refine lv_topi (fun z_14 ez_14 => ?_)
  obtain rfl : a3 = z_14 := ea3.trans ez_14.symm
  have hPc := hP.sub (ws' := [(m0, .inr (7, [.int 0, .ref m_width, .ref m_many, .ref m_cells, .ref m_moved, .ref m_tape, .int 0, .int 0, .int 0, .int 0, .int 0, .long 0, .int 0, .int 0, .int 0, .int (-1), .ref m_lines, .ref m_has, .ref m_state, .ref m_gate, .ref m_guest, .ref m_gone, .int 0, .ref m_isKept, .ref m_first, .ref m_second, .int 0, .ref m_far, .ref m_wished, .ref m_wasState, .ref m_isHere, .ref m_round, .ref m_bestRound, .int 0, .int 0, .long 0, .long 0, .ref m_taken, .int 0])), (m_lines, .inl (k_lines, 5, .inl (fun _ => 0))), (m_has, .inl (k_has, 45, .inl (fun _ => 0)))]) [0, 1, 2] rfl
  have hDc := hD.sub (ws' := [(m0, .inr (7, [.int 0, .ref m_width, .ref m_many, .ref m_cells, .ref m_moved, .ref m_tape, .int 0, .int 0, .int 0, .int 0, .int 0, .long 0, .int 0, .int 0, .int 0, .int (-1), .ref m_lines, .ref m_has, .ref m_state, .ref m_gate, .ref m_guest, .ref m_gone, .int 0, .ref m_isKept, .ref m_first, .ref m_second, .int 0, .ref m_far, .ref m_wished, .ref m_wasState, .ref m_isHere, .ref m_round, .ref m_bestRound, .int 0, .int 0, .long 0, .long 0, .ref m_taken, .int 0])), (m_lines, .inl (k_lines, 5, .inl (fun _ => 0))), (m_has, .inl (k_has, 45, .inl (fun _ => 0)))]) [0, 1, 2] (by decide) rfl
  have hKc := hK.sub (tys' := [(k_lines, .int), (k_has, .int)]) [0, 1] rfl
  have hFc := va_free (wc := [(m0, .inr (7, [.int 0, .ref m_width, .ref m_many, .ref m_cells, .ref m_moved, .ref m_tape, .int 0, .int 0, .int 0, .int 0, .int 0, .long 0, .int 0, .int 0, .int 0, .int (-1), .ref m_lines, .ref m_has, .ref m_state, .ref m_gate, .ref m_guest, .ref m_gone, .int 0, .ref m_isKept, .ref m_first, .ref m_second, .int 0, .ref m_far, .ref m_wished, .ref m_wasState, .ref m_isHere, .ref m_round, .ref m_bestRound, .int 0, .int 0, .long 0, .long 0, .ref m_taken, .int 0])), (m_lines, .inl (k_lines, 5, .inl (fun _ => 0))), (m_has, .inl (k_has, 45, .inl (fun _ => 0)))]) hD hS hA [0, 1, 2] rfl
  refine va_calli (va_runV (As := [.int a1, .int a2, .int a3]) (rest := [.int (-2)]) ⟨hx, hb, hml, hown, hts⟩ (c_X7_drawn l dC dI H.size m0 m_width m_many m_cells m_moved m_tape m_lines m_has m_state m_gate m_guest m_gone m_isKept m_first m_second m_far m_wished m_wasState m_isHere m_round m_bestRound m_taken k_lines k_has a1 a2 a3 ) (cwV 3 hts g_law_X7_drawn rfl rfl rfl (by decide +kernel) ⟨Nat.le_of_ble_eq_true rfl, Nat.le_of_ble_eq_true rfl⟩) ⟨fun a U g mk q => by obtain ⟨q0, q1, qP, qK, qD⟩ := q; exact ⟨q0, q1, qP, va_K.moved (u := U) (U := U.calling g mk a) (Vm.Alike.refl U.vm) qK, qD⟩, va_recv hKc hPc (ci := 7) (q0 := 0) rfl rfl, fun U hU hW => ⟨rfl, by rw [hU], by rw [hU]; exact hPc, va_K.moved hW.alike hKc, hDc.weaken (fun _ _ _ _ => trivial)⟩⟩ rfl rfl hl.1 rfl (lv_room (Nat.le_of_ble_eq_true rfl)) dL_law_1280 ⟨Nat.le_of_ble_eq_true rfl, Nat.le_of_ble_eq_true rfl⟩) hS (fun q _ h => hFc q h) hFc (fun r_15 u t H1 locs ht hvm hw_16 hB hz1 hk1 hS => ?_)
  have hP1 : va_P (dC, dI) vwCl [] H1 := i_nilP
  have hD1 : va_D (va_A [(m0, .inr (7, [.int 0, .ref m_width, .ref m_many, .ref m_cells, .ref m_moved, .ref m_tape, .int 0, .int 0, .int 0, .int 0, .int 0, .long 0, .int 0, .int 0, .int 0, .int (-1), .ref m_lines, .ref m_has, .ref m_state, .ref m_gate, .ref m_guest, .ref m_gone, .int 0, .ref m_isKept, .ref m_first, .ref m_second, .int 0, .ref m_far, .ref m_wished, .ref m_wasState, .ref m_isHere, .ref m_round, .ref m_bestRound, .int 0, .int 0, .long 0, .long 0, .ref m_taken, .int 0])), (m_lines, .inl (k_lines, 5, .inl (fun _ => 0))), (m_has, .inl (k_has, 45, .inl (fun _ => 0)))] H.size) [] := i_nilD
  try dsimp only at hw_16
  obtain ⟨hP, hD⟩ := va_join (wr := []) (w1 := []) hP hD [0, 1, 2] [] rfl rfl (by decide) (by decide) hk1 hFc hP1 hD1
  generalize H1 = H at hP hS ⊢
  have hP : va_P (dC, dI) vwCl [] H := hP
  have hD : va_D A [] := hD
  obtain rfl : r_15 = -2 := hw_16
  refine lv_icmp_eq (tgt := 1569) hx hb dL_law_1283 (by decide) (fun _ => ?_) (fun h => absurd (by decide) h)
  refine lv_iinc (v := 6) (lv' := [(3, .int 6), (2, .ref m0), (1, .ref x0), (0, .ref b)]) hx hb dL_law_1569 hl (k := 0) rfl (by decide) (by decide) rfl (fun ls hl => ?_)
  refine lv_goto (tgt := 18) hx hb dL_law_1572 (by decide) ?_
  exact law_exit C0 hA2 hS (lv_sub hl [0, 3] rfl) (by decide) (by omega) (by omega)

set_option maxHeartbeats 4000000 in
set_option maxRecDepth 100000 in
/-- the law, its call 36: lastly -/
theorem law_36 {p : Program} {e : Env} {s : State} {m : MethodId} {below : List Frame} {meth : Method} {c : Code} (l : Launch) {b : Nat} {xs : Nat → Int32} (C0 : lw_At p s m meth c b 6 xs) {A : Nat → Prop} (hA : ∀ q, s.heap.size ≤ q → A q) (hA2 : ∀ q, A q → s.heap.size ≤ q) {x0 : Nat} {tp : Nat} {rd : Nat} {gd : Nat} {im : Nat} {rw : Nat} {gn : Nat} {ho : Nat} {sq : Nat} {pl : Nat} {gdt : Nat} {gdu : Nat} {gdn : Nat} {plf : Nat} {plo : Nat} {plb : Nat} {pla : Nat} {m0 : Nat} {m_width : Nat} {m_many : Nat} {m_cells : Nat} {m_moved : Nat} {m_tape : Nat} {m_lines : Nat} {m_has : Nat} {m_state : Nat} {m_gate : Nat} {m_guest : Nat} {m_gone : Nat} {m_isKept : Nat} {m_first : Nat} {m_second : Nat} {m_far : Nat} {m_wished : Nat} {m_wasState : Nat} {m_isHere : Nat} {m_round : Nat} {m_bestRound : Nat} {m_taken : Nat} {k_lines : ClassId} {k_has : ClassId} (hE0 : Kx s) {dC : Nat → ClassId} {dI : Nat → Nat → Nat} (hK : va_K (dC, dI) vwCl [(k_lines, .int), (k_has, .int)] s) {H : Heap} {locs : List Loc} (hP : va_P (dC, dI) vwCl [(x0, .inr (6, [.ref tp, .int 0, .int 0, .int (-1), .ref rd, .ref gd, .ref im, .ref rw, .ref gn, .ref ho, .ref sq])), (gd, .inr (0, [.ref pl, .int 0, .long 0, .long 0, .int 0, .int (-1), .int 0, .ref gdt, .int 0, .ref gdu, .int 0, .ref gdn])), (pl, .inr (3, [.int 0, .int 0, .int 0, .int 0, .long 0, .ref plf, .ref plo, .ref plb, .ref pla])), (m0, .inr (7, [.int 0, .ref m_width, .ref m_many, .ref m_cells, .ref m_moved, .ref m_tape, .int 0, .int 0, .int 0, .int 0, .int 0, .long 0, .int 0, .int 0, .int 0, .int (-1), .ref m_lines, .ref m_has, .ref m_state, .ref m_gate, .ref m_guest, .ref m_gone, .int 0, .ref m_isKept, .ref m_first, .ref m_second, .int 0, .ref m_far, .ref m_wished, .ref m_wasState, .ref m_isHere, .ref m_round, .ref m_bestRound, .int 0, .int 0, .long 0, .long 0, .ref m_taken, .int 0])), (m_lines, .inl (k_lines, 5, .inl (fun _ => 0))), (m_has, .inl (k_has, 45, .inl (fun _ => 0)))] H) (hD : va_D A [(x0, .inr (6, [.ref tp, .int 0, .int 0, .int (-1), .ref rd, .ref gd, .ref im, .ref rw, .ref gn, .ref ho, .ref sq])), (gd, .inr (0, [.ref pl, .int 0, .long 0, .long 0, .int 0, .int (-1), .int 0, .ref gdt, .int 0, .ref gdu, .int 0, .ref gdn])), (pl, .inr (3, [.int 0, .int 0, .int 0, .int 0, .long 0, .ref plf, .ref plo, .ref plb, .ref pla])), (m0, .inr (7, [.int 0, .ref m_width, .ref m_many, .ref m_cells, .ref m_moved, .ref m_tape, .int 0, .int 0, .int 0, .int 0, .int 0, .long 0, .int 0, .int 0, .int 0, .int (-1), .ref m_lines, .ref m_has, .ref m_state, .ref m_gate, .ref m_guest, .ref m_gone, .int 0, .ref m_isKept, .ref m_first, .ref m_second, .int 0, .ref m_far, .ref m_wished, .ref m_wasState, .ref m_isHere, .ref m_round, .ref m_bestRound, .int 0, .int 0, .long 0, .long 0, .ref m_taken, .int 0])), (m_lines, .inl (k_lines, 5, .inl (fun _ => 0))), (m_has, .inl (k_has, 45, .inl (fun _ => 0)))]) (hS : va_S A s.heap H locs) {ls : Array Slot} (hl : lv_has ls 4 [(3, .int 0), (2, .ref m0), (1, .ref x0), (0, .ref b)]) : W p l e room_1 s m #[Value.ref b] below meth c H locs 70 7203 (lw_Z below #[Value.ref b] s) (F0 m 1288 ls []) := by
  obtain ⟨hx, hb, hr, hml, hown, hts, hX, hbl, hlocks, hgv⟩ := id C0
  have hown : s.vm.findClass RL = some m.cls := hown
  have hts := fun w (h : w ∈ wz_law) => hts w (wz_law_in w h)
  have hbA : ¬ A b := fun h => absurd (hA2 b h) (Nat.not_le.mpr hbl)
  obtain ⟨a0, ea0⟩ : ∃ y : Int32, y = xs (0 : Int32).toNatClampNeg := ⟨_, rfl⟩
  obtain ⟨a1, ea1⟩ : ∃ y : Int32, y = xs (1 : Int32).toNatClampNeg := ⟨_, rfl⟩
  obtain ⟨a2, ea2⟩ : ∃ y : Int32, y = xs (2 : Int32).toNatClampNeg := ⟨_, rfl⟩
  obtain ⟨a3, ea3⟩ : ∃ y : Int32, y = xs (3 : Int32).toNatClampNeg := ⟨_, rfl⟩
  obtain ⟨a4, ea4⟩ : ∃ y : Int32, y = xs (4 : Int32).toNatClampNeg := ⟨_, rfl⟩
  obtain ⟨a5, ea5⟩ : ∃ y : Int32, y = xs (5 : Int32).toNatClampNeg := ⟨_, rfl⟩
  refine lv_aload_n hx hb dL_law_1288 rfl (lv_at hl 2 rfl) ?_
  refine lv_aload_n hx hb dL_law_1289 rfl (lv_at hl 3 rfl) ?_
  refine lv_iload_n hx hb dL_law_1290 rfl (lv_at hl 0 rfl) ?_
  refine lv_iconst (v := 1) hx hb dL_law_1291 (by decide) ?_
  refine lv_iadd hx hb dL_law_1292 ?_
  refine lv_topi (fun z_1 ez_1 => ?_)
  obtain rfl : z_1 = 1 := ez_1.trans (by decide)
  refine va_sld hx hb hX hbl hbA hS (vp_in_iff.mpr ⟨by decide, by decide⟩) dL_law_1293 ?_
  refine lv_topi (fun z_2 ez_2 => ?_)
  obtain rfl : a1 = z_2 := ea1.trans ez_2.symm
  refine lv_aload_n hx hb dL_law_1294 rfl (lv_at hl 3 rfl) ?_
  refine lv_iload_n hx hb dL_law_1295 rfl (lv_at hl 0 rfl) ?_
  refine lv_iconst (v := 2) hx hb dL_law_1296 (by decide) ?_
  refine lv_iadd hx hb dL_law_1297 ?_
  refine lv_topi (fun z_3 ez_3 => ?_)
  obtain rfl : z_3 = 2 := ez_3.trans (by decide)
  refine va_sld hx hb hX hbl hbA hS (vp_in_iff.mpr ⟨by decide, by decide⟩) dL_law_1298 ?_
  refine lv_topi (fun z_4 ez_4 => ?_)
  obtain rfl : a2 = z_4 := ea2.trans ez_4.symm
  have hPc := hP.sub (ws' := [(x0, .inr (6, [.ref tp, .int 0, .int 0, .int (-1), .ref rd, .ref gd, .ref im, .ref rw, .ref gn, .ref ho, .ref sq])), (gd, .inr (0, [.ref pl, .int 0, .long 0, .long 0, .int 0, .int (-1), .int 0, .ref gdt, .int 0, .ref gdu, .int 0, .ref gdn])), (pl, .inr (3, [.int 0, .int 0, .int 0, .int 0, .long 0, .ref plf, .ref plo, .ref plb, .ref pla]))]) [0, 1, 2] rfl
  have hDc := hD.sub (ws' := [(x0, .inr (6, [.ref tp, .int 0, .int 0, .int (-1), .ref rd, .ref gd, .ref im, .ref rw, .ref gn, .ref ho, .ref sq])), (gd, .inr (0, [.ref pl, .int 0, .long 0, .long 0, .int 0, .int (-1), .int 0, .ref gdt, .int 0, .ref gdu, .int 0, .ref gdn])), (pl, .inr (3, [.int 0, .int 0, .int 0, .int 0, .long 0, .ref plf, .ref plo, .ref plb, .ref pla]))]) [0, 1, 2] (by decide) rfl
  have hKc := hK.sub (tys' := []) [] rfl
  have hFc := va_free (wc := [(x0, .inr (6, [.ref tp, .int 0, .int 0, .int (-1), .ref rd, .ref gd, .ref im, .ref rw, .ref gn, .ref ho, .ref sq])), (gd, .inr (0, [.ref pl, .int 0, .long 0, .long 0, .int 0, .int (-1), .int 0, .ref gdt, .int 0, .ref gdu, .int 0, .ref gdn])), (pl, .inr (3, [.int 0, .int 0, .int 0, .int 0, .long 0, .ref plf, .ref plo, .ref plb, .ref pla]))]) hD hS hA [0, 1, 2] rfl
  refine va_calli (va_runV (As := [.int a1, .int a2]) (rest := []) ⟨hx, hb, hml, hown, hts⟩ (c_X6_lastly l dC dI H.size x0 tp rd gd im rw gn ho sq pl gdt gdu gdn plf plo plb pla a1 a2 ) (cwV 2 hts g_law_X6_lastly rfl rfl rfl (by decide +kernel) ⟨Nat.le_of_ble_eq_true rfl, Nat.le_of_ble_eq_true rfl⟩) ⟨fun a U g mk q => by obtain ⟨q0, q1, qP, qK, qD⟩ := q; exact ⟨q0, q1, qP, va_K.moved (u := U) (U := U.calling g mk a) (Vm.Alike.refl U.vm) qK, qD⟩, va_recv hKc hPc (ci := 6) (q0 := 0) rfl rfl, fun U hU hW => ⟨rfl, by rw [hU], by rw [hU]; exact hPc, va_K.moved hW.alike hKc, hDc.weaken (fun _ _ _ _ => trivial)⟩⟩ rfl rfl hl.1 rfl (lv_room (Nat.le_of_ble_eq_true rfl)) dL_law_1299 ⟨Nat.le_of_ble_eq_true rfl, Nat.le_of_ble_eq_true rfl⟩) hS (fun q _ h => hFc q h) hFc (fun r_5 u t H1 locs ht hvm hw_6 hB hz1 hk1 hS => ?_)
  have hP1 : va_P (dC, dI) vwCl [] H1 := i_nilP
  have hD1 : va_D (va_A [(x0, .inr (6, [.ref tp, .int 0, .int 0, .int (-1), .ref rd, .ref gd, .ref im, .ref rw, .ref gn, .ref ho, .ref sq])), (gd, .inr (0, [.ref pl, .int 0, .long 0, .long 0, .int 0, .int (-1), .int 0, .ref gdt, .int 0, .ref gdu, .int 0, .ref gdn])), (pl, .inr (3, [.int 0, .int 0, .int 0, .int 0, .long 0, .ref plf, .ref plo, .ref plb, .ref pla]))] H.size) [] := i_nilD
  try dsimp only at hw_6
  obtain ⟨hP, hD⟩ := va_join (wr := [(m0, .inr (7, [.int 0, .ref m_width, .ref m_many, .ref m_cells, .ref m_moved, .ref m_tape, .int 0, .int 0, .int 0, .int 0, .int 0, .long 0, .int 0, .int 0, .int 0, .int (-1), .ref m_lines, .ref m_has, .ref m_state, .ref m_gate, .ref m_guest, .ref m_gone, .int 0, .ref m_isKept, .ref m_first, .ref m_second, .int 0, .ref m_far, .ref m_wished, .ref m_wasState, .ref m_isHere, .ref m_round, .ref m_bestRound, .int 0, .int 0, .long 0, .long 0, .ref m_taken, .int 0])), (m_lines, .inl (k_lines, 5, .inl (fun _ => 0))), (m_has, .inl (k_has, 45, .inl (fun _ => 0)))]) (w1 := []) hP hD [0, 1, 2] [3, 4, 5] rfl rfl (by decide) (by decide) hk1 hFc hP1 hD1
  generalize H1 = H at hP hS ⊢
  have hP : va_P (dC, dI) vwCl [(m0, .inr (7, [.int 0, .ref m_width, .ref m_many, .ref m_cells, .ref m_moved, .ref m_tape, .int 0, .int 0, .int 0, .int 0, .int 0, .long 0, .int 0, .int 0, .int 0, .int (-1), .ref m_lines, .ref m_has, .ref m_state, .ref m_gate, .ref m_guest, .ref m_gone, .int 0, .ref m_isKept, .ref m_first, .ref m_second, .int 0, .ref m_far, .ref m_wished, .ref m_wasState, .ref m_isHere, .ref m_round, .ref m_bestRound, .int 0, .int 0, .long 0, .long 0, .ref m_taken, .int 0])), (m_lines, .inl (k_lines, 5, .inl (fun _ => 0))), (m_has, .inl (k_has, 45, .inl (fun _ => 0)))] H := hP
  have hD : va_D A [(m0, .inr (7, [.int 0, .ref m_width, .ref m_many, .ref m_cells, .ref m_moved, .ref m_tape, .int 0, .int 0, .int 0, .int 0, .int 0, .long 0, .int 0, .int 0, .int 0, .int (-1), .ref m_lines, .ref m_has, .ref m_state, .ref m_gate, .ref m_guest, .ref m_gone, .int 0, .ref m_isKept, .ref m_first, .ref m_second, .int 0, .ref m_far, .ref m_wished, .ref m_wasState, .ref m_isHere, .ref m_round, .ref m_bestRound, .int 0, .int 0, .long 0, .long 0, .ref m_taken, .int 0])), (m_lines, .inl (k_lines, 5, .inl (fun _ => 0))), (m_has, .inl (k_has, 45, .inl (fun _ => 0)))] := hD
  obtain rfl : r_5 = -2 := hw_6
  refine lv_aload_n hx hb dL_law_1302 rfl (lv_at hl 1 rfl) ?_
  refine lv_aload_n hx hb dL_law_1303 rfl (lv_at hl 3 rfl) ?_
  refine lv_iload_n hx hb dL_law_1304 rfl (lv_at hl 0 rfl) ?_
  refine lv_iconst (v := 1) hx hb dL_law_1305 (by decide) ?_
  refine lv_iadd hx hb dL_law_1306 ?_
  refine lv_topi (fun z_7 ez_7 => ?_)
  obtain rfl : z_7 = 1 := ez_7.trans (by decide)
  refine va_sld hx hb hX hbl hbA hS (vp_in_iff.mpr ⟨by decide, by decide⟩) dL_law_1307 ?_
  refine lv_topi (fun z_8 ez_8 => ?_)
  obtain rfl : a1 = z_8 := ea1.trans ez_8.symm
  refine lv_aload_n hx hb dL_law_1308 rfl (lv_at hl 3 rfl) ?_
  refine lv_iload_n hx hb dL_law_1309 rfl (lv_at hl 0 rfl) ?_
  refine lv_iconst (v := 2) hx hb dL_law_1310 (by decide) ?_
  refine lv_iadd hx hb dL_law_1311 ?_
  refine lv_topi (fun z_9 ez_9 => ?_)
  obtain rfl : z_9 = 2 := ez_9.trans (by decide)
  refine va_sld hx hb hX hbl hbA hS (vp_in_iff.mpr ⟨by decide, by decide⟩) dL_law_1312 ?_
  refine lv_topi (fun z_10 ez_10 => ?_)
  obtain rfl : a2 = z_10 := ea2.trans ez_10.symm
  have hPc := hP.sub (ws' := [(m0, .inr (7, [.int 0, .ref m_width, .ref m_many, .ref m_cells, .ref m_moved, .ref m_tape, .int 0, .int 0, .int 0, .int 0, .int 0, .long 0, .int 0, .int 0, .int 0, .int (-1), .ref m_lines, .ref m_has, .ref m_state, .ref m_gate, .ref m_guest, .ref m_gone, .int 0, .ref m_isKept, .ref m_first, .ref m_second, .int 0, .ref m_far, .ref m_wished, .ref m_wasState, .ref m_isHere, .ref m_round, .ref m_bestRound, .int 0, .int 0, .long 0, .long 0, .ref m_taken, .int 0])), (m_lines, .inl (k_lines, 5, .inl (fun _ => 0))), (m_has, .inl (k_has, 45, .inl (fun _ => 0)))]) [0, 1, 2] rfl
  have hDc := hD.sub (ws' := [(m0, .inr (7, [.int 0, .ref m_width, .ref m_many, .ref m_cells, .ref m_moved, .ref m_tape, .int 0, .int 0, .int 0, .int 0, .int 0, .long 0, .int 0, .int 0, .int 0, .int (-1), .ref m_lines, .ref m_has, .ref m_state, .ref m_gate, .ref m_guest, .ref m_gone, .int 0, .ref m_isKept, .ref m_first, .ref m_second, .int 0, .ref m_far, .ref m_wished, .ref m_wasState, .ref m_isHere, .ref m_round, .ref m_bestRound, .int 0, .int 0, .long 0, .long 0, .ref m_taken, .int 0])), (m_lines, .inl (k_lines, 5, .inl (fun _ => 0))), (m_has, .inl (k_has, 45, .inl (fun _ => 0)))]) [0, 1, 2] (by decide) rfl
  have hKc := hK.sub (tys' := [(k_lines, .int), (k_has, .int)]) [0, 1] rfl
  have hFc := va_free (wc := [(m0, .inr (7, [.int 0, .ref m_width, .ref m_many, .ref m_cells, .ref m_moved, .ref m_tape, .int 0, .int 0, .int 0, .int 0, .int 0, .long 0, .int 0, .int 0, .int 0, .int (-1), .ref m_lines, .ref m_has, .ref m_state, .ref m_gate, .ref m_guest, .ref m_gone, .int 0, .ref m_isKept, .ref m_first, .ref m_second, .int 0, .ref m_far, .ref m_wished, .ref m_wasState, .ref m_isHere, .ref m_round, .ref m_bestRound, .int 0, .int 0, .long 0, .long 0, .ref m_taken, .int 0])), (m_lines, .inl (k_lines, 5, .inl (fun _ => 0))), (m_has, .inl (k_has, 45, .inl (fun _ => 0)))]) hD hS hA [0, 1, 2] rfl
  refine va_calli (va_runV (As := [.int a1, .int a2]) (rest := [.int (-2)]) ⟨hx, hb, hml, hown, hts⟩ (c_X7_lastly l dC dI H.size m0 m_width m_many m_cells m_moved m_tape m_lines m_has m_state m_gate m_guest m_gone m_isKept m_first m_second m_far m_wished m_wasState m_isHere m_round m_bestRound m_taken k_lines k_has a1 a2 ) (cwV 2 hts g_law_X7_lastly rfl rfl rfl (by decide +kernel) ⟨Nat.le_of_ble_eq_true rfl, Nat.le_of_ble_eq_true rfl⟩) ⟨fun a U g mk q => by obtain ⟨q0, q1, qP, qK, qD⟩ := q; exact ⟨q0, q1, qP, va_K.moved (u := U) (U := U.calling g mk a) (Vm.Alike.refl U.vm) qK, qD⟩, va_recv hKc hPc (ci := 7) (q0 := 0) rfl rfl, fun U hU hW => ⟨rfl, by rw [hU], by rw [hU]; exact hPc, va_K.moved hW.alike hKc, hDc.weaken (fun _ _ _ _ => trivial)⟩⟩ rfl rfl hl.1 rfl (lv_room (Nat.le_of_ble_eq_true rfl)) dL_law_1313 ⟨Nat.le_of_ble_eq_true rfl, Nat.le_of_ble_eq_true rfl⟩) hS (fun q _ h => hFc q h) hFc (fun r_11 u t H1 locs ht hvm hw_12 hB hz1 hk1 hS => ?_)
  have hP1 : va_P (dC, dI) vwCl [] H1 := i_nilP
  have hD1 : va_D (va_A [(m0, .inr (7, [.int 0, .ref m_width, .ref m_many, .ref m_cells, .ref m_moved, .ref m_tape, .int 0, .int 0, .int 0, .int 0, .int 0, .long 0, .int 0, .int 0, .int 0, .int (-1), .ref m_lines, .ref m_has, .ref m_state, .ref m_gate, .ref m_guest, .ref m_gone, .int 0, .ref m_isKept, .ref m_first, .ref m_second, .int 0, .ref m_far, .ref m_wished, .ref m_wasState, .ref m_isHere, .ref m_round, .ref m_bestRound, .int 0, .int 0, .long 0, .long 0, .ref m_taken, .int 0])), (m_lines, .inl (k_lines, 5, .inl (fun _ => 0))), (m_has, .inl (k_has, 45, .inl (fun _ => 0)))] H.size) [] := i_nilD
  try dsimp only at hw_12
  obtain ⟨hP, hD⟩ := va_join (wr := []) (w1 := []) hP hD [0, 1, 2] [] rfl rfl (by decide) (by decide) hk1 hFc hP1 hD1
  generalize H1 = H at hP hS ⊢
  have hP : va_P (dC, dI) vwCl [] H := hP
  have hD : va_D A [] := hD
  obtain rfl : r_11 = -2 := hw_12
  refine lv_icmp_eq (tgt := 1569) hx hb dL_law_1316 (by decide) (fun _ => ?_) (fun h => absurd (by decide) h)
  refine lv_iinc (v := 6) (lv' := [(3, .int 6), (2, .ref m0), (1, .ref x0), (0, .ref b)]) hx hb dL_law_1569 hl (k := 0) rfl (by decide) (by decide) rfl (fun ls hl => ?_)
  refine lv_goto (tgt := 18) hx hb dL_law_1572 (by decide) ?_
  exact law_exit C0 hA2 hS (lv_sub hl [0, 3] rfl) (by decide) (by omega) (by omega)

set_option maxHeartbeats 4000000 in
set_option maxRecDepth 100000 in
/-- the law, its call 37: count -/
theorem law_37 {p : Program} {e : Env} {s : State} {m : MethodId} {below : List Frame} {meth : Method} {c : Code} (l : Launch) {b : Nat} {xs : Nat → Int32} (C0 : lw_At p s m meth c b 6 xs) {A : Nat → Prop} (hA : ∀ q, s.heap.size ≤ q → A q) (hA2 : ∀ q, A q → s.heap.size ≤ q) {x0 : Nat} {tp : Nat} {rd : Nat} {gd : Nat} {im : Nat} {rw : Nat} {gn : Nat} {ho : Nat} {sq : Nat} {pl : Nat} {gdt : Nat} {gdu : Nat} {gdn : Nat} {plf : Nat} {plo : Nat} {plb : Nat} {pla : Nat} {r0 : Nat} {r1 : Nat} {r2 : Nat} {r3 : Nat} {n0 : Nat} {n1 : Nat} {n2 : Nat} {n3 : Nat} {cr : ClassId} {cl0 : ClassId} {cl1 : ClassId} {cl2 : ClassId} {cl3 : ClassId} {fr : Nat → Option Nat} {m0 : Nat} {m_width : Nat} {m_many : Nat} {m_cells : Nat} {m_moved : Nat} {m_tape : Nat} {m_lines : Nat} {m_has : Nat} {m_state : Nat} {m_gate : Nat} {m_guest : Nat} {m_gone : Nat} {m_isKept : Nat} {m_first : Nat} {m_second : Nat} {m_far : Nat} {m_wished : Nat} {m_wasState : Nat} {m_isHere : Nat} {m_round : Nat} {m_bestRound : Nat} {m_taken : Nat} {k_width : ClassId} {k_lines : ClassId} {k_has : ClassId} {fw : Nat → Int32} (hf0 : fr 0 = some r0)  (hf1 : fr 1 = some r1)  (hf2 : fr 2 = some r2)  (hf3 : fr 3 = some r3) (hg0 : fw 0 = -1)  (hg1 : fw 1 = -1)  (hg2 : fw 2 = -1)  (hg3 : fw 3 = -1) (hE0 : Kx s) {dC : Nat → ClassId} {dI : Nat → Nat → Nat} (hK : va_K (dC, dI) vwCl [(cr, .object RX5), (cl0, .long), (cl1, .long), (cl2, .long), (cl3, .long), (k_width, .int), (k_lines, .int), (k_has, .int)] s) {H : Heap} {locs : List Loc} (hP : va_P (dC, dI) vwCl [(x0, .inr (6, [.ref tp, .int 0, .int 0, .int (-1), .ref rd, .ref gd, .ref im, .ref rw, .ref gn, .ref ho, .ref sq])), (gd, .inr (0, [.ref pl, .int 0, .long 0, .long 0, .int 0, .int (-1), .int 0, .ref gdt, .int 0, .ref gdu, .int 0, .ref gdn])), (pl, .inr (3, [.int 0, .int 0, .int 0, .int 0, .long 0, .ref plf, .ref plo, .ref plb, .ref pla])), (rw, .inl (cr, 4, .inr (.inr (.inr (.inr fr))))), (r0, .inr (5, [.int 0, .int 0, .int 0, .ref n0])), (n0, .inl (cl0, 60, .inr (.inl (fun _ => 0)))), (r1, .inr (5, [.int 0, .int 0, .int 0, .ref n1])), (n1, .inl (cl1, 60, .inr (.inl (fun _ => 0)))), (r2, .inr (5, [.int 0, .int 0, .int 0, .ref n2])), (n2, .inl (cl2, 60, .inr (.inl (fun _ => 0)))), (r3, .inr (5, [.int 0, .int 0, .int 0, .ref n3])), (n3, .inl (cl3, 60, .inr (.inl (fun _ => 0)))), (m0, .inr (7, [.int 0, .ref m_width, .ref m_many, .ref m_cells, .ref m_moved, .ref m_tape, .int 0, .int 0, .int 0, .int 0, .int 0, .long 0, .int 0, .int 0, .int 0, .int (-1), .ref m_lines, .ref m_has, .ref m_state, .ref m_gate, .ref m_guest, .ref m_gone, .int 0, .ref m_isKept, .ref m_first, .ref m_second, .int 0, .ref m_far, .ref m_wished, .ref m_wasState, .ref m_isHere, .ref m_round, .ref m_bestRound, .int 0, .int 0, .long 0, .long 0, .ref m_taken, .int 0])), (m_width, .inl (k_width, 4, .inl fw)), (m_lines, .inl (k_lines, 5, .inl (fun _ => 0))), (m_has, .inl (k_has, 45, .inl (fun _ => 0)))] H) (hD : va_D A [(x0, .inr (6, [.ref tp, .int 0, .int 0, .int (-1), .ref rd, .ref gd, .ref im, .ref rw, .ref gn, .ref ho, .ref sq])), (gd, .inr (0, [.ref pl, .int 0, .long 0, .long 0, .int 0, .int (-1), .int 0, .ref gdt, .int 0, .ref gdu, .int 0, .ref gdn])), (pl, .inr (3, [.int 0, .int 0, .int 0, .int 0, .long 0, .ref plf, .ref plo, .ref plb, .ref pla])), (rw, .inl (cr, 4, .inr (.inr (.inr (.inr fr))))), (r0, .inr (5, [.int 0, .int 0, .int 0, .ref n0])), (n0, .inl (cl0, 60, .inr (.inl (fun _ => 0)))), (r1, .inr (5, [.int 0, .int 0, .int 0, .ref n1])), (n1, .inl (cl1, 60, .inr (.inl (fun _ => 0)))), (r2, .inr (5, [.int 0, .int 0, .int 0, .ref n2])), (n2, .inl (cl2, 60, .inr (.inl (fun _ => 0)))), (r3, .inr (5, [.int 0, .int 0, .int 0, .ref n3])), (n3, .inl (cl3, 60, .inr (.inl (fun _ => 0)))), (m0, .inr (7, [.int 0, .ref m_width, .ref m_many, .ref m_cells, .ref m_moved, .ref m_tape, .int 0, .int 0, .int 0, .int 0, .int 0, .long 0, .int 0, .int 0, .int 0, .int (-1), .ref m_lines, .ref m_has, .ref m_state, .ref m_gate, .ref m_guest, .ref m_gone, .int 0, .ref m_isKept, .ref m_first, .ref m_second, .int 0, .ref m_far, .ref m_wished, .ref m_wasState, .ref m_isHere, .ref m_round, .ref m_bestRound, .int 0, .int 0, .long 0, .long 0, .ref m_taken, .int 0])), (m_width, .inl (k_width, 4, .inl fw)), (m_lines, .inl (k_lines, 5, .inl (fun _ => 0))), (m_has, .inl (k_has, 45, .inl (fun _ => 0)))]) (hS : va_S A s.heap H locs) {ls : Array Slot} (hl : lv_has ls 4 [(3, .int 0), (2, .ref m0), (1, .ref x0), (0, .ref b)]) : W p l e room_1 s m #[Value.ref b] below meth c H locs 70 7203 (lw_Z below #[Value.ref b] s) (F0 m 1321 ls []) := by
  obtain ⟨hx, hb, hr, hml, hown, hts, hX, hbl, hlocks, hgv⟩ := id C0
  have hown : s.vm.findClass RL = some m.cls := hown
  have hts := fun w (h : w ∈ wz_law) => hts w (wz_law_in w h)
  have hbA : ¬ A b := fun h => absurd (hA2 b h) (Nat.not_le.mpr hbl)
  obtain ⟨a0, ea0⟩ : ∃ y : Int32, y = xs (0 : Int32).toNatClampNeg := ⟨_, rfl⟩
  obtain ⟨a1, ea1⟩ : ∃ y : Int32, y = xs (1 : Int32).toNatClampNeg := ⟨_, rfl⟩
  obtain ⟨a2, ea2⟩ : ∃ y : Int32, y = xs (2 : Int32).toNatClampNeg := ⟨_, rfl⟩
  obtain ⟨a3, ea3⟩ : ∃ y : Int32, y = xs (3 : Int32).toNatClampNeg := ⟨_, rfl⟩
  obtain ⟨a4, ea4⟩ : ∃ y : Int32, y = xs (4 : Int32).toNatClampNeg := ⟨_, rfl⟩
  obtain ⟨a5, ea5⟩ : ∃ y : Int32, y = xs (5 : Int32).toNatClampNeg := ⟨_, rfl⟩
  refine lv_aload_n hx hb dL_law_1321 rfl (lv_at hl 2 rfl) ?_
  refine lv_aload_n hx hb dL_law_1322 rfl (lv_at hl 3 rfl) ?_
  refine lv_iload_n hx hb dL_law_1323 rfl (lv_at hl 0 rfl) ?_
  refine lv_iconst (v := 1) hx hb dL_law_1324 (by decide) ?_
  refine lv_iadd hx hb dL_law_1325 ?_
  refine lv_topi (fun z_1 ez_1 => ?_)
  obtain rfl : z_1 = 1 := ez_1.trans (by decide)
  refine va_sld hx hb hX hbl hbA hS (vp_in_iff.mpr ⟨by decide, by decide⟩) dL_law_1326 ?_
  refine lv_topi (fun z_2 ez_2 => ?_)
  obtain rfl : a1 = z_2 := ea1.trans ez_2.symm
  have hPc := hP.sub (ws' := [(x0, .inr (6, [.ref tp, .int 0, .int 0, .int (-1), .ref rd, .ref gd, .ref im, .ref rw, .ref gn, .ref ho, .ref sq])), (gd, .inr (0, [.ref pl, .int 0, .long 0, .long 0, .int 0, .int (-1), .int 0, .ref gdt, .int 0, .ref gdu, .int 0, .ref gdn])), (pl, .inr (3, [.int 0, .int 0, .int 0, .int 0, .long 0, .ref plf, .ref plo, .ref plb, .ref pla])), (rw, .inl (cr, 4, .inr (.inr (.inr (.inr fr))))), (r0, .inr (5, [.int 0, .int 0, .int 0, .ref n0])), (n0, .inl (cl0, 60, .inr (.inl (fun _ => 0)))), (r1, .inr (5, [.int 0, .int 0, .int 0, .ref n1])), (n1, .inl (cl1, 60, .inr (.inl (fun _ => 0)))), (r2, .inr (5, [.int 0, .int 0, .int 0, .ref n2])), (n2, .inl (cl2, 60, .inr (.inl (fun _ => 0)))), (r3, .inr (5, [.int 0, .int 0, .int 0, .ref n3])), (n3, .inl (cl3, 60, .inr (.inl (fun _ => 0))))]) [0, 1, 2, 3, 4, 5, 6, 7, 8, 9, 10, 11] rfl
  have hDc := hD.sub (ws' := [(x0, .inr (6, [.ref tp, .int 0, .int 0, .int (-1), .ref rd, .ref gd, .ref im, .ref rw, .ref gn, .ref ho, .ref sq])), (gd, .inr (0, [.ref pl, .int 0, .long 0, .long 0, .int 0, .int (-1), .int 0, .ref gdt, .int 0, .ref gdu, .int 0, .ref gdn])), (pl, .inr (3, [.int 0, .int 0, .int 0, .int 0, .long 0, .ref plf, .ref plo, .ref plb, .ref pla])), (rw, .inl (cr, 4, .inr (.inr (.inr (.inr fr))))), (r0, .inr (5, [.int 0, .int 0, .int 0, .ref n0])), (n0, .inl (cl0, 60, .inr (.inl (fun _ => 0)))), (r1, .inr (5, [.int 0, .int 0, .int 0, .ref n1])), (n1, .inl (cl1, 60, .inr (.inl (fun _ => 0)))), (r2, .inr (5, [.int 0, .int 0, .int 0, .ref n2])), (n2, .inl (cl2, 60, .inr (.inl (fun _ => 0)))), (r3, .inr (5, [.int 0, .int 0, .int 0, .ref n3])), (n3, .inl (cl3, 60, .inr (.inl (fun _ => 0))))]) [0, 1, 2, 3, 4, 5, 6, 7, 8, 9, 10, 11] (by decide) rfl
  have hKc := hK.sub (tys' := [(cr, .object RX5), (cl0, .long), (cl1, .long), (cl2, .long), (cl3, .long)]) [0, 1, 2, 3, 4] rfl
  have hFc := va_free (wc := [(x0, .inr (6, [.ref tp, .int 0, .int 0, .int (-1), .ref rd, .ref gd, .ref im, .ref rw, .ref gn, .ref ho, .ref sq])), (gd, .inr (0, [.ref pl, .int 0, .long 0, .long 0, .int 0, .int (-1), .int 0, .ref gdt, .int 0, .ref gdu, .int 0, .ref gdn])), (pl, .inr (3, [.int 0, .int 0, .int 0, .int 0, .long 0, .ref plf, .ref plo, .ref plb, .ref pla])), (rw, .inl (cr, 4, .inr (.inr (.inr (.inr fr))))), (r0, .inr (5, [.int 0, .int 0, .int 0, .ref n0])), (n0, .inl (cl0, 60, .inr (.inl (fun _ => 0)))), (r1, .inr (5, [.int 0, .int 0, .int 0, .ref n1])), (n1, .inl (cl1, 60, .inr (.inl (fun _ => 0)))), (r2, .inr (5, [.int 0, .int 0, .int 0, .ref n2])), (n2, .inl (cl2, 60, .inr (.inl (fun _ => 0)))), (r3, .inr (5, [.int 0, .int 0, .int 0, .ref n3])), (n3, .inl (cl3, 60, .inr (.inl (fun _ => 0))))]) hD hS hA [0, 1, 2, 3, 4, 5, 6, 7, 8, 9, 10, 11] rfl
  refine va_calli (va_runV (As := [.int a1]) (rest := []) ⟨hx, hb, hml, hown, hts⟩ (c_X6_count l dC dI H.size x0 tp rd gd im rw gn ho sq pl gdt gdu gdn plf plo plb pla cr fr r0 r1 r2 r3 n0 n1 n2 n3 cl0 cl1 cl2 cl3 a1 hf0 hf1 hf2 hf3) (cwV 1 hts g_law_X6_count rfl rfl rfl (by decide +kernel) ⟨Nat.le_of_ble_eq_true rfl, Nat.le_of_ble_eq_true rfl⟩) ⟨fun a U g mk q => by obtain ⟨q0, q1, qP, qK, qD⟩ := q; exact ⟨q0, q1, qP, va_K.moved (u := U) (U := U.calling g mk a) (Vm.Alike.refl U.vm) qK, qD⟩, va_recv hKc hPc (ci := 6) (q0 := 0) rfl rfl, fun U hU hW => ⟨rfl, by rw [hU], by rw [hU]; exact hPc, va_K.moved hW.alike hKc, hDc.weaken (fun _ _ _ _ => trivial)⟩⟩ rfl rfl hl.1 rfl (lv_room (Nat.le_of_ble_eq_true rfl)) dL_law_1327 ⟨Nat.le_of_ble_eq_true rfl, Nat.le_of_ble_eq_true rfl⟩) hS (fun q _ h => hFc q h) hFc (fun r_3 u t H1 locs ht hvm hw_4 hB hz1 hk1 hS => ?_)
  have hP1 : va_P (dC, dI) vwCl [] H1 := i_nilP
  have hD1 : va_D (va_A [(x0, .inr (6, [.ref tp, .int 0, .int 0, .int (-1), .ref rd, .ref gd, .ref im, .ref rw, .ref gn, .ref ho, .ref sq])), (gd, .inr (0, [.ref pl, .int 0, .long 0, .long 0, .int 0, .int (-1), .int 0, .ref gdt, .int 0, .ref gdu, .int 0, .ref gdn])), (pl, .inr (3, [.int 0, .int 0, .int 0, .int 0, .long 0, .ref plf, .ref plo, .ref plb, .ref pla])), (rw, .inl (cr, 4, .inr (.inr (.inr (.inr fr))))), (r0, .inr (5, [.int 0, .int 0, .int 0, .ref n0])), (n0, .inl (cl0, 60, .inr (.inl (fun _ => 0)))), (r1, .inr (5, [.int 0, .int 0, .int 0, .ref n1])), (n1, .inl (cl1, 60, .inr (.inl (fun _ => 0)))), (r2, .inr (5, [.int 0, .int 0, .int 0, .ref n2])), (n2, .inl (cl2, 60, .inr (.inl (fun _ => 0)))), (r3, .inr (5, [.int 0, .int 0, .int 0, .ref n3])), (n3, .inl (cl3, 60, .inr (.inl (fun _ => 0))))] H.size) [] := i_nilD
  try dsimp only at hw_4
  obtain ⟨hP, hD⟩ := va_join (wr := [(m0, .inr (7, [.int 0, .ref m_width, .ref m_many, .ref m_cells, .ref m_moved, .ref m_tape, .int 0, .int 0, .int 0, .int 0, .int 0, .long 0, .int 0, .int 0, .int 0, .int (-1), .ref m_lines, .ref m_has, .ref m_state, .ref m_gate, .ref m_guest, .ref m_gone, .int 0, .ref m_isKept, .ref m_first, .ref m_second, .int 0, .ref m_far, .ref m_wished, .ref m_wasState, .ref m_isHere, .ref m_round, .ref m_bestRound, .int 0, .int 0, .long 0, .long 0, .ref m_taken, .int 0])), (m_width, .inl (k_width, 4, .inl fw)), (m_lines, .inl (k_lines, 5, .inl (fun _ => 0))), (m_has, .inl (k_has, 45, .inl (fun _ => 0)))]) (w1 := []) hP hD [0, 1, 2, 3, 4, 5, 6, 7, 8, 9, 10, 11] [12, 13, 14, 15] rfl rfl (by decide) (by decide) hk1 hFc hP1 hD1
  generalize H1 = H at hP hS ⊢
  have hP : va_P (dC, dI) vwCl [(m0, .inr (7, [.int 0, .ref m_width, .ref m_many, .ref m_cells, .ref m_moved, .ref m_tape, .int 0, .int 0, .int 0, .int 0, .int 0, .long 0, .int 0, .int 0, .int 0, .int (-1), .ref m_lines, .ref m_has, .ref m_state, .ref m_gate, .ref m_guest, .ref m_gone, .int 0, .ref m_isKept, .ref m_first, .ref m_second, .int 0, .ref m_far, .ref m_wished, .ref m_wasState, .ref m_isHere, .ref m_round, .ref m_bestRound, .int 0, .int 0, .long 0, .long 0, .ref m_taken, .int 0])), (m_width, .inl (k_width, 4, .inl fw)), (m_lines, .inl (k_lines, 5, .inl (fun _ => 0))), (m_has, .inl (k_has, 45, .inl (fun _ => 0)))] H := hP
  have hD : va_D A [(m0, .inr (7, [.int 0, .ref m_width, .ref m_many, .ref m_cells, .ref m_moved, .ref m_tape, .int 0, .int 0, .int 0, .int 0, .int 0, .long 0, .int 0, .int 0, .int 0, .int (-1), .ref m_lines, .ref m_has, .ref m_state, .ref m_gate, .ref m_guest, .ref m_gone, .int 0, .ref m_isKept, .ref m_first, .ref m_second, .int 0, .ref m_far, .ref m_wished, .ref m_wasState, .ref m_isHere, .ref m_round, .ref m_bestRound, .int 0, .int 0, .long 0, .long 0, .ref m_taken, .int 0])), (m_width, .inl (k_width, 4, .inl fw)), (m_lines, .inl (k_lines, 5, .inl (fun _ => 0))), (m_has, .inl (k_has, 45, .inl (fun _ => 0)))] := hD
  refine lv_aload_n hx hb dL_law_1330 rfl (lv_at hl 1 rfl) ?_
  refine lv_aload_n hx hb dL_law_1331 rfl (lv_at hl 3 rfl) ?_
  refine lv_iload_n hx hb dL_law_1332 rfl (lv_at hl 0 rfl) ?_
  refine lv_iconst (v := 1) hx hb dL_law_1333 (by decide) ?_
  refine lv_iadd hx hb dL_law_1334 ?_
  refine lv_topi (fun z_5 ez_5 => ?_)
  obtain rfl : z_5 = 1 := ez_5.trans (by decide)
  refine va_sld hx hb hX hbl hbA hS (vp_in_iff.mpr ⟨by decide, by decide⟩) dL_law_1335 ?_
  refine lv_topi (fun z_6 ez_6 => ?_)
  obtain rfl : a1 = z_6 := ea1.trans ez_6.symm
  have hPc := hP.sub (ws' := [(m0, .inr (7, [.int 0, .ref m_width, .ref m_many, .ref m_cells, .ref m_moved, .ref m_tape, .int 0, .int 0, .int 0, .int 0, .int 0, .long 0, .int 0, .int 0, .int 0, .int (-1), .ref m_lines, .ref m_has, .ref m_state, .ref m_gate, .ref m_guest, .ref m_gone, .int 0, .ref m_isKept, .ref m_first, .ref m_second, .int 0, .ref m_far, .ref m_wished, .ref m_wasState, .ref m_isHere, .ref m_round, .ref m_bestRound, .int 0, .int 0, .long 0, .long 0, .ref m_taken, .int 0])), (m_has, .inl (k_has, 45, .inl (fun _ => 0))), (m_lines, .inl (k_lines, 5, .inl (fun _ => 0))), (m_width, .inl (k_width, 4, .inl fw))]) [0, 3, 2, 1] rfl
  have hDc := hD.sub (ws' := [(m0, .inr (7, [.int 0, .ref m_width, .ref m_many, .ref m_cells, .ref m_moved, .ref m_tape, .int 0, .int 0, .int 0, .int 0, .int 0, .long 0, .int 0, .int 0, .int 0, .int (-1), .ref m_lines, .ref m_has, .ref m_state, .ref m_gate, .ref m_guest, .ref m_gone, .int 0, .ref m_isKept, .ref m_first, .ref m_second, .int 0, .ref m_far, .ref m_wished, .ref m_wasState, .ref m_isHere, .ref m_round, .ref m_bestRound, .int 0, .int 0, .long 0, .long 0, .ref m_taken, .int 0])), (m_has, .inl (k_has, 45, .inl (fun _ => 0))), (m_lines, .inl (k_lines, 5, .inl (fun _ => 0))), (m_width, .inl (k_width, 4, .inl fw))]) [0, 3, 2, 1] (by decide) rfl
  have hKc := hK.sub (tys' := [(k_has, .int), (k_lines, .int), (k_width, .int)]) [7, 6, 5] rfl
  have hFc := va_free (wc := [(m0, .inr (7, [.int 0, .ref m_width, .ref m_many, .ref m_cells, .ref m_moved, .ref m_tape, .int 0, .int 0, .int 0, .int 0, .int 0, .long 0, .int 0, .int 0, .int 0, .int (-1), .ref m_lines, .ref m_has, .ref m_state, .ref m_gate, .ref m_guest, .ref m_gone, .int 0, .ref m_isKept, .ref m_first, .ref m_second, .int 0, .ref m_far, .ref m_wished, .ref m_wasState, .ref m_isHere, .ref m_round, .ref m_bestRound, .int 0, .int 0, .long 0, .long 0, .ref m_taken, .int 0])), (m_has, .inl (k_has, 45, .inl (fun _ => 0))), (m_lines, .inl (k_lines, 5, .inl (fun _ => 0))), (m_width, .inl (k_width, 4, .inl fw))]) hD hS hA [0, 3, 2, 1] rfl
  refine va_calli (va_runV (As := [.int a1]) (rest := [.int r_3]) ⟨hx, hb, hml, hown, hts⟩ (c_X7_count l dC dI H.size m0 m_width m_many m_cells m_moved m_tape m_lines m_has m_state m_gate m_guest m_gone m_isKept m_first m_second m_far m_wished m_wasState m_isHere m_round m_bestRound m_taken k_has k_lines k_width fw a1 hg0 hg1 hg2 hg3) (cwV 1 hts g_law_X7_count rfl rfl rfl (by decide +kernel) ⟨Nat.le_of_ble_eq_true rfl, Nat.le_of_ble_eq_true rfl⟩) ⟨fun a U g mk q => by obtain ⟨q0, q1, qP, qK, qD⟩ := q; exact ⟨q0, q1, qP, va_K.moved (u := U) (U := U.calling g mk a) (Vm.Alike.refl U.vm) qK, qD⟩, va_recv hKc hPc (ci := 7) (q0 := 0) rfl rfl, fun U hU hW => ⟨rfl, by rw [hU], by rw [hU]; exact hPc, va_K.moved hW.alike hKc, hDc.weaken (fun _ _ _ _ => trivial)⟩⟩ rfl rfl hl.1 rfl (lv_room (Nat.le_of_ble_eq_true rfl)) dL_law_1336 ⟨Nat.le_of_ble_eq_true rfl, Nat.le_of_ble_eq_true rfl⟩) hS (fun q _ h => hFc q h) hFc (fun r_7 u t H1 locs ht hvm hw_8 hB hz1 hk1 hS => ?_)
  have hP1 : va_P (dC, dI) vwCl [] H1 := i_nilP
  have hD1 : va_D (va_A [(m0, .inr (7, [.int 0, .ref m_width, .ref m_many, .ref m_cells, .ref m_moved, .ref m_tape, .int 0, .int 0, .int 0, .int 0, .int 0, .long 0, .int 0, .int 0, .int 0, .int (-1), .ref m_lines, .ref m_has, .ref m_state, .ref m_gate, .ref m_guest, .ref m_gone, .int 0, .ref m_isKept, .ref m_first, .ref m_second, .int 0, .ref m_far, .ref m_wished, .ref m_wasState, .ref m_isHere, .ref m_round, .ref m_bestRound, .int 0, .int 0, .long 0, .long 0, .ref m_taken, .int 0])), (m_has, .inl (k_has, 45, .inl (fun _ => 0))), (m_lines, .inl (k_lines, 5, .inl (fun _ => 0))), (m_width, .inl (k_width, 4, .inl fw))] H.size) [] := i_nilD
  try dsimp only at hw_8
  obtain ⟨hP, hD⟩ := va_join (wr := []) (w1 := []) hP hD [0, 3, 2, 1] [] rfl rfl (by decide) (by decide) hk1 hFc hP1 hD1
  generalize H1 = H at hP hS ⊢
  have hP : va_P (dC, dI) vwCl [] H := hP
  have hD : va_D A [] := hD
  refine lv_icmp_eq (tgt := 1569) hx hb dL_law_1339 (by decide) (fun c_9 => ?_) (fun c_9 => absurd (hw_4.trans hw_8.symm) c_9)
  have c_9 : r_3.toInt = r_7.toInt := i_eq (a := r_3) (b := r_7) rfl rfl c_9
  refine lv_iinc (v := 6) (lv' := [(3, .int 6), (2, .ref m0), (1, .ref x0), (0, .ref b)]) hx hb dL_law_1569 hl (k := 0) rfl (by decide) (by decide) rfl (fun ls hl => ?_)
  refine lv_goto (tgt := 18) hx hb dL_law_1572 (by decide) ?_
  exact law_exit C0 hA2 hS (lv_sub hl [0, 3] rfl) (by decide) (by omega) (by omega)

set_option maxHeartbeats 4000000 in
set_option maxRecDepth 100000 in
/-- the law, its call 38: keep -/
theorem law_38 {p : Program} {e : Env} {s : State} {m : MethodId} {below : List Frame} {meth : Method} {c : Code} (l : Launch) {b : Nat} {xs : Nat → Int32} (C0 : lw_At p s m meth c b 6 xs) {A : Nat → Prop} (hA : ∀ q, s.heap.size ≤ q → A q) (hA2 : ∀ q, A q → s.heap.size ≤ q) {x0 : Nat} {tp : Nat} {rd : Nat} {gd : Nat} {im : Nat} {rw : Nat} {gn : Nat} {ho : Nat} {sq : Nat} {pl : Nat} {gdt : Nat} {gdu : Nat} {gdn : Nat} {plf : Nat} {plo : Nat} {plb : Nat} {pla : Nat} {ct : ClassId} {cu : ClassId} {cn : ClassId} {cg : ClassId} {m0 : Nat} {m_width : Nat} {m_many : Nat} {m_cells : Nat} {m_moved : Nat} {m_tape : Nat} {m_lines : Nat} {m_has : Nat} {m_state : Nat} {m_gate : Nat} {m_guest : Nat} {m_gone : Nat} {m_isKept : Nat} {m_first : Nat} {m_second : Nat} {m_far : Nat} {m_wished : Nat} {m_wasState : Nat} {m_isHere : Nat} {m_round : Nat} {m_bestRound : Nat} {m_taken : Nat} {k_lines : ClassId} {k_has : ClassId} {k_state : ClassId} {k_gate : ClassId} {k_guest : ClassId} {k_gone : ClassId} {k_isKept : ClassId} (hE0 : Kx s) {dC : Nat → ClassId} {dI : Nat → Nat → Nat} (hK : va_K (dC, dI) vwCl [(ct, .int), (cu, .int), (cn, .int), (cg, .object RX0), (k_lines, .int), (k_has, .int), (k_state, .int), (k_gate, .int), (k_guest, .int), (k_gone, .int), (k_isKept, .boolean)] s) {H : Heap} {locs : List Loc} (hP : va_P (dC, dI) vwCl [(x0, .inr (6, [.ref tp, .int 0, .int 0, .int (-1), .ref rd, .ref gd, .ref im, .ref rw, .ref gn, .ref ho, .ref sq])), (gd, .inr (0, [.ref pl, .int 0, .long 0, .long 0, .int 0, .int (-1), .int 0, .ref gdt, .int 0, .ref gdu, .int 0, .ref gdn])), (pl, .inr (3, [.int 0, .int 0, .int 0, .int 0, .long 0, .ref plf, .ref plo, .ref plb, .ref pla])), (gdt, .inl (ct, 4, .inl (fun _ => 0))), (gdu, .inl (cu, 5, .inl (fun _ => 0))), (gdn, .inl (cn, 99, .inl (fun _ => 0))), (im, .inl (cg, 3, .inr (.inr (.inr (.inr (fun _ => none)))))), (m0, .inr (7, [.int 0, .ref m_width, .ref m_many, .ref m_cells, .ref m_moved, .ref m_tape, .int 0, .int 0, .int 0, .int 0, .int 0, .long 0, .int 0, .int 0, .int 0, .int (-1), .ref m_lines, .ref m_has, .ref m_state, .ref m_gate, .ref m_guest, .ref m_gone, .int 0, .ref m_isKept, .ref m_first, .ref m_second, .int 0, .ref m_far, .ref m_wished, .ref m_wasState, .ref m_isHere, .ref m_round, .ref m_bestRound, .int 0, .int 0, .long 0, .long 0, .ref m_taken, .int 0])), (m_lines, .inl (k_lines, 5, .inl (fun _ => 0))), (m_has, .inl (k_has, 45, .inl (fun _ => 0))), (m_state, .inl (k_state, 200, .inl (fun _ => 0))), (m_gate, .inl (k_gate, 20, .inl (fun _ => 0))), (m_guest, .inl (k_guest, 25, .inl (fun _ => 0))), (m_gone, .inl (k_gone, 495, .inl (fun _ => 0))), (m_isKept, .inl (k_isKept, 3, .inl (fun _ => 0)))] H) (hD : va_D A [(x0, .inr (6, [.ref tp, .int 0, .int 0, .int (-1), .ref rd, .ref gd, .ref im, .ref rw, .ref gn, .ref ho, .ref sq])), (gd, .inr (0, [.ref pl, .int 0, .long 0, .long 0, .int 0, .int (-1), .int 0, .ref gdt, .int 0, .ref gdu, .int 0, .ref gdn])), (pl, .inr (3, [.int 0, .int 0, .int 0, .int 0, .long 0, .ref plf, .ref plo, .ref plb, .ref pla])), (gdt, .inl (ct, 4, .inl (fun _ => 0))), (gdu, .inl (cu, 5, .inl (fun _ => 0))), (gdn, .inl (cn, 99, .inl (fun _ => 0))), (im, .inl (cg, 3, .inr (.inr (.inr (.inr (fun _ => none)))))), (m0, .inr (7, [.int 0, .ref m_width, .ref m_many, .ref m_cells, .ref m_moved, .ref m_tape, .int 0, .int 0, .int 0, .int 0, .int 0, .long 0, .int 0, .int 0, .int 0, .int (-1), .ref m_lines, .ref m_has, .ref m_state, .ref m_gate, .ref m_guest, .ref m_gone, .int 0, .ref m_isKept, .ref m_first, .ref m_second, .int 0, .ref m_far, .ref m_wished, .ref m_wasState, .ref m_isHere, .ref m_round, .ref m_bestRound, .int 0, .int 0, .long 0, .long 0, .ref m_taken, .int 0])), (m_lines, .inl (k_lines, 5, .inl (fun _ => 0))), (m_has, .inl (k_has, 45, .inl (fun _ => 0))), (m_state, .inl (k_state, 200, .inl (fun _ => 0))), (m_gate, .inl (k_gate, 20, .inl (fun _ => 0))), (m_guest, .inl (k_guest, 25, .inl (fun _ => 0))), (m_gone, .inl (k_gone, 495, .inl (fun _ => 0))), (m_isKept, .inl (k_isKept, 3, .inl (fun _ => 0)))]) (hS : va_S A s.heap H locs) {ls : Array Slot} (hl : lv_has ls 4 [(3, .int 0), (2, .ref m0), (1, .ref x0), (0, .ref b)]) : W p l e room_1 s m #[Value.ref b] below meth c H locs 70 7203 (lw_Z below #[Value.ref b] s) (F0 m 1344 ls []) := by
  obtain ⟨hx, hb, hr, hml, hown, hts, hX, hbl, hlocks, hgv⟩ := id C0
  have hown : s.vm.findClass RL = some m.cls := hown
  have hts := fun w (h : w ∈ wz_law) => hts w (wz_law_in w h)
  have hbA : ¬ A b := fun h => absurd (hA2 b h) (Nat.not_le.mpr hbl)
  obtain ⟨a0, ea0⟩ : ∃ y : Int32, y = xs (0 : Int32).toNatClampNeg := ⟨_, rfl⟩
  obtain ⟨a1, ea1⟩ : ∃ y : Int32, y = xs (1 : Int32).toNatClampNeg := ⟨_, rfl⟩
  obtain ⟨a2, ea2⟩ : ∃ y : Int32, y = xs (2 : Int32).toNatClampNeg := ⟨_, rfl⟩
  obtain ⟨a3, ea3⟩ : ∃ y : Int32, y = xs (3 : Int32).toNatClampNeg := ⟨_, rfl⟩
  obtain ⟨a4, ea4⟩ : ∃ y : Int32, y = xs (4 : Int32).toNatClampNeg := ⟨_, rfl⟩
  obtain ⟨a5, ea5⟩ : ∃ y : Int32, y = xs (5 : Int32).toNatClampNeg := ⟨_, rfl⟩
  refine lv_aload_n hx hb dL_law_1344 rfl (lv_at hl 2 rfl) ?_
  refine lv_aload_n hx hb dL_law_1345 rfl (lv_at hl 3 rfl) ?_
  refine lv_iload_n hx hb dL_law_1346 rfl (lv_at hl 0 rfl) ?_
  refine lv_iconst (v := 1) hx hb dL_law_1347 (by decide) ?_
  refine lv_iadd hx hb dL_law_1348 ?_
  refine lv_topi (fun z_1 ez_1 => ?_)
  obtain rfl : z_1 = 1 := ez_1.trans (by decide)
  refine va_sld hx hb hX hbl hbA hS (vp_in_iff.mpr ⟨by decide, by decide⟩) dL_law_1349 ?_
  refine lv_topi (fun z_2 ez_2 => ?_)
  obtain rfl : a1 = z_2 := ea1.trans ez_2.symm
  have hPc := hP.sub (ws' := [(x0, .inr (6, [.ref tp, .int 0, .int 0, .int (-1), .ref rd, .ref gd, .ref im, .ref rw, .ref gn, .ref ho, .ref sq])), (gd, .inr (0, [.ref pl, .int 0, .long 0, .long 0, .int 0, .int (-1), .int 0, .ref gdt, .int 0, .ref gdu, .int 0, .ref gdn])), (pl, .inr (3, [.int 0, .int 0, .int 0, .int 0, .long 0, .ref plf, .ref plo, .ref plb, .ref pla])), (gdt, .inl (ct, 4, .inl (fun _ => 0))), (gdu, .inl (cu, 5, .inl (fun _ => 0))), (gdn, .inl (cn, 99, .inl (fun _ => 0))), (im, .inl (cg, 3, .inr (.inr (.inr (.inr (fun _ => none))))))]) [0, 1, 2, 3, 4, 5, 6] rfl
  have hDc := hD.sub (ws' := [(x0, .inr (6, [.ref tp, .int 0, .int 0, .int (-1), .ref rd, .ref gd, .ref im, .ref rw, .ref gn, .ref ho, .ref sq])), (gd, .inr (0, [.ref pl, .int 0, .long 0, .long 0, .int 0, .int (-1), .int 0, .ref gdt, .int 0, .ref gdu, .int 0, .ref gdn])), (pl, .inr (3, [.int 0, .int 0, .int 0, .int 0, .long 0, .ref plf, .ref plo, .ref plb, .ref pla])), (gdt, .inl (ct, 4, .inl (fun _ => 0))), (gdu, .inl (cu, 5, .inl (fun _ => 0))), (gdn, .inl (cn, 99, .inl (fun _ => 0))), (im, .inl (cg, 3, .inr (.inr (.inr (.inr (fun _ => none))))))]) [0, 1, 2, 3, 4, 5, 6] (by decide) rfl
  have hKc := hK.sub (tys' := [(ct, .int), (cu, .int), (cn, .int), (cg, .object RX0)]) [0, 1, 2, 3] rfl
  have hFc := va_free (wc := [(x0, .inr (6, [.ref tp, .int 0, .int 0, .int (-1), .ref rd, .ref gd, .ref im, .ref rw, .ref gn, .ref ho, .ref sq])), (gd, .inr (0, [.ref pl, .int 0, .long 0, .long 0, .int 0, .int (-1), .int 0, .ref gdt, .int 0, .ref gdu, .int 0, .ref gdn])), (pl, .inr (3, [.int 0, .int 0, .int 0, .int 0, .long 0, .ref plf, .ref plo, .ref plb, .ref pla])), (gdt, .inl (ct, 4, .inl (fun _ => 0))), (gdu, .inl (cu, 5, .inl (fun _ => 0))), (gdn, .inl (cn, 99, .inl (fun _ => 0))), (im, .inl (cg, 3, .inr (.inr (.inr (.inr (fun _ => none))))))]) hD hS hA [0, 1, 2, 3, 4, 5, 6] rfl
  refine va_calli (va_runV (As := [.int a1]) (rest := []) ⟨hx, hb, hml, hown, hts⟩ (c_X6_keep l dC dI H.size x0 tp rd gd im rw gn ho sq pl gdt gdu gdn plf plo plb pla ct cu cn cg a1 ) (cwV 1 hts g_law_X6_keep rfl rfl rfl (by decide +kernel) ⟨Nat.le_of_ble_eq_true rfl, Nat.le_of_ble_eq_true rfl⟩) ⟨fun a U g mk q => by obtain ⟨q0, q1, qP, qK, qD, qE0⟩ := q; exact ⟨q0, q1, qP, va_K.moved (u := U) (U := U.calling g mk a) (Vm.Alike.refl U.vm) qK, qD, Kx.same rfl qE0⟩, va_recv hKc hPc (ci := 6) (q0 := 0) rfl rfl, fun U hU hW => ⟨rfl, by rw [hU], by rw [hU]; exact hPc, va_K.moved hW.alike hKc, hDc.weaken (fun _ _ _ _ => trivial), Kx.warm hW hE0⟩⟩ rfl rfl hl.1 rfl (lv_room (Nat.le_of_ble_eq_true rfl)) dL_law_1350 ⟨Nat.le_of_ble_eq_true rfl, Nat.le_of_ble_eq_true rfl⟩) hS (fun q _ h => hFc q h) hFc (fun r_3 u t H1 locs ht hvm hw_4 hB hz1 hk1 hS => ?_)
  have hP1 : va_P (dC, dI) vwCl [] H1 := i_nilP
  have hD1 : va_D (va_A [(x0, .inr (6, [.ref tp, .int 0, .int 0, .int (-1), .ref rd, .ref gd, .ref im, .ref rw, .ref gn, .ref ho, .ref sq])), (gd, .inr (0, [.ref pl, .int 0, .long 0, .long 0, .int 0, .int (-1), .int 0, .ref gdt, .int 0, .ref gdu, .int 0, .ref gdn])), (pl, .inr (3, [.int 0, .int 0, .int 0, .int 0, .long 0, .ref plf, .ref plo, .ref plb, .ref pla])), (gdt, .inl (ct, 4, .inl (fun _ => 0))), (gdu, .inl (cu, 5, .inl (fun _ => 0))), (gdn, .inl (cn, 99, .inl (fun _ => 0))), (im, .inl (cg, 3, .inr (.inr (.inr (.inr (fun _ => none))))))] H.size) [] := i_nilD
  try dsimp only at hw_4
  obtain ⟨hP, hD⟩ := va_join (wr := [(m0, .inr (7, [.int 0, .ref m_width, .ref m_many, .ref m_cells, .ref m_moved, .ref m_tape, .int 0, .int 0, .int 0, .int 0, .int 0, .long 0, .int 0, .int 0, .int 0, .int (-1), .ref m_lines, .ref m_has, .ref m_state, .ref m_gate, .ref m_guest, .ref m_gone, .int 0, .ref m_isKept, .ref m_first, .ref m_second, .int 0, .ref m_far, .ref m_wished, .ref m_wasState, .ref m_isHere, .ref m_round, .ref m_bestRound, .int 0, .int 0, .long 0, .long 0, .ref m_taken, .int 0])), (m_lines, .inl (k_lines, 5, .inl (fun _ => 0))), (m_has, .inl (k_has, 45, .inl (fun _ => 0))), (m_state, .inl (k_state, 200, .inl (fun _ => 0))), (m_gate, .inl (k_gate, 20, .inl (fun _ => 0))), (m_guest, .inl (k_guest, 25, .inl (fun _ => 0))), (m_gone, .inl (k_gone, 495, .inl (fun _ => 0))), (m_isKept, .inl (k_isKept, 3, .inl (fun _ => 0)))]) (w1 := []) hP hD [0, 1, 2, 3, 4, 5, 6] [7, 8, 9, 10, 11, 12, 13, 14] rfl rfl (by decide) (by decide) hk1 hFc hP1 hD1
  generalize H1 = H at hP hS ⊢
  have hP : va_P (dC, dI) vwCl [(m0, .inr (7, [.int 0, .ref m_width, .ref m_many, .ref m_cells, .ref m_moved, .ref m_tape, .int 0, .int 0, .int 0, .int 0, .int 0, .long 0, .int 0, .int 0, .int 0, .int (-1), .ref m_lines, .ref m_has, .ref m_state, .ref m_gate, .ref m_guest, .ref m_gone, .int 0, .ref m_isKept, .ref m_first, .ref m_second, .int 0, .ref m_far, .ref m_wished, .ref m_wasState, .ref m_isHere, .ref m_round, .ref m_bestRound, .int 0, .int 0, .long 0, .long 0, .ref m_taken, .int 0])), (m_lines, .inl (k_lines, 5, .inl (fun _ => 0))), (m_has, .inl (k_has, 45, .inl (fun _ => 0))), (m_state, .inl (k_state, 200, .inl (fun _ => 0))), (m_gate, .inl (k_gate, 20, .inl (fun _ => 0))), (m_guest, .inl (k_guest, 25, .inl (fun _ => 0))), (m_gone, .inl (k_gone, 495, .inl (fun _ => 0))), (m_isKept, .inl (k_isKept, 3, .inl (fun _ => 0)))] H := hP
  have hD : va_D A [(m0, .inr (7, [.int 0, .ref m_width, .ref m_many, .ref m_cells, .ref m_moved, .ref m_tape, .int 0, .int 0, .int 0, .int 0, .int 0, .long 0, .int 0, .int 0, .int 0, .int (-1), .ref m_lines, .ref m_has, .ref m_state, .ref m_gate, .ref m_guest, .ref m_gone, .int 0, .ref m_isKept, .ref m_first, .ref m_second, .int 0, .ref m_far, .ref m_wished, .ref m_wasState, .ref m_isHere, .ref m_round, .ref m_bestRound, .int 0, .int 0, .long 0, .long 0, .ref m_taken, .int 0])), (m_lines, .inl (k_lines, 5, .inl (fun _ => 0))), (m_has, .inl (k_has, 45, .inl (fun _ => 0))), (m_state, .inl (k_state, 200, .inl (fun _ => 0))), (m_gate, .inl (k_gate, 20, .inl (fun _ => 0))), (m_guest, .inl (k_guest, 25, .inl (fun _ => 0))), (m_gone, .inl (k_gone, 495, .inl (fun _ => 0))), (m_isKept, .inl (k_isKept, 3, .inl (fun _ => 0)))] := hD
  refine W.widen (k := 79) (n := 7552) (by omega) (by omega) ?_
  refine lv_aload_n hx hb dL_law_1353 rfl (lv_at hl 1 rfl) ?_
  refine lv_aload_n hx hb dL_law_1354 rfl (lv_at hl 3 rfl) ?_
  refine lv_iload_n hx hb dL_law_1355 rfl (lv_at hl 0 rfl) ?_
  refine lv_iconst (v := 1) hx hb dL_law_1356 (by decide) ?_
  refine lv_iadd hx hb dL_law_1357 ?_
  refine lv_topi (fun z_5 ez_5 => ?_)
  obtain rfl : z_5 = 1 := ez_5.trans (by decide)
  refine va_sld hx hb hX hbl hbA hS (vp_in_iff.mpr ⟨by decide, by decide⟩) dL_law_1358 ?_
  refine lv_topi (fun z_6 ez_6 => ?_)
  obtain rfl : a1 = z_6 := ea1.trans ez_6.symm
  have hPc := hP.sub (ws' := [(m0, .inr (7, [.int 0, .ref m_width, .ref m_many, .ref m_cells, .ref m_moved, .ref m_tape, .int 0, .int 0, .int 0, .int 0, .int 0, .long 0, .int 0, .int 0, .int 0, .int (-1), .ref m_lines, .ref m_has, .ref m_state, .ref m_gate, .ref m_guest, .ref m_gone, .int 0, .ref m_isKept, .ref m_first, .ref m_second, .int 0, .ref m_far, .ref m_wished, .ref m_wasState, .ref m_isHere, .ref m_round, .ref m_bestRound, .int 0, .int 0, .long 0, .long 0, .ref m_taken, .int 0])), (m_lines, .inl (k_lines, 5, .inl (fun _ => 0))), (m_has, .inl (k_has, 45, .inl (fun _ => 0))), (m_state, .inl (k_state, 200, .inl (fun _ => 0))), (m_gate, .inl (k_gate, 20, .inl (fun _ => 0))), (m_guest, .inl (k_guest, 25, .inl (fun _ => 0))), (m_gone, .inl (k_gone, 495, .inl (fun _ => 0))), (m_isKept, .inl (k_isKept, 3, .inl (fun _ => 0)))]) [0, 1, 2, 3, 4, 5, 6, 7] rfl
  have hDc := hD.sub (ws' := [(m0, .inr (7, [.int 0, .ref m_width, .ref m_many, .ref m_cells, .ref m_moved, .ref m_tape, .int 0, .int 0, .int 0, .int 0, .int 0, .long 0, .int 0, .int 0, .int 0, .int (-1), .ref m_lines, .ref m_has, .ref m_state, .ref m_gate, .ref m_guest, .ref m_gone, .int 0, .ref m_isKept, .ref m_first, .ref m_second, .int 0, .ref m_far, .ref m_wished, .ref m_wasState, .ref m_isHere, .ref m_round, .ref m_bestRound, .int 0, .int 0, .long 0, .long 0, .ref m_taken, .int 0])), (m_lines, .inl (k_lines, 5, .inl (fun _ => 0))), (m_has, .inl (k_has, 45, .inl (fun _ => 0))), (m_state, .inl (k_state, 200, .inl (fun _ => 0))), (m_gate, .inl (k_gate, 20, .inl (fun _ => 0))), (m_guest, .inl (k_guest, 25, .inl (fun _ => 0))), (m_gone, .inl (k_gone, 495, .inl (fun _ => 0))), (m_isKept, .inl (k_isKept, 3, .inl (fun _ => 0)))]) [0, 1, 2, 3, 4, 5, 6, 7] (by decide) rfl
  have hKc := hK.sub (tys' := [(k_lines, .int), (k_has, .int), (k_state, .int), (k_gate, .int), (k_guest, .int), (k_gone, .int), (k_isKept, .boolean)]) [4, 5, 6, 7, 8, 9, 10] rfl
  have hFc := va_free (wc := [(m0, .inr (7, [.int 0, .ref m_width, .ref m_many, .ref m_cells, .ref m_moved, .ref m_tape, .int 0, .int 0, .int 0, .int 0, .int 0, .long 0, .int 0, .int 0, .int 0, .int (-1), .ref m_lines, .ref m_has, .ref m_state, .ref m_gate, .ref m_guest, .ref m_gone, .int 0, .ref m_isKept, .ref m_first, .ref m_second, .int 0, .ref m_far, .ref m_wished, .ref m_wasState, .ref m_isHere, .ref m_round, .ref m_bestRound, .int 0, .int 0, .long 0, .long 0, .ref m_taken, .int 0])), (m_lines, .inl (k_lines, 5, .inl (fun _ => 0))), (m_has, .inl (k_has, 45, .inl (fun _ => 0))), (m_state, .inl (k_state, 200, .inl (fun _ => 0))), (m_gate, .inl (k_gate, 20, .inl (fun _ => 0))), (m_guest, .inl (k_guest, 25, .inl (fun _ => 0))), (m_gone, .inl (k_gone, 495, .inl (fun _ => 0))), (m_isKept, .inl (k_isKept, 3, .inl (fun _ => 0)))]) hD hS hA [0, 1, 2, 3, 4, 5, 6, 7] rfl
  refine va_calli (va_runV (As := [.int a1]) (rest := [.int r_3]) ⟨hx, hb, hml, hown, hts⟩ (c_X7_keep l dC dI H.size m0 m_width m_many m_cells m_moved m_tape m_lines m_has m_state m_gate m_guest m_gone m_isKept m_first m_second m_far m_wished m_wasState m_isHere m_round m_bestRound m_taken k_lines k_has k_state k_gate k_guest k_gone k_isKept a1 ) (cwV 1 hts g_law_X7_keep rfl rfl rfl (by decide +kernel) ⟨Nat.le_of_ble_eq_true rfl, Nat.le_of_ble_eq_true rfl⟩) ⟨fun a U g mk q => by obtain ⟨q0, q1, qP, qK, qD⟩ := q; exact ⟨q0, q1, qP, va_K.moved (u := U) (U := U.calling g mk a) (Vm.Alike.refl U.vm) qK, qD⟩, va_recv hKc hPc (ci := 7) (q0 := 0) rfl rfl, fun U hU hW => ⟨rfl, by rw [hU], by rw [hU]; exact hPc, va_K.moved hW.alike hKc, hDc.weaken (fun _ _ _ _ => trivial)⟩⟩ rfl rfl hl.1 rfl (lv_room (Nat.le_of_ble_eq_true rfl)) dL_law_1359 ⟨Nat.le_of_ble_eq_true rfl, Nat.le_of_ble_eq_true rfl⟩) hS (fun q _ h => hFc q h) hFc (fun r_7 u t H1 locs ht hvm hw_8 hB hz1 hk1 hS => ?_)
  have hP1 : va_P (dC, dI) vwCl [] H1 := i_nilP
  have hD1 : va_D (va_A [(m0, .inr (7, [.int 0, .ref m_width, .ref m_many, .ref m_cells, .ref m_moved, .ref m_tape, .int 0, .int 0, .int 0, .int 0, .int 0, .long 0, .int 0, .int 0, .int 0, .int (-1), .ref m_lines, .ref m_has, .ref m_state, .ref m_gate, .ref m_guest, .ref m_gone, .int 0, .ref m_isKept, .ref m_first, .ref m_second, .int 0, .ref m_far, .ref m_wished, .ref m_wasState, .ref m_isHere, .ref m_round, .ref m_bestRound, .int 0, .int 0, .long 0, .long 0, .ref m_taken, .int 0])), (m_lines, .inl (k_lines, 5, .inl (fun _ => 0))), (m_has, .inl (k_has, 45, .inl (fun _ => 0))), (m_state, .inl (k_state, 200, .inl (fun _ => 0))), (m_gate, .inl (k_gate, 20, .inl (fun _ => 0))), (m_guest, .inl (k_guest, 25, .inl (fun _ => 0))), (m_gone, .inl (k_gone, 495, .inl (fun _ => 0))), (m_isKept, .inl (k_isKept, 3, .inl (fun _ => 0)))] H.size) [] := i_nilD
  try dsimp only at hw_8
  obtain ⟨hP, hD⟩ := va_join (wr := []) (w1 := []) hP hD [0, 1, 2, 3, 4, 5, 6, 7] [] rfl rfl (by decide) (by decide) hk1 hFc hP1 hD1
  generalize H1 = H at hP hS ⊢
  have hP : va_P (dC, dI) vwCl [] H := hP
  have hD : va_D A [] := hD
  refine lv_icmp_eq (tgt := 1569) hx hb dL_law_1362 (by decide) (fun c_9 => ?_) (fun c_9 => absurd (hw_4.trans hw_8.symm) c_9)
  have c_9 : r_3.toInt = r_7.toInt := i_eq (a := r_3) (b := r_7) rfl rfl c_9
  refine lv_iinc (v := 6) (lv' := [(3, .int 6), (2, .ref m0), (1, .ref x0), (0, .ref b)]) hx hb dL_law_1569 hl (k := 0) rfl (by decide) (by decide) rfl (fun ls hl => ?_)
  refine lv_goto (tgt := 18) hx hb dL_law_1572 (by decide) ?_
  exact law_exit C0 hA2 hS (lv_sub hl [0, 3] rfl) (by decide) (by omega) (by omega)

set_option maxHeartbeats 4000000 in
set_option maxRecDepth 100000 in
/-- the law, its call 39: back -/
theorem law_39 {p : Program} {e : Env} {s : State} {m : MethodId} {below : List Frame} {meth : Method} {c : Code} (l : Launch) {b : Nat} {xs : Nat → Int32} (C0 : lw_At p s m meth c b 6 xs) {A : Nat → Prop} (hA : ∀ q, s.heap.size ≤ q → A q) (hA2 : ∀ q, A q → s.heap.size ≤ q) {x0 : Nat} {tp : Nat} {rd : Nat} {gd : Nat} {im : Nat} {rw : Nat} {gn : Nat} {ho : Nat} {sq : Nat} {cg : ClassId} {m0 : Nat} {m_width : Nat} {m_many : Nat} {m_cells : Nat} {m_moved : Nat} {m_tape : Nat} {m_lines : Nat} {m_has : Nat} {m_state : Nat} {m_gate : Nat} {m_guest : Nat} {m_gone : Nat} {m_isKept : Nat} {m_first : Nat} {m_second : Nat} {m_far : Nat} {m_wished : Nat} {m_wasState : Nat} {m_isHere : Nat} {m_round : Nat} {m_bestRound : Nat} {m_taken : Nat} {k_isKept : ClassId} (hE0 : Kx s) {dC : Nat → ClassId} {dI : Nat → Nat → Nat} (hK : va_K (dC, dI) vwCl [(cg, .object RX0), (k_isKept, .boolean)] s) {H : Heap} {locs : List Loc} (hP : va_P (dC, dI) vwCl [(x0, .inr (6, [.ref tp, .int 0, .int 0, .int (-1), .ref rd, .ref gd, .ref im, .ref rw, .ref gn, .ref ho, .ref sq])), (im, .inl (cg, 3, .inr (.inr (.inr (.inr (fun _ => none)))))), (m0, .inr (7, [.int 0, .ref m_width, .ref m_many, .ref m_cells, .ref m_moved, .ref m_tape, .int 0, .int 0, .int 0, .int 0, .int 0, .long 0, .int 0, .int 0, .int 0, .int (-1), .ref m_lines, .ref m_has, .ref m_state, .ref m_gate, .ref m_guest, .ref m_gone, .int 0, .ref m_isKept, .ref m_first, .ref m_second, .int 0, .ref m_far, .ref m_wished, .ref m_wasState, .ref m_isHere, .ref m_round, .ref m_bestRound, .int 0, .int 0, .long 0, .long 0, .ref m_taken, .int 0])), (m_isKept, .inl (k_isKept, 3, .inl (fun _ => 0)))] H) (hD : va_D A [(x0, .inr (6, [.ref tp, .int 0, .int 0, .int (-1), .ref rd, .ref gd, .ref im, .ref rw, .ref gn, .ref ho, .ref sq])), (im, .inl (cg, 3, .inr (.inr (.inr (.inr (fun _ => none)))))), (m0, .inr (7, [.int 0, .ref m_width, .ref m_many, .ref m_cells, .ref m_moved, .ref m_tape, .int 0, .int 0, .int 0, .int 0, .int 0, .long 0, .int 0, .int 0, .int 0, .int (-1), .ref m_lines, .ref m_has, .ref m_state, .ref m_gate, .ref m_guest, .ref m_gone, .int 0, .ref m_isKept, .ref m_first, .ref m_second, .int 0, .ref m_far, .ref m_wished, .ref m_wasState, .ref m_isHere, .ref m_round, .ref m_bestRound, .int 0, .int 0, .long 0, .long 0, .ref m_taken, .int 0])), (m_isKept, .inl (k_isKept, 3, .inl (fun _ => 0)))]) (hS : va_S A s.heap H locs) {ls : Array Slot} (hl : lv_has ls 4 [(3, .int 0), (2, .ref m0), (1, .ref x0), (0, .ref b)]) : W p l e room_1 s m #[Value.ref b] below meth c H locs 70 7203 (lw_Z below #[Value.ref b] s) (F0 m 1367 ls []) := by
  obtain ⟨hx, hb, hr, hml, hown, hts, hX, hbl, hlocks, hgv⟩ := id C0
  have hown : s.vm.findClass RL = some m.cls := hown
  have hts := fun w (h : w ∈ wz_law) => hts w (wz_law_in w h)
  have hbA : ¬ A b := fun h => absurd (hA2 b h) (Nat.not_le.mpr hbl)
  obtain ⟨a0, ea0⟩ : ∃ y : Int32, y = xs (0 : Int32).toNatClampNeg := ⟨_, rfl⟩
  obtain ⟨a1, ea1⟩ : ∃ y : Int32, y = xs (1 : Int32).toNatClampNeg := ⟨_, rfl⟩
  obtain ⟨a2, ea2⟩ : ∃ y : Int32, y = xs (2 : Int32).toNatClampNeg := ⟨_, rfl⟩
  obtain ⟨a3, ea3⟩ : ∃ y : Int32, y = xs (3 : Int32).toNatClampNeg := ⟨_, rfl⟩
  obtain ⟨a4, ea4⟩ : ∃ y : Int32, y = xs (4 : Int32).toNatClampNeg := ⟨_, rfl⟩
  obtain ⟨a5, ea5⟩ : ∃ y : Int32, y = xs (5 : Int32).toNatClampNeg := ⟨_, rfl⟩
  refine lv_aload_n hx hb dL_law_1367 rfl (lv_at hl 2 rfl) ?_
  refine lv_aload_n hx hb dL_law_1368 rfl (lv_at hl 3 rfl) ?_
  refine lv_iload_n hx hb dL_law_1369 rfl (lv_at hl 0 rfl) ?_
  refine lv_iconst (v := 1) hx hb dL_law_1370 (by decide) ?_
  refine lv_iadd hx hb dL_law_1371 ?_
  refine lv_topi (fun z_1 ez_1 => ?_)
  obtain rfl : z_1 = 1 := ez_1.trans (by decide)
  refine va_sld hx hb hX hbl hbA hS (vp_in_iff.mpr ⟨by decide, by decide⟩) dL_law_1372 ?_
  refine lv_topi (fun z_2 ez_2 => ?_)
  obtain rfl : a1 = z_2 := ea1.trans ez_2.symm
  have hPc := hP.sub (ws' := [(x0, .inr (6, [.ref tp, .int 0, .int 0, .int (-1), .ref rd, .ref gd, .ref im, .ref rw, .ref gn, .ref ho, .ref sq])), (im, .inl (cg, 3, .inr (.inr (.inr (.inr (fun _ => none))))))]) [0, 1] rfl
  have hDc := hD.sub (ws' := [(x0, .inr (6, [.ref tp, .int 0, .int 0, .int (-1), .ref rd, .ref gd, .ref im, .ref rw, .ref gn, .ref ho, .ref sq])), (im, .inl (cg, 3, .inr (.inr (.inr (.inr (fun _ => none))))))]) [0, 1] (by decide) rfl
  have hKc := hK.sub (tys' := [(cg, .object RX0)]) [0] rfl
  have hFc := va_free (wc := [(x0, .inr (6, [.ref tp, .int 0, .int 0, .int (-1), .ref rd, .ref gd, .ref im, .ref rw, .ref gn, .ref ho, .ref sq])), (im, .inl (cg, 3, .inr (.inr (.inr (.inr (fun _ => none))))))]) hD hS hA [0, 1] rfl
  refine va_calli (va_runV (As := [.int a1]) (rest := []) ⟨hx, hb, hml, hown, hts⟩ (c_X6_back l dC dI H.size x0 tp rd gd im rw gn ho sq cg a1 ) (cwV 1 hts g_law_X6_back rfl rfl rfl (by decide +kernel) ⟨Nat.le_of_ble_eq_true rfl, Nat.le_of_ble_eq_true rfl⟩) ⟨fun a U g mk q => by obtain ⟨q0, q1, qP, qK, qD⟩ := q; exact ⟨q0, q1, qP, va_K.moved (u := U) (U := U.calling g mk a) (Vm.Alike.refl U.vm) qK, qD⟩, va_recv hKc hPc (ci := 6) (q0 := 0) rfl rfl, fun U hU hW => ⟨rfl, by rw [hU], by rw [hU]; exact hPc, va_K.moved hW.alike hKc, hDc.weaken (fun _ _ _ _ => trivial)⟩⟩ rfl rfl hl.1 rfl (lv_room (Nat.le_of_ble_eq_true rfl)) dL_law_1373 ⟨Nat.le_of_ble_eq_true rfl, Nat.le_of_ble_eq_true rfl⟩) hS (fun q _ h => hFc q h) hFc (fun r_3 u t H1 locs ht hvm hw_4 hB hz1 hk1 hS => ?_)
  have hP1 : va_P (dC, dI) vwCl [] H1 := i_nilP
  have hD1 : va_D (va_A [(x0, .inr (6, [.ref tp, .int 0, .int 0, .int (-1), .ref rd, .ref gd, .ref im, .ref rw, .ref gn, .ref ho, .ref sq])), (im, .inl (cg, 3, .inr (.inr (.inr (.inr (fun _ => none))))))] H.size) [] := i_nilD
  try dsimp only at hw_4
  obtain ⟨hP, hD⟩ := va_join (wr := [(m0, .inr (7, [.int 0, .ref m_width, .ref m_many, .ref m_cells, .ref m_moved, .ref m_tape, .int 0, .int 0, .int 0, .int 0, .int 0, .long 0, .int 0, .int 0, .int 0, .int (-1), .ref m_lines, .ref m_has, .ref m_state, .ref m_gate, .ref m_guest, .ref m_gone, .int 0, .ref m_isKept, .ref m_first, .ref m_second, .int 0, .ref m_far, .ref m_wished, .ref m_wasState, .ref m_isHere, .ref m_round, .ref m_bestRound, .int 0, .int 0, .long 0, .long 0, .ref m_taken, .int 0])), (m_isKept, .inl (k_isKept, 3, .inl (fun _ => 0)))]) (w1 := []) hP hD [0, 1] [2, 3] rfl rfl (by decide) (by decide) hk1 hFc hP1 hD1
  generalize H1 = H at hP hS ⊢
  have hP : va_P (dC, dI) vwCl [(m0, .inr (7, [.int 0, .ref m_width, .ref m_many, .ref m_cells, .ref m_moved, .ref m_tape, .int 0, .int 0, .int 0, .int 0, .int 0, .long 0, .int 0, .int 0, .int 0, .int (-1), .ref m_lines, .ref m_has, .ref m_state, .ref m_gate, .ref m_guest, .ref m_gone, .int 0, .ref m_isKept, .ref m_first, .ref m_second, .int 0, .ref m_far, .ref m_wished, .ref m_wasState, .ref m_isHere, .ref m_round, .ref m_bestRound, .int 0, .int 0, .long 0, .long 0, .ref m_taken, .int 0])), (m_isKept, .inl (k_isKept, 3, .inl (fun _ => 0)))] H := hP
  have hD : va_D A [(m0, .inr (7, [.int 0, .ref m_width, .ref m_many, .ref m_cells, .ref m_moved, .ref m_tape, .int 0, .int 0, .int 0, .int 0, .int 0, .long 0, .int 0, .int 0, .int 0, .int (-1), .ref m_lines, .ref m_has, .ref m_state, .ref m_gate, .ref m_guest, .ref m_gone, .int 0, .ref m_isKept, .ref m_first, .ref m_second, .int 0, .ref m_far, .ref m_wished, .ref m_wasState, .ref m_isHere, .ref m_round, .ref m_bestRound, .int 0, .int 0, .long 0, .long 0, .ref m_taken, .int 0])), (m_isKept, .inl (k_isKept, 3, .inl (fun _ => 0)))] := hD
  refine lv_aload_n hx hb dL_law_1376 rfl (lv_at hl 1 rfl) ?_
  refine lv_aload_n hx hb dL_law_1377 rfl (lv_at hl 3 rfl) ?_
  refine lv_iload_n hx hb dL_law_1378 rfl (lv_at hl 0 rfl) ?_
  refine lv_iconst (v := 1) hx hb dL_law_1379 (by decide) ?_
  refine lv_iadd hx hb dL_law_1380 ?_
  refine lv_topi (fun z_5 ez_5 => ?_)
  obtain rfl : z_5 = 1 := ez_5.trans (by decide)
  refine va_sld hx hb hX hbl hbA hS (vp_in_iff.mpr ⟨by decide, by decide⟩) dL_law_1381 ?_
  refine lv_topi (fun z_6 ez_6 => ?_)
  obtain rfl : a1 = z_6 := ea1.trans ez_6.symm
  have hPc := hP.sub (ws' := [(m0, .inr (7, [.int 0, .ref m_width, .ref m_many, .ref m_cells, .ref m_moved, .ref m_tape, .int 0, .int 0, .int 0, .int 0, .int 0, .long 0, .int 0, .int 0, .int 0, .int (-1), .ref m_lines, .ref m_has, .ref m_state, .ref m_gate, .ref m_guest, .ref m_gone, .int 0, .ref m_isKept, .ref m_first, .ref m_second, .int 0, .ref m_far, .ref m_wished, .ref m_wasState, .ref m_isHere, .ref m_round, .ref m_bestRound, .int 0, .int 0, .long 0, .long 0, .ref m_taken, .int 0])), (m_isKept, .inl (k_isKept, 3, .inl (fun _ => 0)))]) [0, 1] rfl
  have hDc := hD.sub (ws' := [(m0, .inr (7, [.int 0, .ref m_width, .ref m_many, .ref m_cells, .ref m_moved, .ref m_tape, .int 0, .int 0, .int 0, .int 0, .int 0, .long 0, .int 0, .int 0, .int 0, .int (-1), .ref m_lines, .ref m_has, .ref m_state, .ref m_gate, .ref m_guest, .ref m_gone, .int 0, .ref m_isKept, .ref m_first, .ref m_second, .int 0, .ref m_far, .ref m_wished, .ref m_wasState, .ref m_isHere, .ref m_round, .ref m_bestRound, .int 0, .int 0, .long 0, .long 0, .ref m_taken, .int 0])), (m_isKept, .inl (k_isKept, 3, .inl (fun _ => 0)))]) [0, 1] (by decide) rfl
  have hKc := hK.sub (tys' := [(k_isKept, .boolean)]) [1] rfl
  have hFc := va_free (wc := [(m0, .inr (7, [.int 0, .ref m_width, .ref m_many, .ref m_cells, .ref m_moved, .ref m_tape, .int 0, .int 0, .int 0, .int 0, .int 0, .long 0, .int 0, .int 0, .int 0, .int (-1), .ref m_lines, .ref m_has, .ref m_state, .ref m_gate, .ref m_guest, .ref m_gone, .int 0, .ref m_isKept, .ref m_first, .ref m_second, .int 0, .ref m_far, .ref m_wished, .ref m_wasState, .ref m_isHere, .ref m_round, .ref m_bestRound, .int 0, .int 0, .long 0, .long 0, .ref m_taken, .int 0])), (m_isKept, .inl (k_isKept, 3, .inl (fun _ => 0)))]) hD hS hA [0, 1] rfl
  refine va_calli (va_runV (As := [.int a1]) (rest := [.int r_3]) ⟨hx, hb, hml, hown, hts⟩ (c_X7_back l dC dI H.size m0 m_width m_many m_cells m_moved m_tape m_lines m_has m_state m_gate m_guest m_gone m_isKept m_first m_second m_far m_wished m_wasState m_isHere m_round m_bestRound m_taken k_isKept a1 ) (cwV 1 hts g_law_X7_back rfl rfl rfl (by decide +kernel) ⟨Nat.le_of_ble_eq_true rfl, Nat.le_of_ble_eq_true rfl⟩) ⟨fun a U g mk q => by obtain ⟨q0, q1, qP, qK, qD⟩ := q; exact ⟨q0, q1, qP, va_K.moved (u := U) (U := U.calling g mk a) (Vm.Alike.refl U.vm) qK, qD⟩, va_recv hKc hPc (ci := 7) (q0 := 0) rfl rfl, fun U hU hW => ⟨rfl, by rw [hU], by rw [hU]; exact hPc, va_K.moved hW.alike hKc, hDc.weaken (fun _ _ _ _ => trivial)⟩⟩ rfl rfl hl.1 rfl (lv_room (Nat.le_of_ble_eq_true rfl)) dL_law_1382 ⟨Nat.le_of_ble_eq_true rfl, Nat.le_of_ble_eq_true rfl⟩) hS (fun q _ h => hFc q h) hFc (fun r_7 u t H1 locs ht hvm hw_8 hB hz1 hk1 hS => ?_)
  have hP1 : va_P (dC, dI) vwCl [] H1 := i_nilP
  have hD1 : va_D (va_A [(m0, .inr (7, [.int 0, .ref m_width, .ref m_many, .ref m_cells, .ref m_moved, .ref m_tape, .int 0, .int 0, .int 0, .int 0, .int 0, .long 0, .int 0, .int 0, .int 0, .int (-1), .ref m_lines, .ref m_has, .ref m_state, .ref m_gate, .ref m_guest, .ref m_gone, .int 0, .ref m_isKept, .ref m_first, .ref m_second, .int 0, .ref m_far, .ref m_wished, .ref m_wasState, .ref m_isHere, .ref m_round, .ref m_bestRound, .int 0, .int 0, .long 0, .long 0, .ref m_taken, .int 0])), (m_isKept, .inl (k_isKept, 3, .inl (fun _ => 0)))] H.size) [] := i_nilD
  try dsimp only at hw_8
  obtain ⟨hP, hD⟩ := va_join (wr := []) (w1 := []) hP hD [0, 1] [] rfl rfl (by decide) (by decide) hk1 hFc hP1 hD1
  generalize H1 = H at hP hS ⊢
  have hP : va_P (dC, dI) vwCl [] H := hP
  have hD : va_D A [] := hD
  refine lv_icmp_eq (tgt := 1569) hx hb dL_law_1385 (by decide) (fun c_9 => ?_) (fun c_9 => absurd (hw_4.trans hw_8.symm) c_9)
  have c_9 : r_3.toInt = r_7.toInt := i_eq (a := r_3) (b := r_7) rfl rfl c_9
  refine lv_iinc (v := 6) (lv' := [(3, .int 6), (2, .ref m0), (1, .ref x0), (0, .ref b)]) hx hb dL_law_1569 hl (k := 0) rfl (by decide) (by decide) rfl (fun ls hl => ?_)
  refine lv_goto (tgt := 18) hx hb dL_law_1572 (by decide) ?_
  exact law_exit C0 hA2 hS (lv_sub hl [0, 3] rfl) (by decide) (by omega) (by omega)

set_option maxHeartbeats 4000000 in
set_option maxRecDepth 100000 in
/-- the law, its call 40: row -/
theorem law_40 {p : Program} {e : Env} {s : State} {m : MethodId} {below : List Frame} {meth : Method} {c : Code} (l : Launch) {b : Nat} {xs : Nat → Int32} (C0 : lw_At p s m meth c b 6 xs) {A : Nat → Prop} (hA : ∀ q, s.heap.size ≤ q → A q) (hA2 : ∀ q, A q → s.heap.size ≤ q) {x0 : Nat} {tp : Nat} {rd : Nat} {gd : Nat} {im : Nat} {rw : Nat} {gn : Nat} {ho : Nat} {sq : Nat} {r0 : Nat} {r1 : Nat} {r2 : Nat} {r3 : Nat} {n0 : Nat} {n1 : Nat} {n2 : Nat} {n3 : Nat} {cr : ClassId} {cl0 : ClassId} {cl1 : ClassId} {cl2 : ClassId} {cl3 : ClassId} {fr : Nat → Option Nat} {m0 : Nat} {m_width : Nat} {m_many : Nat} {m_cells : Nat} {m_moved : Nat} {m_tape : Nat} {m_lines : Nat} {m_has : Nat} {m_state : Nat} {m_gate : Nat} {m_guest : Nat} {m_gone : Nat} {m_isKept : Nat} {m_first : Nat} {m_second : Nat} {m_far : Nat} {m_wished : Nat} {m_wasState : Nat} {m_isHere : Nat} {m_round : Nat} {m_bestRound : Nat} {m_taken : Nat} {k_width : ClassId} {k_many : ClassId} {k_cells : ClassId} {fw : Nat → Int32} (hf0 : fr 0 = some r0)  (hf1 : fr 1 = some r1)  (hf2 : fr 2 = some r2)  (hf3 : fr 3 = some r3) (hE0 : Kx s) {dC : Nat → ClassId} {dI : Nat → Nat → Nat} (hK : va_K (dC, dI) vwCl [(cr, .object RX5), (cl0, .long), (cl1, .long), (cl2, .long), (cl3, .long), (k_width, .int), (k_many, .int), (k_cells, .long)] s) {H : Heap} {locs : List Loc} (hP : va_P (dC, dI) vwCl [(x0, .inr (6, [.ref tp, .int 0, .int 0, .int (-1), .ref rd, .ref gd, .ref im, .ref rw, .ref gn, .ref ho, .ref sq])), (rw, .inl (cr, 4, .inr (.inr (.inr (.inr fr))))), (r0, .inr (5, [.int 0, .int 0, .int 0, .ref n0])), (n0, .inl (cl0, 60, .inr (.inl (fun _ => 0)))), (r1, .inr (5, [.int 0, .int 0, .int 0, .ref n1])), (n1, .inl (cl1, 60, .inr (.inl (fun _ => 0)))), (r2, .inr (5, [.int 0, .int 0, .int 0, .ref n2])), (n2, .inl (cl2, 60, .inr (.inl (fun _ => 0)))), (r3, .inr (5, [.int 0, .int 0, .int 0, .ref n3])), (n3, .inl (cl3, 60, .inr (.inl (fun _ => 0)))), (m0, .inr (7, [.int 0, .ref m_width, .ref m_many, .ref m_cells, .ref m_moved, .ref m_tape, .int 0, .int 0, .int 0, .int 0, .int 0, .long 0, .int 0, .int 0, .int 0, .int (-1), .ref m_lines, .ref m_has, .ref m_state, .ref m_gate, .ref m_guest, .ref m_gone, .int 0, .ref m_isKept, .ref m_first, .ref m_second, .int 0, .ref m_far, .ref m_wished, .ref m_wasState, .ref m_isHere, .ref m_round, .ref m_bestRound, .int 0, .int 0, .long 0, .long 0, .ref m_taken, .int 0])), (m_width, .inl (k_width, 4, .inl fw)), (m_many, .inl (k_many, 4, .inl (fun _ => 0))), (m_cells, .inl (k_cells, 240, .inr (.inl (fun _ => 0))))] H) (hD : va_D A [(x0, .inr (6, [.ref tp, .int 0, .int 0, .int (-1), .ref rd, .ref gd, .ref im, .ref rw, .ref gn, .ref ho, .ref sq])), (rw, .inl (cr, 4, .inr (.inr (.inr (.inr fr))))), (r0, .inr (5, [.int 0, .int 0, .int 0, .ref n0])), (n0, .inl (cl0, 60, .inr (.inl (fun _ => 0)))), (r1, .inr (5, [.int 0, .int 0, .int 0, .ref n1])), (n1, .inl (cl1, 60, .inr (.inl (fun _ => 0)))), (r2, .inr (5, [.int 0, .int 0, .int 0, .ref n2])), (n2, .inl (cl2, 60, .inr (.inl (fun _ => 0)))), (r3, .inr (5, [.int 0, .int 0, .int 0, .ref n3])), (n3, .inl (cl3, 60, .inr (.inl (fun _ => 0)))), (m0, .inr (7, [.int 0, .ref m_width, .ref m_many, .ref m_cells, .ref m_moved, .ref m_tape, .int 0, .int 0, .int 0, .int 0, .int 0, .long 0, .int 0, .int 0, .int 0, .int (-1), .ref m_lines, .ref m_has, .ref m_state, .ref m_gate, .ref m_guest, .ref m_gone, .int 0, .ref m_isKept, .ref m_first, .ref m_second, .int 0, .ref m_far, .ref m_wished, .ref m_wasState, .ref m_isHere, .ref m_round, .ref m_bestRound, .int 0, .int 0, .long 0, .long 0, .ref m_taken, .int 0])), (m_width, .inl (k_width, 4, .inl fw)), (m_many, .inl (k_many, 4, .inl (fun _ => 0))), (m_cells, .inl (k_cells, 240, .inr (.inl (fun _ => 0))))]) (hS : va_S A s.heap H locs) {ls : Array Slot} (hl : lv_has ls 4 [(3, .int 0), (2, .ref m0), (1, .ref x0), (0, .ref b)]) : W p l e room_1 s m #[Value.ref b] below meth c H locs 70 7203 (lw_Z below #[Value.ref b] s) (F0 m 1390 ls []) := by
  obtain ⟨hx, hb, hr, hml, hown, hts, hX, hbl, hlocks, hgv⟩ := id C0
  have hown : s.vm.findClass RL = some m.cls := hown
  have hts := fun w (h : w ∈ wz_law) => hts w (wz_law_in w h)
  have hbA : ¬ A b := fun h => absurd (hA2 b h) (Nat.not_le.mpr hbl)
  obtain ⟨a0, ea0⟩ : ∃ y : Int32, y = xs (0 : Int32).toNatClampNeg := ⟨_, rfl⟩
  obtain ⟨a1, ea1⟩ : ∃ y : Int32, y = xs (1 : Int32).toNatClampNeg := ⟨_, rfl⟩
  obtain ⟨a2, ea2⟩ : ∃ y : Int32, y = xs (2 : Int32).toNatClampNeg := ⟨_, rfl⟩
  obtain ⟨a3, ea3⟩ : ∃ y : Int32, y = xs (3 : Int32).toNatClampNeg := ⟨_, rfl⟩
  obtain ⟨a4, ea4⟩ : ∃ y : Int32, y = xs (4 : Int32).toNatClampNeg := ⟨_, rfl⟩
  obtain ⟨a5, ea5⟩ : ∃ y : Int32, y = xs (5 : Int32).toNatClampNeg := ⟨_, rfl⟩
  refine lv_aload_n hx hb dL_law_1390 rfl (lv_at hl 2 rfl) ?_
  refine lv_aload_n hx hb dL_law_1391 rfl (lv_at hl 3 rfl) ?_
  refine lv_iload_n hx hb dL_law_1392 rfl (lv_at hl 0 rfl) ?_
  refine lv_iconst (v := 1) hx hb dL_law_1393 (by decide) ?_
  refine lv_iadd hx hb dL_law_1394 ?_
  refine lv_topi (fun z_1 ez_1 => ?_)
  obtain rfl : z_1 = 1 := ez_1.trans (by decide)
  refine va_sld hx hb hX hbl hbA hS (vp_in_iff.mpr ⟨by decide, by decide⟩) dL_law_1395 ?_
  refine lv_topi (fun z_2 ez_2 => ?_)
  obtain rfl : a1 = z_2 := ea1.trans ez_2.symm
  refine lv_aload_n hx hb dL_law_1396 rfl (lv_at hl 3 rfl) ?_
  refine lv_iload_n hx hb dL_law_1397 rfl (lv_at hl 0 rfl) ?_
  refine lv_iconst (v := 2) hx hb dL_law_1398 (by decide) ?_
  refine lv_iadd hx hb dL_law_1399 ?_
  refine lv_topi (fun z_3 ez_3 => ?_)
  obtain rfl : z_3 = 2 := ez_3.trans (by decide)
  refine va_sld hx hb hX hbl hbA hS (vp_in_iff.mpr ⟨by decide, by decide⟩) dL_law_1400 ?_
  refine lv_topi (fun z_4 ez_4 => ?_)
  obtain rfl : a2 = z_4 := ea2.trans ez_4.symm
  refine lv_aload_n hx hb dL_law_1401 rfl (lv_at hl 3 rfl) ?_
  refine lv_iload_n hx hb dL_law_1402 rfl (lv_at hl 0 rfl) ?_
  refine lv_iconst (v := 3) hx hb dL_law_1403 (by decide) ?_
  refine lv_iadd hx hb dL_law_1404 ?_
  refine lv_topi (fun z_5 ez_5 => ?_)
  obtain rfl : z_5 = 3 := ez_5.trans (by decide)
  refine va_sld hx hb hX hbl hbA hS (vp_in_iff.mpr ⟨by decide, by decide⟩) dL_law_1405 ?_
  refine lv_topi (fun z_6 ez_6 => ?_)
  obtain rfl : a3 = z_6 := ea3.trans ez_6.symm
  have hPc := hP.sub (ws' := [(x0, .inr (6, [.ref tp, .int 0, .int 0, .int (-1), .ref rd, .ref gd, .ref im, .ref rw, .ref gn, .ref ho, .ref sq])), (rw, .inl (cr, 4, .inr (.inr (.inr (.inr fr))))), (r0, .inr (5, [.int 0, .int 0, .int 0, .ref n0])), (n0, .inl (cl0, 60, .inr (.inl (fun _ => 0)))), (r1, .inr (5, [.int 0, .int 0, .int 0, .ref n1])), (n1, .inl (cl1, 60, .inr (.inl (fun _ => 0)))), (r2, .inr (5, [.int 0, .int 0, .int 0, .ref n2])), (n2, .inl (cl2, 60, .inr (.inl (fun _ => 0)))), (r3, .inr (5, [.int 0, .int 0, .int 0, .ref n3])), (n3, .inl (cl3, 60, .inr (.inl (fun _ => 0))))]) [0, 1, 2, 3, 4, 5, 6, 7, 8, 9] rfl
  have hDc := hD.sub (ws' := [(x0, .inr (6, [.ref tp, .int 0, .int 0, .int (-1), .ref rd, .ref gd, .ref im, .ref rw, .ref gn, .ref ho, .ref sq])), (rw, .inl (cr, 4, .inr (.inr (.inr (.inr fr))))), (r0, .inr (5, [.int 0, .int 0, .int 0, .ref n0])), (n0, .inl (cl0, 60, .inr (.inl (fun _ => 0)))), (r1, .inr (5, [.int 0, .int 0, .int 0, .ref n1])), (n1, .inl (cl1, 60, .inr (.inl (fun _ => 0)))), (r2, .inr (5, [.int 0, .int 0, .int 0, .ref n2])), (n2, .inl (cl2, 60, .inr (.inl (fun _ => 0)))), (r3, .inr (5, [.int 0, .int 0, .int 0, .ref n3])), (n3, .inl (cl3, 60, .inr (.inl (fun _ => 0))))]) [0, 1, 2, 3, 4, 5, 6, 7, 8, 9] (by decide) rfl
  have hKc := hK.sub (tys' := [(cr, .object RX5), (cl0, .long), (cl1, .long), (cl2, .long), (cl3, .long)]) [0, 1, 2, 3, 4] rfl
  have hFc := va_free (wc := [(x0, .inr (6, [.ref tp, .int 0, .int 0, .int (-1), .ref rd, .ref gd, .ref im, .ref rw, .ref gn, .ref ho, .ref sq])), (rw, .inl (cr, 4, .inr (.inr (.inr (.inr fr))))), (r0, .inr (5, [.int 0, .int 0, .int 0, .ref n0])), (n0, .inl (cl0, 60, .inr (.inl (fun _ => 0)))), (r1, .inr (5, [.int 0, .int 0, .int 0, .ref n1])), (n1, .inl (cl1, 60, .inr (.inl (fun _ => 0)))), (r2, .inr (5, [.int 0, .int 0, .int 0, .ref n2])), (n2, .inl (cl2, 60, .inr (.inl (fun _ => 0)))), (r3, .inr (5, [.int 0, .int 0, .int 0, .ref n3])), (n3, .inl (cl3, 60, .inr (.inl (fun _ => 0))))]) hD hS hA [0, 1, 2, 3, 4, 5, 6, 7, 8, 9] rfl
  refine va_calli (va_runV (As := [.int a1, .int a2, .int a3]) (rest := []) ⟨hx, hb, hml, hown, hts⟩ (c_X6_row l dC dI H.size x0 tp rd gd im rw gn ho sq cr fr r0 r1 r2 r3 n0 n1 n2 n3 cl0 cl1 cl2 cl3 a1 a2 a3 hf0 hf1 hf2 hf3) (cwV 3 hts g_law_X6_row rfl rfl rfl (by decide +kernel) ⟨Nat.le_of_ble_eq_true rfl, Nat.le_of_ble_eq_true rfl⟩) ⟨fun a U g mk q => by obtain ⟨q0, q1, qP, qK, qD⟩ := q; exact ⟨q0, q1, qP, va_K.moved (u := U) (U := U.calling g mk a) (Vm.Alike.refl U.vm) qK, qD⟩, va_recv hKc hPc (ci := 6) (q0 := 0) rfl rfl, fun U hU hW => ⟨rfl, by rw [hU], by rw [hU]; exact hPc, va_K.moved hW.alike hKc, hDc.weaken (fun _ _ _ _ => trivial)⟩⟩ rfl rfl hl.1 rfl (lv_room (Nat.le_of_ble_eq_true rfl)) dL_law_1406 ⟨Nat.le_of_ble_eq_true rfl, Nat.le_of_ble_eq_true rfl⟩) hS (fun q _ h => hFc q h) hFc (fun r_7 u t H1 locs ht hvm hw_8 hB hz1 hk1 hS => ?_)
  have hP1 : va_P (dC, dI) vwCl [] H1 := i_nilP
  have hD1 : va_D (va_A [(x0, .inr (6, [.ref tp, .int 0, .int 0, .int (-1), .ref rd, .ref gd, .ref im, .ref rw, .ref gn, .ref ho, .ref sq])), (rw, .inl (cr, 4, .inr (.inr (.inr (.inr fr))))), (r0, .inr (5, [.int 0, .int 0, .int 0, .ref n0])), (n0, .inl (cl0, 60, .inr (.inl (fun _ => 0)))), (r1, .inr (5, [.int 0, .int 0, .int 0, .ref n1])), (n1, .inl (cl1, 60, .inr (.inl (fun _ => 0)))), (r2, .inr (5, [.int 0, .int 0, .int 0, .ref n2])), (n2, .inl (cl2, 60, .inr (.inl (fun _ => 0)))), (r3, .inr (5, [.int 0, .int 0, .int 0, .ref n3])), (n3, .inl (cl3, 60, .inr (.inl (fun _ => 0))))] H.size) [] := i_nilD
  try dsimp only at hw_8
  obtain ⟨hP, hD⟩ := va_join (wr := [(m0, .inr (7, [.int 0, .ref m_width, .ref m_many, .ref m_cells, .ref m_moved, .ref m_tape, .int 0, .int 0, .int 0, .int 0, .int 0, .long 0, .int 0, .int 0, .int 0, .int (-1), .ref m_lines, .ref m_has, .ref m_state, .ref m_gate, .ref m_guest, .ref m_gone, .int 0, .ref m_isKept, .ref m_first, .ref m_second, .int 0, .ref m_far, .ref m_wished, .ref m_wasState, .ref m_isHere, .ref m_round, .ref m_bestRound, .int 0, .int 0, .long 0, .long 0, .ref m_taken, .int 0])), (m_width, .inl (k_width, 4, .inl fw)), (m_many, .inl (k_many, 4, .inl (fun _ => 0))), (m_cells, .inl (k_cells, 240, .inr (.inl (fun _ => 0))))]) (w1 := []) hP hD [0, 1, 2, 3, 4, 5, 6, 7, 8, 9] [10, 11, 12, 13] rfl rfl (by decide) (by decide) hk1 hFc hP1 hD1
  generalize H1 = H at hP hS ⊢
  have hP : va_P (dC, dI) vwCl [(m0, .inr (7, [.int 0, .ref m_width, .ref m_many, .ref m_cells, .ref m_moved, .ref m_tape, .int 0, .int 0, .int 0, .int 0, .int 0, .long 0, .int 0, .int 0, .int 0, .int (-1), .ref m_lines, .ref m_has, .ref m_state, .ref m_gate, .ref m_guest, .ref m_gone, .int 0, .ref m_isKept, .ref m_first, .ref m_second, .int 0, .ref m_far, .ref m_wished, .ref m_wasState, .ref m_isHere, .ref m_round, .ref m_bestRound, .int 0, .int 0, .long 0, .long 0, .ref m_taken, .int 0])), (m_width, .inl (k_width, 4, .inl fw)), (m_many, .inl (k_many, 4, .inl (fun _ => 0))), (m_cells, .inl (k_cells, 240, .inr (.inl (fun _ => 0))))] H := hP
  have hD : va_D A [(m0, .inr (7, [.int 0, .ref m_width, .ref m_many, .ref m_cells, .ref m_moved, .ref m_tape, .int 0, .int 0, .int 0, .int 0, .int 0, .long 0, .int 0, .int 0, .int 0, .int (-1), .ref m_lines, .ref m_has, .ref m_state, .ref m_gate, .ref m_guest, .ref m_gone, .int 0, .ref m_isKept, .ref m_first, .ref m_second, .int 0, .ref m_far, .ref m_wished, .ref m_wasState, .ref m_isHere, .ref m_round, .ref m_bestRound, .int 0, .int 0, .long 0, .long 0, .ref m_taken, .int 0])), (m_width, .inl (k_width, 4, .inl fw)), (m_many, .inl (k_many, 4, .inl (fun _ => 0))), (m_cells, .inl (k_cells, 240, .inr (.inl (fun _ => 0))))] := hD
  refine lv_aload_n hx hb dL_law_1409 rfl (lv_at hl 1 rfl) ?_
  refine lv_aload_n hx hb dL_law_1410 rfl (lv_at hl 3 rfl) ?_
  refine lv_iload_n hx hb dL_law_1411 rfl (lv_at hl 0 rfl) ?_
  refine lv_iconst (v := 1) hx hb dL_law_1412 (by decide) ?_
  refine lv_iadd hx hb dL_law_1413 ?_
  refine lv_topi (fun z_9 ez_9 => ?_)
  obtain rfl : z_9 = 1 := ez_9.trans (by decide)
  refine va_sld hx hb hX hbl hbA hS (vp_in_iff.mpr ⟨by decide, by decide⟩) dL_law_1414 ?_
  refine lv_topi (fun z_10 ez_10 => ?_)
  obtain rfl : a1 = z_10 := ea1.trans ez_10.symm
  refine lv_aload_n hx hb dL_law_1415 rfl (lv_at hl 3 rfl) ?_
  refine lv_iload_n hx hb dL_law_1416 rfl (lv_at hl 0 rfl) ?_
  refine lv_iconst (v := 2) hx hb dL_law_1417 (by decide) ?_
  refine lv_iadd hx hb dL_law_1418 ?_
  refine lv_topi (fun z_11 ez_11 => ?_)
  obtain rfl : z_11 = 2 := ez_11.trans (by decide)
  refine va_sld hx hb hX hbl hbA hS (vp_in_iff.mpr ⟨by decide, by decide⟩) dL_law_1419 ?_
  refine lv_topi (fun z_12 ez_12 => ?_)
  obtain rfl : a2 = z_12 := ea2.trans ez_12.symm
  refine lv_aload_n hx hb dL_law_1420 rfl (lv_at hl 3 rfl) ?_
  refine lv_iload_n hx hb dL_law_1421 rfl (lv_at hl 0 rfl) ?_
  refine lv_iconst (v := 3) hx hb dL_law_1422 (by decide) ?_
  refine lv_iadd hx hb dL_law_1423 ?_
  refine lv_topi (fun z_13 ez_13 => ?_)
  obtain rfl : z_13 = 3 := ez_13.trans (by decide)
  refine va_sld hx hb hX hbl hbA hS (vp_in_iff.mpr ⟨by decide, by decide⟩) dL_law_1424 ?_
  refine lv_topi (fun z_14 ez_14 => ?_)
  obtain rfl : a3 = z_14 := ea3.trans ez_14.symm
  have hPc := hP.sub (ws' := [(m0, .inr (7, [.int 0, .ref m_width, .ref m_many, .ref m_cells, .ref m_moved, .ref m_tape, .int 0, .int 0, .int 0, .int 0, .int 0, .long 0, .int 0, .int 0, .int 0, .int (-1), .ref m_lines, .ref m_has, .ref m_state, .ref m_gate, .ref m_guest, .ref m_gone, .int 0, .ref m_isKept, .ref m_first, .ref m_second, .int 0, .ref m_far, .ref m_wished, .ref m_wasState, .ref m_isHere, .ref m_round, .ref m_bestRound, .int 0, .int 0, .long 0, .long 0, .ref m_taken, .int 0])), (m_width, .inl (k_width, 4, .inl fw)), (m_many, .inl (k_many, 4, .inl (fun _ => 0))), (m_cells, .inl (k_cells, 240, .inr (.inl (fun _ => 0))))]) [0, 1, 2, 3] rfl
  have hDc := hD.sub (ws' := [(m0, .inr (7, [.int 0, .ref m_width, .ref m_many, .ref m_cells, .ref m_moved, .ref m_tape, .int 0, .int 0, .int 0, .int 0, .int 0, .long 0, .int 0, .int 0, .int 0, .int (-1), .ref m_lines, .ref m_has, .ref m_state, .ref m_gate, .ref m_guest, .ref m_gone, .int 0, .ref m_isKept, .ref m_first, .ref m_second, .int 0, .ref m_far, .ref m_wished, .ref m_wasState, .ref m_isHere, .ref m_round, .ref m_bestRound, .int 0, .int 0, .long 0, .long 0, .ref m_taken, .int 0])), (m_width, .inl (k_width, 4, .inl fw)), (m_many, .inl (k_many, 4, .inl (fun _ => 0))), (m_cells, .inl (k_cells, 240, .inr (.inl (fun _ => 0))))]) [0, 1, 2, 3] (by decide) rfl
  have hKc := hK.sub (tys' := [(k_width, .int), (k_many, .int), (k_cells, .long)]) [5, 6, 7] rfl
  have hFc := va_free (wc := [(m0, .inr (7, [.int 0, .ref m_width, .ref m_many, .ref m_cells, .ref m_moved, .ref m_tape, .int 0, .int 0, .int 0, .int 0, .int 0, .long 0, .int 0, .int 0, .int 0, .int (-1), .ref m_lines, .ref m_has, .ref m_state, .ref m_gate, .ref m_guest, .ref m_gone, .int 0, .ref m_isKept, .ref m_first, .ref m_second, .int 0, .ref m_far, .ref m_wished, .ref m_wasState, .ref m_isHere, .ref m_round, .ref m_bestRound, .int 0, .int 0, .long 0, .long 0, .ref m_taken, .int 0])), (m_width, .inl (k_width, 4, .inl fw)), (m_many, .inl (k_many, 4, .inl (fun _ => 0))), (m_cells, .inl (k_cells, 240, .inr (.inl (fun _ => 0))))]) hD hS hA [0, 1, 2, 3] rfl
  refine va_calli (va_runV (As := [.int a1, .int a2, .int a3]) (rest := [.int r_7]) ⟨hx, hb, hml, hown, hts⟩ (c_X7_row l dC dI H.size m0 m_width m_many m_cells m_moved m_tape m_lines m_has m_state m_gate m_guest m_gone m_isKept m_first m_second m_far m_wished m_wasState m_isHere m_round m_bestRound m_taken k_width k_many k_cells fw ((fun _ => 0 : Nat → Int64)) a1 a2 a3 ) (cwV 3 hts g_law_X7_row rfl rfl rfl (by decide +kernel) ⟨Nat.le_of_ble_eq_true rfl, Nat.le_of_ble_eq_true rfl⟩) ⟨fun a U g mk q => by obtain ⟨q0, q1, qP, qK, qD⟩ := q; exact ⟨q0, q1, qP, va_K.moved (u := U) (U := U.calling g mk a) (Vm.Alike.refl U.vm) qK, qD⟩, va_recv hKc hPc (ci := 7) (q0 := 0) rfl rfl, fun U hU hW => ⟨rfl, by rw [hU], by rw [hU]; exact hPc, va_K.moved hW.alike hKc, hDc.weaken (fun _ _ _ _ => trivial)⟩⟩ rfl rfl hl.1 rfl (lv_room (Nat.le_of_ble_eq_true rfl)) dL_law_1425 ⟨Nat.le_of_ble_eq_true rfl, Nat.le_of_ble_eq_true rfl⟩) hS (fun q _ h => hFc q h) hFc (fun r_15 u t H1 locs ht hvm hw_16 hB hz1 hk1 hS => ?_)
  have hP1 : va_P (dC, dI) vwCl [] H1 := i_nilP
  have hD1 : va_D (va_A [(m0, .inr (7, [.int 0, .ref m_width, .ref m_many, .ref m_cells, .ref m_moved, .ref m_tape, .int 0, .int 0, .int 0, .int 0, .int 0, .long 0, .int 0, .int 0, .int 0, .int (-1), .ref m_lines, .ref m_has, .ref m_state, .ref m_gate, .ref m_guest, .ref m_gone, .int 0, .ref m_isKept, .ref m_first, .ref m_second, .int 0, .ref m_far, .ref m_wished, .ref m_wasState, .ref m_isHere, .ref m_round, .ref m_bestRound, .int 0, .int 0, .long 0, .long 0, .ref m_taken, .int 0])), (m_width, .inl (k_width, 4, .inl fw)), (m_many, .inl (k_many, 4, .inl (fun _ => 0))), (m_cells, .inl (k_cells, 240, .inr (.inl (fun _ => 0))))] H.size) [] := i_nilD
  try dsimp only at hw_16
  obtain ⟨hP, hD⟩ := va_join (wr := []) (w1 := []) hP hD [0, 1, 2, 3] [] rfl rfl (by decide) (by decide) hk1 hFc hP1 hD1
  generalize H1 = H at hP hS ⊢
  have hP : va_P (dC, dI) vwCl [] H := hP
  have hD : va_D A [] := hD
  refine lv_icmp_eq (tgt := 1569) hx hb dL_law_1428 (by decide) (fun c_17 => ?_) (fun c_17 => absurd (hw_8.trans hw_16.symm) c_17)
  have c_17 : r_7.toInt = r_15.toInt := i_eq (a := r_7) (b := r_15) rfl rfl c_17
  refine lv_iinc (v := 6) (lv' := [(3, .int 6), (2, .ref m0), (1, .ref x0), (0, .ref b)]) hx hb dL_law_1569 hl (k := 0) rfl (by decide) (by decide) rfl (fun ls hl => ?_)
  refine lv_goto (tgt := 18) hx hb dL_law_1572 (by decide) ?_
  exact law_exit C0 hA2 hS (lv_sub hl [0, 3] rfl) (by decide) (by omega) (by omega)

set_option maxHeartbeats 4000000 in
set_option maxRecDepth 100000 in
/-- the law, its call 41: write -/
theorem law_41 {p : Program} {e : Env} {s : State} {m : MethodId} {below : List Frame} {meth : Method} {c : Code} (l : Launch) {b : Nat} {xs : Nat → Int32} (C0 : lw_At p s m meth c b 6 xs) {A : Nat → Prop} (hA : ∀ q, s.heap.size ≤ q → A q) (hA2 : ∀ q, A q → s.heap.size ≤ q) {x0 : Nat} {tp : Nat} {rd : Nat} {gd : Nat} {im : Nat} {rw : Nat} {gn : Nat} {ho : Nat} {sq : Nat} {r0 : Nat} {r1 : Nat} {r2 : Nat} {r3 : Nat} {n0 : Nat} {n1 : Nat} {n2 : Nat} {n3 : Nat} {cr : ClassId} {cl0 : ClassId} {cl1 : ClassId} {cl2 : ClassId} {cl3 : ClassId} {fr : Nat → Option Nat} {m0 : Nat} {m_width : Nat} {m_many : Nat} {m_cells : Nat} {m_moved : Nat} {m_tape : Nat} {m_lines : Nat} {m_has : Nat} {m_state : Nat} {m_gate : Nat} {m_guest : Nat} {m_gone : Nat} {m_isKept : Nat} {m_first : Nat} {m_second : Nat} {m_far : Nat} {m_wished : Nat} {m_wasState : Nat} {m_isHere : Nat} {m_round : Nat} {m_bestRound : Nat} {m_taken : Nat} {k_width : ClassId} {fw : Nat → Int32} (hf0 : fr 0 = some r0)  (hf1 : fr 1 = some r1)  (hf2 : fr 2 = some r2)  (hf3 : fr 3 = some r3) (hg0 : fw 0 = -1)  (hg1 : fw 1 = -1)  (hg2 : fw 2 = -1)  (hg3 : fw 3 = -1) (hE0 : Kx s) {dC : Nat → ClassId} {dI : Nat → Nat → Nat} (hK : va_K (dC, dI) vwCl [(cr, .object RX5), (cl0, .long), (cl1, .long), (cl2, .long), (cl3, .long), (k_width, .int)] s) {H : Heap} {locs : List Loc} (hP : va_P (dC, dI) vwCl [(x0, .inr (6, [.ref tp, .int 0, .int 0, .int (-1), .ref rd, .ref gd, .ref im, .ref rw, .ref gn, .ref ho, .ref sq])), (rw, .inl (cr, 4, .inr (.inr (.inr (.inr fr))))), (r0, .inr (5, [.int 0, .int 0, .int 0, .ref n0])), (n0, .inl (cl0, 60, .inr (.inl (fun _ => 0)))), (r1, .inr (5, [.int 0, .int 0, .int 0, .ref n1])), (n1, .inl (cl1, 60, .inr (.inl (fun _ => 0)))), (r2, .inr (5, [.int 0, .int 0, .int 0, .ref n2])), (n2, .inl (cl2, 60, .inr (.inl (fun _ => 0)))), (r3, .inr (5, [.int 0, .int 0, .int 0, .ref n3])), (n3, .inl (cl3, 60, .inr (.inl (fun _ => 0)))), (m0, .inr (7, [.int 0, .ref m_width, .ref m_many, .ref m_cells, .ref m_moved, .ref m_tape, .int 0, .int 0, .int 0, .int 0, .int 0, .long 0, .int 0, .int 0, .int 0, .int (-1), .ref m_lines, .ref m_has, .ref m_state, .ref m_gate, .ref m_guest, .ref m_gone, .int 0, .ref m_isKept, .ref m_first, .ref m_second, .int 0, .ref m_far, .ref m_wished, .ref m_wasState, .ref m_isHere, .ref m_round, .ref m_bestRound, .int 0, .int 0, .long 0, .long 0, .ref m_taken, .int 0])), (m_width, .inl (k_width, 4, .inl fw))] H) (hD : va_D A [(x0, .inr (6, [.ref tp, .int 0, .int 0, .int (-1), .ref rd, .ref gd, .ref im, .ref rw, .ref gn, .ref ho, .ref sq])), (rw, .inl (cr, 4, .inr (.inr (.inr (.inr fr))))), (r0, .inr (5, [.int 0, .int 0, .int 0, .ref n0])), (n0, .inl (cl0, 60, .inr (.inl (fun _ => 0)))), (r1, .inr (5, [.int 0, .int 0, .int 0, .ref n1])), (n1, .inl (cl1, 60, .inr (.inl (fun _ => 0)))), (r2, .inr (5, [.int 0, .int 0, .int 0, .ref n2])), (n2, .inl (cl2, 60, .inr (.inl (fun _ => 0)))), (r3, .inr (5, [.int 0, .int 0, .int 0, .ref n3])), (n3, .inl (cl3, 60, .inr (.inl (fun _ => 0)))), (m0, .inr (7, [.int 0, .ref m_width, .ref m_many, .ref m_cells, .ref m_moved, .ref m_tape, .int 0, .int 0, .int 0, .int 0, .int 0, .long 0, .int 0, .int 0, .int 0, .int (-1), .ref m_lines, .ref m_has, .ref m_state, .ref m_gate, .ref m_guest, .ref m_gone, .int 0, .ref m_isKept, .ref m_first, .ref m_second, .int 0, .ref m_far, .ref m_wished, .ref m_wasState, .ref m_isHere, .ref m_round, .ref m_bestRound, .int 0, .int 0, .long 0, .long 0, .ref m_taken, .int 0])), (m_width, .inl (k_width, 4, .inl fw))]) (hS : va_S A s.heap H locs) {ls : Array Slot} (hl : lv_has ls 4 [(3, .int 0), (2, .ref m0), (1, .ref x0), (0, .ref b)]) : W p l e room_1 s m #[Value.ref b] below meth c H locs 70 7203 (lw_Z below #[Value.ref b] s) (F0 m 1433 ls []) := by
  obtain ⟨hx, hb, hr, hml, hown, hts, hX, hbl, hlocks, hgv⟩ := id C0
  have hown : s.vm.findClass RL = some m.cls := hown
  have hts := fun w (h : w ∈ wz_law) => hts w (wz_law_in w h)
  have hbA : ¬ A b := fun h => absurd (hA2 b h) (Nat.not_le.mpr hbl)
  obtain ⟨a0, ea0⟩ : ∃ y : Int32, y = xs (0 : Int32).toNatClampNeg := ⟨_, rfl⟩
  obtain ⟨a1, ea1⟩ : ∃ y : Int32, y = xs (1 : Int32).toNatClampNeg := ⟨_, rfl⟩
  obtain ⟨a2, ea2⟩ : ∃ y : Int32, y = xs (2 : Int32).toNatClampNeg := ⟨_, rfl⟩
  obtain ⟨a3, ea3⟩ : ∃ y : Int32, y = xs (3 : Int32).toNatClampNeg := ⟨_, rfl⟩
  obtain ⟨a4, ea4⟩ : ∃ y : Int32, y = xs (4 : Int32).toNatClampNeg := ⟨_, rfl⟩
  obtain ⟨a5, ea5⟩ : ∃ y : Int32, y = xs (5 : Int32).toNatClampNeg := ⟨_, rfl⟩
  refine lv_aload_n hx hb dL_law_1433 rfl (lv_at hl 2 rfl) ?_
  refine lv_aload_n hx hb dL_law_1434 rfl (lv_at hl 3 rfl) ?_
  refine lv_iload_n hx hb dL_law_1435 rfl (lv_at hl 0 rfl) ?_
  refine lv_iconst (v := 1) hx hb dL_law_1436 (by decide) ?_
  refine lv_iadd hx hb dL_law_1437 ?_
  refine lv_topi (fun z_1 ez_1 => ?_)
  obtain rfl : z_1 = 1 := ez_1.trans (by decide)
  refine va_sld hx hb hX hbl hbA hS (vp_in_iff.mpr ⟨by decide, by decide⟩) dL_law_1438 ?_
  refine lv_topi (fun z_2 ez_2 => ?_)
  obtain rfl : a1 = z_2 := ea1.trans ez_2.symm
  refine lv_aload_n hx hb dL_law_1439 rfl (lv_at hl 3 rfl) ?_
  refine lv_iload_n hx hb dL_law_1440 rfl (lv_at hl 0 rfl) ?_
  refine lv_iconst (v := 2) hx hb dL_law_1441 (by decide) ?_
  refine lv_iadd hx hb dL_law_1442 ?_
  refine lv_topi (fun z_3 ez_3 => ?_)
  obtain rfl : z_3 = 2 := ez_3.trans (by decide)
  refine va_sld hx hb hX hbl hbA hS (vp_in_iff.mpr ⟨by decide, by decide⟩) dL_law_1443 ?_
  refine lv_topi (fun z_4 ez_4 => ?_)
  obtain rfl : a2 = z_4 := ea2.trans ez_4.symm
  refine lv_aload_n hx hb dL_law_1444 rfl (lv_at hl 3 rfl) ?_
  refine lv_iload_n hx hb dL_law_1445 rfl (lv_at hl 0 rfl) ?_
  refine lv_iconst (v := 3) hx hb dL_law_1446 (by decide) ?_
  refine lv_iadd hx hb dL_law_1447 ?_
  refine lv_topi (fun z_5 ez_5 => ?_)
  obtain rfl : z_5 = 3 := ez_5.trans (by decide)
  refine va_sld hx hb hX hbl hbA hS (vp_in_iff.mpr ⟨by decide, by decide⟩) dL_law_1448 ?_
  refine lv_topi (fun z_6 ez_6 => ?_)
  obtain rfl : a3 = z_6 := ea3.trans ez_6.symm
  refine lv_i2l (v := a3.toInt64) hx hb dL_law_1449 rfl ?_
  refine lv_bipush (v := 32) hx hb dL_law_1450 (by decide) ?_
  refine lv_lshl (v := a3.toInt64 <<< (((32 : Int32)).toInt64 &&& 63)) hx hb dL_law_1452 rfl ?_
  refine lv_topl (fun y_7 ey_7 => ?_)
  refine lv_aload_n hx hb dL_law_1453 rfl (lv_at hl 3 rfl) ?_
  refine lv_iload_n hx hb dL_law_1454 rfl (lv_at hl 0 rfl) ?_
  refine lv_iconst (v := 4) hx hb dL_law_1455 (by decide) ?_
  refine lv_iadd hx hb dL_law_1456 ?_
  refine lv_topi (fun z_8 ez_8 => ?_)
  obtain rfl : z_8 = 4 := ez_8.trans (by decide)
  refine va_sld hx hb hX hbl hbA hS (vp_in_iff.mpr ⟨by decide, by decide⟩) dL_law_1457 ?_
  refine lv_topi (fun z_9 ez_9 => ?_)
  obtain rfl : a4 = z_9 := ea4.trans ez_9.symm
  refine lv_i2l (v := a4.toInt64) hx hb dL_law_1458 rfl ?_
  refine lv_ldc2 hx hb hown (hts _ wd_law_0) dL_law_1459 ?_
  refine lv_land hx hb dL_law_1462 ?_
  refine lv_topl (fun y_10 ey_10 => ?_)
  refine lv_lor hx hb dL_law_1463 ?_
  refine lv_topl (fun y_11 ey_11 => ?_)
  have hPc := hP.sub (ws' := [(x0, .inr (6, [.ref tp, .int 0, .int 0, .int (-1), .ref rd, .ref gd, .ref im, .ref rw, .ref gn, .ref ho, .ref sq])), (rw, .inl (cr, 4, .inr (.inr (.inr (.inr fr))))), (r0, .inr (5, [.int 0, .int 0, .int 0, .ref n0])), (n0, .inl (cl0, 60, .inr (.inl (fun _ => 0)))), (r1, .inr (5, [.int 0, .int 0, .int 0, .ref n1])), (n1, .inl (cl1, 60, .inr (.inl (fun _ => 0)))), (r2, .inr (5, [.int 0, .int 0, .int 0, .ref n2])), (n2, .inl (cl2, 60, .inr (.inl (fun _ => 0)))), (r3, .inr (5, [.int 0, .int 0, .int 0, .ref n3])), (n3, .inl (cl3, 60, .inr (.inl (fun _ => 0))))]) [0, 1, 2, 3, 4, 5, 6, 7, 8, 9] rfl
  have hDc := hD.sub (ws' := [(x0, .inr (6, [.ref tp, .int 0, .int 0, .int (-1), .ref rd, .ref gd, .ref im, .ref rw, .ref gn, .ref ho, .ref sq])), (rw, .inl (cr, 4, .inr (.inr (.inr (.inr fr))))), (r0, .inr (5, [.int 0, .int 0, .int 0, .ref n0])), (n0, .inl (cl0, 60, .inr (.inl (fun _ => 0)))), (r1, .inr (5, [.int 0, .int 0, .int 0, .ref n1])), (n1, .inl (cl1, 60, .inr (.inl (fun _ => 0)))), (r2, .inr (5, [.int 0, .int 0, .int 0, .ref n2])), (n2, .inl (cl2, 60, .inr (.inl (fun _ => 0)))), (r3, .inr (5, [.int 0, .int 0, .int 0, .ref n3])), (n3, .inl (cl3, 60, .inr (.inl (fun _ => 0))))]) [0, 1, 2, 3, 4, 5, 6, 7, 8, 9] (by decide) rfl
  have hKc := hK.sub (tys' := [(cr, .object RX5), (cl0, .long), (cl1, .long), (cl2, .long), (cl3, .long)]) [0, 1, 2, 3, 4] rfl
  have hFc := va_free (wc := [(x0, .inr (6, [.ref tp, .int 0, .int 0, .int (-1), .ref rd, .ref gd, .ref im, .ref rw, .ref gn, .ref ho, .ref sq])), (rw, .inl (cr, 4, .inr (.inr (.inr (.inr fr))))), (r0, .inr (5, [.int 0, .int 0, .int 0, .ref n0])), (n0, .inl (cl0, 60, .inr (.inl (fun _ => 0)))), (r1, .inr (5, [.int 0, .int 0, .int 0, .ref n1])), (n1, .inl (cl1, 60, .inr (.inl (fun _ => 0)))), (r2, .inr (5, [.int 0, .int 0, .int 0, .ref n2])), (n2, .inl (cl2, 60, .inr (.inl (fun _ => 0)))), (r3, .inr (5, [.int 0, .int 0, .int 0, .ref n3])), (n3, .inl (cl3, 60, .inr (.inl (fun _ => 0))))]) hD hS hA [0, 1, 2, 3, 4, 5, 6, 7, 8, 9] rfl
  refine va_calli (va_runV (As := [.int a1, .int a2, .long y_11]) (rest := []) ⟨hx, hb, hml, hown, hts⟩ (c_X6_write l dC dI H.size x0 tp rd gd im rw gn ho sq cr fr r0 r1 r2 r3 n0 n1 n2 n3 cl0 cl1 cl2 cl3 a1 a2 y_11 hf0 hf1 hf2 hf3) (cwV 3 hts g_law_X6_write rfl rfl rfl (by decide +kernel) ⟨Nat.le_of_ble_eq_true rfl, Nat.le_of_ble_eq_true rfl⟩) ⟨fun a U g mk q => by obtain ⟨q0, q1, qP, qK, qD⟩ := q; exact ⟨q0, q1, qP, va_K.moved (u := U) (U := U.calling g mk a) (Vm.Alike.refl U.vm) qK, qD⟩, va_recv hKc hPc (ci := 6) (q0 := 0) rfl rfl, fun U hU hW => ⟨rfl, by rw [hU], by rw [hU]; exact hPc, va_K.moved hW.alike hKc, hDc.weaken (fun _ _ _ _ => trivial)⟩⟩ rfl rfl hl.1 rfl (lv_room (Nat.le_of_ble_eq_true rfl)) dL_law_1464 ⟨Nat.le_of_ble_eq_true rfl, Nat.le_of_ble_eq_true rfl⟩) hS (fun q _ h => hFc q h) hFc (fun r_12 u t H1 locs ht hvm hw_13 hB hz1 hk1 hS => ?_)
  have hP1 : va_P (dC, dI) vwCl [] H1 := i_nilP
  have hD1 : va_D (va_A [(x0, .inr (6, [.ref tp, .int 0, .int 0, .int (-1), .ref rd, .ref gd, .ref im, .ref rw, .ref gn, .ref ho, .ref sq])), (rw, .inl (cr, 4, .inr (.inr (.inr (.inr fr))))), (r0, .inr (5, [.int 0, .int 0, .int 0, .ref n0])), (n0, .inl (cl0, 60, .inr (.inl (fun _ => 0)))), (r1, .inr (5, [.int 0, .int 0, .int 0, .ref n1])), (n1, .inl (cl1, 60, .inr (.inl (fun _ => 0)))), (r2, .inr (5, [.int 0, .int 0, .int 0, .ref n2])), (n2, .inl (cl2, 60, .inr (.inl (fun _ => 0)))), (r3, .inr (5, [.int 0, .int 0, .int 0, .ref n3])), (n3, .inl (cl3, 60, .inr (.inl (fun _ => 0))))] H.size) [] := i_nilD
  try dsimp only at hw_13
  obtain ⟨hP, hD⟩ := va_join (wr := [(m0, .inr (7, [.int 0, .ref m_width, .ref m_many, .ref m_cells, .ref m_moved, .ref m_tape, .int 0, .int 0, .int 0, .int 0, .int 0, .long 0, .int 0, .int 0, .int 0, .int (-1), .ref m_lines, .ref m_has, .ref m_state, .ref m_gate, .ref m_guest, .ref m_gone, .int 0, .ref m_isKept, .ref m_first, .ref m_second, .int 0, .ref m_far, .ref m_wished, .ref m_wasState, .ref m_isHere, .ref m_round, .ref m_bestRound, .int 0, .int 0, .long 0, .long 0, .ref m_taken, .int 0])), (m_width, .inl (k_width, 4, .inl fw))]) (w1 := []) hP hD [0, 1, 2, 3, 4, 5, 6, 7, 8, 9] [10, 11] rfl rfl (by decide) (by decide) hk1 hFc hP1 hD1
  generalize H1 = H at hP hS ⊢
  have hP : va_P (dC, dI) vwCl [(m0, .inr (7, [.int 0, .ref m_width, .ref m_many, .ref m_cells, .ref m_moved, .ref m_tape, .int 0, .int 0, .int 0, .int 0, .int 0, .long 0, .int 0, .int 0, .int 0, .int (-1), .ref m_lines, .ref m_has, .ref m_state, .ref m_gate, .ref m_guest, .ref m_gone, .int 0, .ref m_isKept, .ref m_first, .ref m_second, .int 0, .ref m_far, .ref m_wished, .ref m_wasState, .ref m_isHere, .ref m_round, .ref m_bestRound, .int 0, .int 0, .long 0, .long 0, .ref m_taken, .int 0])), (m_width, .inl (k_width, 4, .inl fw))] H := hP
  have hD : va_D A [(m0, .inr (7, [.int 0, .ref m_width, .ref m_many, .ref m_cells, .ref m_moved, .ref m_tape, .int 0, .int 0, .int 0, .int 0, .int 0, .long 0, .int 0, .int 0, .int 0, .int (-1), .ref m_lines, .ref m_has, .ref m_state, .ref m_gate, .ref m_guest, .ref m_gone, .int 0, .ref m_isKept, .ref m_first, .ref m_second, .int 0, .ref m_far, .ref m_wished, .ref m_wasState, .ref m_isHere, .ref m_round, .ref m_bestRound, .int 0, .int 0, .long 0, .long 0, .ref m_taken, .int 0])), (m_width, .inl (k_width, 4, .inl fw))] := hD
  refine lv_aload_n hx hb dL_law_1467 rfl (lv_at hl 1 rfl) ?_
  refine lv_aload_n hx hb dL_law_1468 rfl (lv_at hl 3 rfl) ?_
  refine lv_iload_n hx hb dL_law_1469 rfl (lv_at hl 0 rfl) ?_
  refine lv_iconst (v := 1) hx hb dL_law_1470 (by decide) ?_
  refine lv_iadd hx hb dL_law_1471 ?_
  refine lv_topi (fun z_14 ez_14 => ?_)
  obtain rfl : z_14 = 1 := ez_14.trans (by decide)
  refine va_sld hx hb hX hbl hbA hS (vp_in_iff.mpr ⟨by decide, by decide⟩) dL_law_1472 ?_
  refine lv_topi (fun z_15 ez_15 => ?_)
  obtain rfl : a1 = z_15 := ea1.trans ez_15.symm
  refine lv_aload_n hx hb dL_law_1473 rfl (lv_at hl 3 rfl) ?_
  refine lv_iload_n hx hb dL_law_1474 rfl (lv_at hl 0 rfl) ?_
  refine lv_iconst (v := 2) hx hb dL_law_1475 (by decide) ?_
  refine lv_iadd hx hb dL_law_1476 ?_
  refine lv_topi (fun z_16 ez_16 => ?_)
  obtain rfl : z_16 = 2 := ez_16.trans (by decide)
  refine va_sld hx hb hX hbl hbA hS (vp_in_iff.mpr ⟨by decide, by decide⟩) dL_law_1477 ?_
  refine lv_topi (fun z_17 ez_17 => ?_)
  obtain rfl : a2 = z_17 := ea2.trans ez_17.symm
  refine lv_aload_n hx hb dL_law_1478 rfl (lv_at hl 3 rfl) ?_
  refine lv_iload_n hx hb dL_law_1479 rfl (lv_at hl 0 rfl) ?_
  refine lv_iconst (v := 3) hx hb dL_law_1480 (by decide) ?_
  refine lv_iadd hx hb dL_law_1481 ?_
  refine lv_topi (fun z_18 ez_18 => ?_)
  obtain rfl : z_18 = 3 := ez_18.trans (by decide)
  refine va_sld hx hb hX hbl hbA hS (vp_in_iff.mpr ⟨by decide, by decide⟩) dL_law_1482 ?_
  refine lv_topi (fun z_19 ez_19 => ?_)
  obtain rfl : a3 = z_19 := ea3.trans ez_19.symm
  refine lv_i2l (v := a3.toInt64) hx hb dL_law_1483 rfl ?_
  refine lv_bipush (v := 32) hx hb dL_law_1484 (by decide) ?_
  refine lv_lshl (v := a3.toInt64 <<< (((32 : Int32)).toInt64 &&& 63)) hx hb dL_law_1486 rfl ?_
  refine lv_topl (fun y_20 ey_20 => ?_)
  refine lv_aload_n hx hb dL_law_1487 rfl (lv_at hl 3 rfl) ?_
  refine lv_iload_n hx hb dL_law_1488 rfl (lv_at hl 0 rfl) ?_
  refine lv_iconst (v := 4) hx hb dL_law_1489 (by decide) ?_
  refine lv_iadd hx hb dL_law_1490 ?_
  refine lv_topi (fun z_21 ez_21 => ?_)
  obtain rfl : z_21 = 4 := ez_21.trans (by decide)
  refine va_sld hx hb hX hbl hbA hS (vp_in_iff.mpr ⟨by decide, by decide⟩) dL_law_1491 ?_
  refine lv_topi (fun z_22 ez_22 => ?_)
  obtain rfl : a4 = z_22 := ea4.trans ez_22.symm
  refine lv_i2l (v := a4.toInt64) hx hb dL_law_1492 rfl ?_
  refine lv_ldc2 hx hb hown (hts _ wd_law_0) dL_law_1493 ?_
  refine lv_land hx hb dL_law_1496 ?_
  refine lv_topl (fun y_23 ey_23 => ?_)
  refine lv_lor hx hb dL_law_1497 ?_
  refine lv_topl (fun y_24 ey_24 => ?_)
  have hPc := hP.sub (ws' := [(m0, .inr (7, [.int 0, .ref m_width, .ref m_many, .ref m_cells, .ref m_moved, .ref m_tape, .int 0, .int 0, .int 0, .int 0, .int 0, .long 0, .int 0, .int 0, .int 0, .int (-1), .ref m_lines, .ref m_has, .ref m_state, .ref m_gate, .ref m_guest, .ref m_gone, .int 0, .ref m_isKept, .ref m_first, .ref m_second, .int 0, .ref m_far, .ref m_wished, .ref m_wasState, .ref m_isHere, .ref m_round, .ref m_bestRound, .int 0, .int 0, .long 0, .long 0, .ref m_taken, .int 0])), (m_width, .inl (k_width, 4, .inl fw))]) [0, 1] rfl
  have hDc := hD.sub (ws' := [(m0, .inr (7, [.int 0, .ref m_width, .ref m_many, .ref m_cells, .ref m_moved, .ref m_tape, .int 0, .int 0, .int 0, .int 0, .int 0, .long 0, .int 0, .int 0, .int 0, .int (-1), .ref m_lines, .ref m_has, .ref m_state, .ref m_gate, .ref m_guest, .ref m_gone, .int 0, .ref m_isKept, .ref m_first, .ref m_second, .int 0, .ref m_far, .ref m_wished, .ref m_wasState, .ref m_isHere, .ref m_round, .ref m_bestRound, .int 0, .int 0, .long 0, .long 0, .ref m_taken, .int 0])), (m_width, .inl (k_width, 4, .inl fw))]) [0, 1] (by decide) rfl
  have hKc := hK.sub (tys' := [(k_width, .int)]) [5] rfl
  have hFc := va_free (wc := [(m0, .inr (7, [.int 0, .ref m_width, .ref m_many, .ref m_cells, .ref m_moved, .ref m_tape, .int 0, .int 0, .int 0, .int 0, .int 0, .long 0, .int 0, .int 0, .int 0, .int (-1), .ref m_lines, .ref m_has, .ref m_state, .ref m_gate, .ref m_guest, .ref m_gone, .int 0, .ref m_isKept, .ref m_first, .ref m_second, .int 0, .ref m_far, .ref m_wished, .ref m_wasState, .ref m_isHere, .ref m_round, .ref m_bestRound, .int 0, .int 0, .long 0, .long 0, .ref m_taken, .int 0])), (m_width, .inl (k_width, 4, .inl fw))]) hD hS hA [0, 1] rfl
  refine va_calli (va_runV (As := [.int a1, .int a2, .long y_24]) (rest := [.int r_12]) ⟨hx, hb, hml, hown, hts⟩ (c_X7_write l dC dI H.size m0 m_width m_many m_cells m_moved m_tape m_lines m_has m_state m_gate m_guest m_gone m_isKept m_first m_second m_far m_wished m_wasState m_isHere m_round m_bestRound m_taken k_width fw a1 a2 y_24 hg0 hg1 hg2 hg3) (cwV 3 hts g_law_X7_write rfl rfl rfl (by decide +kernel) ⟨Nat.le_of_ble_eq_true rfl, Nat.le_of_ble_eq_true rfl⟩) ⟨fun a U g mk q => by obtain ⟨q0, q1, qP, qK, qD⟩ := q; exact ⟨q0, q1, qP, va_K.moved (u := U) (U := U.calling g mk a) (Vm.Alike.refl U.vm) qK, qD⟩, va_recv hKc hPc (ci := 7) (q0 := 0) rfl rfl, fun U hU hW => ⟨rfl, by rw [hU], by rw [hU]; exact hPc, va_K.moved hW.alike hKc, hDc.weaken (fun _ _ _ _ => trivial)⟩⟩ rfl rfl hl.1 rfl (lv_room (Nat.le_of_ble_eq_true rfl)) dL_law_1498 ⟨Nat.le_of_ble_eq_true rfl, Nat.le_of_ble_eq_true rfl⟩) hS (fun q _ h => hFc q h) hFc (fun r_25 u t H1 locs ht hvm hw_26 hB hz1 hk1 hS => ?_)
  have hP1 : va_P (dC, dI) vwCl [] H1 := i_nilP
  have hD1 : va_D (va_A [(m0, .inr (7, [.int 0, .ref m_width, .ref m_many, .ref m_cells, .ref m_moved, .ref m_tape, .int 0, .int 0, .int 0, .int 0, .int 0, .long 0, .int 0, .int 0, .int 0, .int (-1), .ref m_lines, .ref m_has, .ref m_state, .ref m_gate, .ref m_guest, .ref m_gone, .int 0, .ref m_isKept, .ref m_first, .ref m_second, .int 0, .ref m_far, .ref m_wished, .ref m_wasState, .ref m_isHere, .ref m_round, .ref m_bestRound, .int 0, .int 0, .long 0, .long 0, .ref m_taken, .int 0])), (m_width, .inl (k_width, 4, .inl fw))] H.size) [] := i_nilD
  try dsimp only at hw_26
  obtain ⟨hP, hD⟩ := va_join (wr := []) (w1 := []) hP hD [0, 1] [] rfl rfl (by decide) (by decide) hk1 hFc hP1 hD1
  generalize H1 = H at hP hS ⊢
  have hP : va_P (dC, dI) vwCl [] H := hP
  have hD : va_D A [] := hD
  refine lv_icmp_eq (tgt := 1569) hx hb dL_law_1501 (by decide) (fun c_27 => ?_) (fun c_27 => absurd (hw_13.trans hw_26.symm) c_27)
  have c_27 : r_12.toInt = r_25.toInt := i_eq (a := r_12) (b := r_25) rfl rfl c_27
  refine lv_iinc (v := 6) (lv' := [(3, .int 6), (2, .ref m0), (1, .ref x0), (0, .ref b)]) hx hb dL_law_1569 hl (k := 0) rfl (by decide) (by decide) rfl (fun ls hl => ?_)
  refine lv_goto (tgt := 18) hx hb dL_law_1572 (by decide) ?_
  exact law_exit C0 hA2 hS (lv_sub hl [0, 3] rfl) (by decide) (by omega) (by omega)

set_option maxHeartbeats 4000000 in
set_option maxRecDepth 100000 in
/-- the law, its call 42: paste -/
theorem law_42 {p : Program} {e : Env} {s : State} {m : MethodId} {below : List Frame} {meth : Method} {c : Code} (l : Launch) {b : Nat} {xs : Nat → Int32} (C0 : lw_At p s m meth c b 6 xs) {A : Nat → Prop} (hA : ∀ q, s.heap.size ≤ q → A q) (hA2 : ∀ q, A q → s.heap.size ≤ q) {x0 : Nat} {tp : Nat} {rd : Nat} {gd : Nat} {im : Nat} {rw : Nat} {gn : Nat} {ho : Nat} {sq : Nat} {r0 : Nat} {r1 : Nat} {r2 : Nat} {r3 : Nat} {n0 : Nat} {n1 : Nat} {n2 : Nat} {n3 : Nat} {cr : ClassId} {cl0 : ClassId} {cl1 : ClassId} {cl2 : ClassId} {cl3 : ClassId} {fr : Nat → Option Nat} {m0 : Nat} {m_width : Nat} {m_many : Nat} {m_cells : Nat} {m_moved : Nat} {m_tape : Nat} {m_lines : Nat} {m_has : Nat} {m_state : Nat} {m_gate : Nat} {m_guest : Nat} {m_gone : Nat} {m_isKept : Nat} {m_first : Nat} {m_second : Nat} {m_far : Nat} {m_wished : Nat} {m_wasState : Nat} {m_isHere : Nat} {m_round : Nat} {m_bestRound : Nat} {m_taken : Nat} {k_width : ClassId} {fw : Nat → Int32} (hf0 : fr 0 = some r0)  (hf1 : fr 1 = some r1)  (hf2 : fr 2 = some r2)  (hf3 : fr 3 = some r3) (hg0 : fw 0 = -1)  (hg1 : fw 1 = -1)  (hg2 : fw 2 = -1)  (hg3 : fw 3 = -1) (hE0 : Kx s) {dC : Nat → ClassId} {dI : Nat → Nat → Nat} (hK : va_K (dC, dI) vwCl [(cr, .object RX5), (cl0, .long), (cl1, .long), (cl2, .long), (cl3, .long), (k_width, .int)] s) {H : Heap} {locs : List Loc} (hP : va_P (dC, dI) vwCl [(x0, .inr (6, [.ref tp, .int 0, .int 0, .int (-1), .ref rd, .ref gd, .ref im, .ref rw, .ref gn, .ref ho, .ref sq])), (rw, .inl (cr, 4, .inr (.inr (.inr (.inr fr))))), (r0, .inr (5, [.int 0, .int 0, .int 0, .ref n0])), (n0, .inl (cl0, 60, .inr (.inl (fun _ => 0)))), (r1, .inr (5, [.int 0, .int 0, .int 0, .ref n1])), (n1, .inl (cl1, 60, .inr (.inl (fun _ => 0)))), (r2, .inr (5, [.int 0, .int 0, .int 0, .ref n2])), (n2, .inl (cl2, 60, .inr (.inl (fun _ => 0)))), (r3, .inr (5, [.int 0, .int 0, .int 0, .ref n3])), (n3, .inl (cl3, 60, .inr (.inl (fun _ => 0)))), (m0, .inr (7, [.int 0, .ref m_width, .ref m_many, .ref m_cells, .ref m_moved, .ref m_tape, .int 0, .int 0, .int 0, .int 0, .int 0, .long 0, .int 0, .int 0, .int 0, .int (-1), .ref m_lines, .ref m_has, .ref m_state, .ref m_gate, .ref m_guest, .ref m_gone, .int 0, .ref m_isKept, .ref m_first, .ref m_second, .int 0, .ref m_far, .ref m_wished, .ref m_wasState, .ref m_isHere, .ref m_round, .ref m_bestRound, .int 0, .int 0, .long 0, .long 0, .ref m_taken, .int 0])), (m_width, .inl (k_width, 4, .inl fw))] H) (hD : va_D A [(x0, .inr (6, [.ref tp, .int 0, .int 0, .int (-1), .ref rd, .ref gd, .ref im, .ref rw, .ref gn, .ref ho, .ref sq])), (rw, .inl (cr, 4, .inr (.inr (.inr (.inr fr))))), (r0, .inr (5, [.int 0, .int 0, .int 0, .ref n0])), (n0, .inl (cl0, 60, .inr (.inl (fun _ => 0)))), (r1, .inr (5, [.int 0, .int 0, .int 0, .ref n1])), (n1, .inl (cl1, 60, .inr (.inl (fun _ => 0)))), (r2, .inr (5, [.int 0, .int 0, .int 0, .ref n2])), (n2, .inl (cl2, 60, .inr (.inl (fun _ => 0)))), (r3, .inr (5, [.int 0, .int 0, .int 0, .ref n3])), (n3, .inl (cl3, 60, .inr (.inl (fun _ => 0)))), (m0, .inr (7, [.int 0, .ref m_width, .ref m_many, .ref m_cells, .ref m_moved, .ref m_tape, .int 0, .int 0, .int 0, .int 0, .int 0, .long 0, .int 0, .int 0, .int 0, .int (-1), .ref m_lines, .ref m_has, .ref m_state, .ref m_gate, .ref m_guest, .ref m_gone, .int 0, .ref m_isKept, .ref m_first, .ref m_second, .int 0, .ref m_far, .ref m_wished, .ref m_wasState, .ref m_isHere, .ref m_round, .ref m_bestRound, .int 0, .int 0, .long 0, .long 0, .ref m_taken, .int 0])), (m_width, .inl (k_width, 4, .inl fw))]) (hS : va_S A s.heap H locs) {ls : Array Slot} (hl : lv_has ls 4 [(3, .int 0), (2, .ref m0), (1, .ref x0), (0, .ref b)]) : W p l e room_1 s m #[Value.ref b] below meth c H locs 70 7203 (lw_Z below #[Value.ref b] s) (F0 m 1506 ls []) := by
  obtain ⟨hx, hb, hr, hml, hown, hts, hX, hbl, hlocks, hgv⟩ := id C0
  have hown : s.vm.findClass RL = some m.cls := hown
  have hts := fun w (h : w ∈ wz_law) => hts w (wz_law_in w h)
  have hbA : ¬ A b := fun h => absurd (hA2 b h) (Nat.not_le.mpr hbl)
  obtain ⟨a0, ea0⟩ : ∃ y : Int32, y = xs (0 : Int32).toNatClampNeg := ⟨_, rfl⟩
  obtain ⟨a1, ea1⟩ : ∃ y : Int32, y = xs (1 : Int32).toNatClampNeg := ⟨_, rfl⟩
  obtain ⟨a2, ea2⟩ : ∃ y : Int32, y = xs (2 : Int32).toNatClampNeg := ⟨_, rfl⟩
  obtain ⟨a3, ea3⟩ : ∃ y : Int32, y = xs (3 : Int32).toNatClampNeg := ⟨_, rfl⟩
  obtain ⟨a4, ea4⟩ : ∃ y : Int32, y = xs (4 : Int32).toNatClampNeg := ⟨_, rfl⟩
  obtain ⟨a5, ea5⟩ : ∃ y : Int32, y = xs (5 : Int32).toNatClampNeg := ⟨_, rfl⟩
  refine lv_aload_n hx hb dL_law_1506 rfl (lv_at hl 2 rfl) ?_
  refine lv_aload_n hx hb dL_law_1507 rfl (lv_at hl 3 rfl) ?_
  refine lv_iload_n hx hb dL_law_1508 rfl (lv_at hl 0 rfl) ?_
  refine lv_iconst (v := 1) hx hb dL_law_1509 (by decide) ?_
  refine lv_iadd hx hb dL_law_1510 ?_
  refine lv_topi (fun z_1 ez_1 => ?_)
  obtain rfl : z_1 = 1 := ez_1.trans (by decide)
  refine va_sld hx hb hX hbl hbA hS (vp_in_iff.mpr ⟨by decide, by decide⟩) dL_law_1511 ?_
  refine lv_topi (fun z_2 ez_2 => ?_)
  obtain rfl : a1 = z_2 := ea1.trans ez_2.symm
  refine lv_aload_n hx hb dL_law_1512 rfl (lv_at hl 3 rfl) ?_
  refine lv_iload_n hx hb dL_law_1513 rfl (lv_at hl 0 rfl) ?_
  refine lv_iconst (v := 2) hx hb dL_law_1514 (by decide) ?_
  refine lv_iadd hx hb dL_law_1515 ?_
  refine lv_topi (fun z_3 ez_3 => ?_)
  obtain rfl : z_3 = 2 := ez_3.trans (by decide)
  refine va_sld hx hb hX hbl hbA hS (vp_in_iff.mpr ⟨by decide, by decide⟩) dL_law_1516 ?_
  refine lv_topi (fun z_4 ez_4 => ?_)
  obtain rfl : a2 = z_4 := ea2.trans ez_4.symm
  refine lv_aload_n hx hb dL_law_1517 rfl (lv_at hl 3 rfl) ?_
  refine lv_iload_n hx hb dL_law_1518 rfl (lv_at hl 0 rfl) ?_
  refine lv_iconst (v := 3) hx hb dL_law_1519 (by decide) ?_
  refine lv_iadd hx hb dL_law_1520 ?_
  refine lv_topi (fun z_5 ez_5 => ?_)
  obtain rfl : z_5 = 3 := ez_5.trans (by decide)
  refine va_sld hx hb hX hbl hbA hS (vp_in_iff.mpr ⟨by decide, by decide⟩) dL_law_1521 ?_
  refine lv_topi (fun z_6 ez_6 => ?_)
  obtain rfl : a3 = z_6 := ea3.trans ez_6.symm
  refine lv_aload_n hx hb dL_law_1522 rfl (lv_at hl 3 rfl) ?_
  refine lv_iload_n hx hb dL_law_1523 rfl (lv_at hl 0 rfl) ?_
  refine lv_iconst (v := 4) hx hb dL_law_1524 (by decide) ?_
  refine lv_iadd hx hb dL_law_1525 ?_
  refine lv_topi (fun z_7 ez_7 => ?_)
  obtain rfl : z_7 = 4 := ez_7.trans (by decide)
  refine va_sld hx hb hX hbl hbA hS (vp_in_iff.mpr ⟨by decide, by decide⟩) dL_law_1526 ?_
  refine lv_topi (fun z_8 ez_8 => ?_)
  obtain rfl : a4 = z_8 := ea4.trans ez_8.symm
  refine lv_aload_n hx hb dL_law_1527 rfl (lv_at hl 3 rfl) ?_
  refine lv_iload_n hx hb dL_law_1528 rfl (lv_at hl 0 rfl) ?_
  refine lv_iconst (v := 5) hx hb dL_law_1529 (by decide) ?_
  refine lv_iadd hx hb dL_law_1530 ?_
  refine lv_topi (fun z_9 ez_9 => ?_)
  obtain rfl : z_9 = 5 := ez_9.trans (by decide)
  refine va_sld hx hb hX hbl hbA hS (vp_in_iff.mpr ⟨by decide, by decide⟩) dL_law_1531 ?_
  refine lv_topi (fun z_10 ez_10 => ?_)
  obtain rfl : a5 = z_10 := ea5.trans ez_10.symm
  have hPc := hP.sub (ws' := [(x0, .inr (6, [.ref tp, .int 0, .int 0, .int (-1), .ref rd, .ref gd, .ref im, .ref rw, .ref gn, .ref ho, .ref sq])), (rw, .inl (cr, 4, .inr (.inr (.inr (.inr fr))))), (r0, .inr (5, [.int 0, .int 0, .int 0, .ref n0])), (n0, .inl (cl0, 60, .inr (.inl (fun _ => 0)))), (r1, .inr (5, [.int 0, .int 0, .int 0, .ref n1])), (n1, .inl (cl1, 60, .inr (.inl (fun _ => 0)))), (r2, .inr (5, [.int 0, .int 0, .int 0, .ref n2])), (n2, .inl (cl2, 60, .inr (.inl (fun _ => 0)))), (r3, .inr (5, [.int 0, .int 0, .int 0, .ref n3])), (n3, .inl (cl3, 60, .inr (.inl (fun _ => 0))))]) [0, 1, 2, 3, 4, 5, 6, 7, 8, 9] rfl
  have hDc := hD.sub (ws' := [(x0, .inr (6, [.ref tp, .int 0, .int 0, .int (-1), .ref rd, .ref gd, .ref im, .ref rw, .ref gn, .ref ho, .ref sq])), (rw, .inl (cr, 4, .inr (.inr (.inr (.inr fr))))), (r0, .inr (5, [.int 0, .int 0, .int 0, .ref n0])), (n0, .inl (cl0, 60, .inr (.inl (fun _ => 0)))), (r1, .inr (5, [.int 0, .int 0, .int 0, .ref n1])), (n1, .inl (cl1, 60, .inr (.inl (fun _ => 0)))), (r2, .inr (5, [.int 0, .int 0, .int 0, .ref n2])), (n2, .inl (cl2, 60, .inr (.inl (fun _ => 0)))), (r3, .inr (5, [.int 0, .int 0, .int 0, .ref n3])), (n3, .inl (cl3, 60, .inr (.inl (fun _ => 0))))]) [0, 1, 2, 3, 4, 5, 6, 7, 8, 9] (by decide) rfl
  have hKc := hK.sub (tys' := [(cr, .object RX5), (cl0, .long), (cl1, .long), (cl2, .long), (cl3, .long)]) [0, 1, 2, 3, 4] rfl
  have hFc := va_free (wc := [(x0, .inr (6, [.ref tp, .int 0, .int 0, .int (-1), .ref rd, .ref gd, .ref im, .ref rw, .ref gn, .ref ho, .ref sq])), (rw, .inl (cr, 4, .inr (.inr (.inr (.inr fr))))), (r0, .inr (5, [.int 0, .int 0, .int 0, .ref n0])), (n0, .inl (cl0, 60, .inr (.inl (fun _ => 0)))), (r1, .inr (5, [.int 0, .int 0, .int 0, .ref n1])), (n1, .inl (cl1, 60, .inr (.inl (fun _ => 0)))), (r2, .inr (5, [.int 0, .int 0, .int 0, .ref n2])), (n2, .inl (cl2, 60, .inr (.inl (fun _ => 0)))), (r3, .inr (5, [.int 0, .int 0, .int 0, .ref n3])), (n3, .inl (cl3, 60, .inr (.inl (fun _ => 0))))]) hD hS hA [0, 1, 2, 3, 4, 5, 6, 7, 8, 9] rfl
  refine va_calli (va_runV (As := [.int a1, .int a2, .int a3, .int a4, .int a5]) (rest := []) ⟨hx, hb, hml, hown, hts⟩ (c_X6_paste l dC dI H.size x0 tp rd gd im rw gn ho sq cr fr r0 r1 r2 r3 n0 n1 n2 n3 cl0 cl1 cl2 cl3 a1 a2 a3 a4 a5 hf0 hf1 hf2 hf3) (cwV 5 hts g_law_X6_paste rfl rfl rfl (by decide +kernel) ⟨Nat.le_of_ble_eq_true rfl, Nat.le_of_ble_eq_true rfl⟩) ⟨fun a U g mk q => by obtain ⟨q0, q1, qP, qK, qD⟩ := q; exact ⟨q0, q1, qP, va_K.moved (u := U) (U := U.calling g mk a) (Vm.Alike.refl U.vm) qK, qD⟩, va_recv hKc hPc (ci := 6) (q0 := 0) rfl rfl, fun U hU hW => ⟨rfl, by rw [hU], by rw [hU]; exact hPc, va_K.moved hW.alike hKc, hDc.weaken (fun _ _ _ _ => trivial)⟩⟩ rfl rfl hl.1 rfl (lv_room (Nat.le_of_ble_eq_true rfl)) dL_law_1532 ⟨Nat.le_of_ble_eq_true rfl, Nat.le_of_ble_eq_true rfl⟩) hS (fun q _ h => hFc q h) hFc (fun r_11 u t H1 locs ht hvm hw_12 hB hz1 hk1 hS => ?_)
  have hP1 : va_P (dC, dI) vwCl [] H1 := i_nilP
  have hD1 : va_D (va_A [(x0, .inr (6, [.ref tp, .int 0, .int 0, .int (-1), .ref rd, .ref gd, .ref im, .ref rw, .ref gn, .ref ho, .ref sq])), (rw, .inl (cr, 4, .inr (.inr (.inr (.inr fr))))), (r0, .inr (5, [.int 0, .int 0, .int 0, .ref n0])), (n0, .inl (cl0, 60, .inr (.inl (fun _ => 0)))), (r1, .inr (5, [.int 0, .int 0, .int 0, .ref n1])), (n1, .inl (cl1, 60, .inr (.inl (fun _ => 0)))), (r2, .inr (5, [.int 0, .int 0, .int 0, .ref n2])), (n2, .inl (cl2, 60, .inr (.inl (fun _ => 0)))), (r3, .inr (5, [.int 0, .int 0, .int 0, .ref n3])), (n3, .inl (cl3, 60, .inr (.inl (fun _ => 0))))] H.size) [] := i_nilD
  try dsimp only at hw_12
  obtain ⟨hP, hD⟩ := va_join (wr := [(m0, .inr (7, [.int 0, .ref m_width, .ref m_many, .ref m_cells, .ref m_moved, .ref m_tape, .int 0, .int 0, .int 0, .int 0, .int 0, .long 0, .int 0, .int 0, .int 0, .int (-1), .ref m_lines, .ref m_has, .ref m_state, .ref m_gate, .ref m_guest, .ref m_gone, .int 0, .ref m_isKept, .ref m_first, .ref m_second, .int 0, .ref m_far, .ref m_wished, .ref m_wasState, .ref m_isHere, .ref m_round, .ref m_bestRound, .int 0, .int 0, .long 0, .long 0, .ref m_taken, .int 0])), (m_width, .inl (k_width, 4, .inl fw))]) (w1 := []) hP hD [0, 1, 2, 3, 4, 5, 6, 7, 8, 9] [10, 11] rfl rfl (by decide) (by decide) hk1 hFc hP1 hD1
  generalize H1 = H at hP hS ⊢
  have hP : va_P (dC, dI) vwCl [(m0, .inr (7, [.int 0, .ref m_width, .ref m_many, .ref m_cells, .ref m_moved, .ref m_tape, .int 0, .int 0, .int 0, .int 0, .int 0, .long 0, .int 0, .int 0, .int 0, .int (-1), .ref m_lines, .ref m_has, .ref m_state, .ref m_gate, .ref m_guest, .ref m_gone, .int 0, .ref m_isKept, .ref m_first, .ref m_second, .int 0, .ref m_far, .ref m_wished, .ref m_wasState, .ref m_isHere, .ref m_round, .ref m_bestRound, .int 0, .int 0, .long 0, .long 0, .ref m_taken, .int 0])), (m_width, .inl (k_width, 4, .inl fw))] H := hP
  have hD : va_D A [(m0, .inr (7, [.int 0, .ref m_width, .ref m_many, .ref m_cells, .ref m_moved, .ref m_tape, .int 0, .int 0, .int 0, .int 0, .int 0, .long 0, .int 0, .int 0, .int 0, .int (-1), .ref m_lines, .ref m_has, .ref m_state, .ref m_gate, .ref m_guest, .ref m_gone, .int 0, .ref m_isKept, .ref m_first, .ref m_second, .int 0, .ref m_far, .ref m_wished, .ref m_wasState, .ref m_isHere, .ref m_round, .ref m_bestRound, .int 0, .int 0, .long 0, .long 0, .ref m_taken, .int 0])), (m_width, .inl (k_width, 4, .inl fw))] := hD
  refine lv_aload_n hx hb dL_law_1535 rfl (lv_at hl 1 rfl) ?_
  refine lv_aload_n hx hb dL_law_1536 rfl (lv_at hl 3 rfl) ?_
  refine lv_iload_n hx hb dL_law_1537 rfl (lv_at hl 0 rfl) ?_
  refine lv_iconst (v := 1) hx hb dL_law_1538 (by decide) ?_
  refine lv_iadd hx hb dL_law_1539 ?_
  refine lv_topi (fun z_13 ez_13 => ?_)
  obtain rfl : z_13 = 1 := ez_13.trans (by decide)
  refine va_sld hx hb hX hbl hbA hS (vp_in_iff.mpr ⟨by decide, by decide⟩) dL_law_1540 ?_
  refine lv_topi (fun z_14 ez_14 => ?_)
  obtain rfl : a1 = z_14 := ea1.trans ez_14.symm
  refine lv_aload_n hx hb dL_law_1541 rfl (lv_at hl 3 rfl) ?_
  refine lv_iload_n hx hb dL_law_1542 rfl (lv_at hl 0 rfl) ?_
  refine lv_iconst (v := 2) hx hb dL_law_1543 (by decide) ?_
  refine lv_iadd hx hb dL_law_1544 ?_
  refine lv_topi (fun z_15 ez_15 => ?_)
  obtain rfl : z_15 = 2 := ez_15.trans (by decide)
  refine va_sld hx hb hX hbl hbA hS (vp_in_iff.mpr ⟨by decide, by decide⟩) dL_law_1545 ?_
  refine lv_topi (fun z_16 ez_16 => ?_)
  obtain rfl : a2 = z_16 := ea2.trans ez_16.symm
  refine lv_aload_n hx hb dL_law_1546 rfl (lv_at hl 3 rfl) ?_
  refine lv_iload_n hx hb dL_law_1547 rfl (lv_at hl 0 rfl) ?_
  refine lv_iconst (v := 3) hx hb dL_law_1548 (by decide) ?_
  refine lv_iadd hx hb dL_law_1549 ?_
  refine lv_topi (fun z_17 ez_17 => ?_)
  obtain rfl : z_17 = 3 := ez_17.trans (by decide)
  refine va_sld hx hb hX hbl hbA hS (vp_in_iff.mpr ⟨by decide, by decide⟩) dL_law_1550 ?_
  refine lv_topi (fun z_18 ez_18 => ?_)
  obtain rfl : a3 = z_18 := ea3.trans ez_18.symm
  refine lv_aload_n hx hb dL_law_1551 rfl (lv_at hl 3 rfl) ?_
  refine lv_iload_n hx hb dL_law_1552 rfl (lv_at hl 0 rfl) ?_
  refine lv_iconst (v := 4) hx hb dL_law_1553 (by decide) ?_
  refine lv_iadd hx hb dL_law_1554 ?_
  refine lv_topi (fun z_19 ez_19 => ?_)
  obtain rfl : z_19 = 4 := ez_19.trans (by decide)
  refine va_sld hx hb hX hbl hbA hS (vp_in_iff.mpr ⟨by decide, by decide⟩) dL_law_1555 ?_
  refine lv_topi (fun z_20 ez_20 => ?_)
  obtain rfl : a4 = z_20 := ea4.trans ez_20.symm
  refine lv_aload_n hx hb dL_law_1556 rfl (lv_at hl 3 rfl) ?_
  refine lv_iload_n hx hb dL_law_1557 rfl (lv_at hl 0 rfl) ?_
  refine lv_iconst (v := 5) hx hb dL_law_1558 (by decide) ?_
  refine lv_iadd hx hb dL_law_1559 ?_
  refine lv_topi (fun z_21 ez_21 => ?_)
  obtain rfl : z_21 = 5 := ez_21.trans (by decide)
  refine va_sld hx hb hX hbl hbA hS (vp_in_iff.mpr ⟨by decide, by decide⟩) dL_law_1560 ?_
  refine lv_topi (fun z_22 ez_22 => ?_)
  obtain rfl : a5 = z_22 := ea5.trans ez_22.symm
  have hPc := hP.sub (ws' := [(m0, .inr (7, [.int 0, .ref m_width, .ref m_many, .ref m_cells, .ref m_moved, .ref m_tape, .int 0, .int 0, .int 0, .int 0, .int 0, .long 0, .int 0, .int 0, .int 0, .int (-1), .ref m_lines, .ref m_has, .ref m_state, .ref m_gate, .ref m_guest, .ref m_gone, .int 0, .ref m_isKept, .ref m_first, .ref m_second, .int 0, .ref m_far, .ref m_wished, .ref m_wasState, .ref m_isHere, .ref m_round, .ref m_bestRound, .int 0, .int 0, .long 0, .long 0, .ref m_taken, .int 0])), (m_width, .inl (k_width, 4, .inl fw))]) [0, 1] rfl
  have hDc := hD.sub (ws' := [(m0, .inr (7, [.int 0, .ref m_width, .ref m_many, .ref m_cells, .ref m_moved, .ref m_tape, .int 0, .int 0, .int 0, .int 0, .int 0, .long 0, .int 0, .int 0, .int 0, .int (-1), .ref m_lines, .ref m_has, .ref m_state, .ref m_gate, .ref m_guest, .ref m_gone, .int 0, .ref m_isKept, .ref m_first, .ref m_second, .int 0, .ref m_far, .ref m_wished, .ref m_wasState, .ref m_isHere, .ref m_round, .ref m_bestRound, .int 0, .int 0, .long 0, .long 0, .ref m_taken, .int 0])), (m_width, .inl (k_width, 4, .inl fw))]) [0, 1] (by decide) rfl
  have hKc := hK.sub (tys' := [(k_width, .int)]) [5] rfl
  have hFc := va_free (wc := [(m0, .inr (7, [.int 0, .ref m_width, .ref m_many, .ref m_cells, .ref m_moved, .ref m_tape, .int 0, .int 0, .int 0, .int 0, .int 0, .long 0, .int 0, .int 0, .int 0, .int (-1), .ref m_lines, .ref m_has, .ref m_state, .ref m_gate, .ref m_guest, .ref m_gone, .int 0, .ref m_isKept, .ref m_first, .ref m_second, .int 0, .ref m_far, .ref m_wished, .ref m_wasState, .ref m_isHere, .ref m_round, .ref m_bestRound, .int 0, .int 0, .long 0, .long 0, .ref m_taken, .int 0])), (m_width, .inl (k_width, 4, .inl fw))]) hD hS hA [0, 1] rfl
  refine va_calli (va_runV (As := [.int a1, .int a2, .int a3, .int a4, .int a5]) (rest := [.int r_11]) ⟨hx, hb, hml, hown, hts⟩ (c_X7_paste l dC dI H.size m0 m_width m_many m_cells m_moved m_tape m_lines m_has m_state m_gate m_guest m_gone m_isKept m_first m_second m_far m_wished m_wasState m_isHere m_round m_bestRound m_taken k_width fw a1 a2 a3 a4 a5 hg0 hg1 hg2 hg3) (cwV 5 hts g_law_X7_paste rfl rfl rfl (by decide +kernel) ⟨Nat.le_of_ble_eq_true rfl, Nat.le_of_ble_eq_true rfl⟩) ⟨fun a U g mk q => by obtain ⟨q0, q1, qP, qK, qD⟩ := q; exact ⟨q0, q1, qP, va_K.moved (u := U) (U := U.calling g mk a) (Vm.Alike.refl U.vm) qK, qD⟩, va_recv hKc hPc (ci := 7) (q0 := 0) rfl rfl, fun U hU hW => ⟨rfl, by rw [hU], by rw [hU]; exact hPc, va_K.moved hW.alike hKc, hDc.weaken (fun _ _ _ _ => trivial)⟩⟩ rfl rfl hl.1 rfl (lv_room (Nat.le_of_ble_eq_true rfl)) dL_law_1561 ⟨Nat.le_of_ble_eq_true rfl, Nat.le_of_ble_eq_true rfl⟩) hS (fun q _ h => hFc q h) hFc (fun r_23 u t H1 locs ht hvm hw_24 hB hz1 hk1 hS => ?_)
  have hP1 : va_P (dC, dI) vwCl [] H1 := i_nilP
  have hD1 : va_D (va_A [(m0, .inr (7, [.int 0, .ref m_width, .ref m_many, .ref m_cells, .ref m_moved, .ref m_tape, .int 0, .int 0, .int 0, .int 0, .int 0, .long 0, .int 0, .int 0, .int 0, .int (-1), .ref m_lines, .ref m_has, .ref m_state, .ref m_gate, .ref m_guest, .ref m_gone, .int 0, .ref m_isKept, .ref m_first, .ref m_second, .int 0, .ref m_far, .ref m_wished, .ref m_wasState, .ref m_isHere, .ref m_round, .ref m_bestRound, .int 0, .int 0, .long 0, .long 0, .ref m_taken, .int 0])), (m_width, .inl (k_width, 4, .inl fw))] H.size) [] := i_nilD
  try dsimp only at hw_24
  obtain ⟨hP, hD⟩ := va_join (wr := []) (w1 := []) hP hD [0, 1] [] rfl rfl (by decide) (by decide) hk1 hFc hP1 hD1
  generalize H1 = H at hP hS ⊢
  have hP : va_P (dC, dI) vwCl [] H := hP
  have hD : va_D A [] := hD
  refine lv_icmp_eq (tgt := 1569) hx hb dL_law_1564 (by decide) (fun c_25 => ?_) (fun c_25 => absurd (hw_12.trans hw_24.symm) c_25)
  have c_25 : r_11.toInt = r_23.toInt := i_eq (a := r_11) (b := r_23) rfl rfl c_25
  refine lv_iinc (v := 6) (lv' := [(3, .int 6), (2, .ref m0), (1, .ref x0), (0, .ref b)]) hx hb dL_law_1569 hl (k := 0) rfl (by decide) (by decide) rfl (fun ls hl => ?_)
  refine lv_goto (tgt := 18) hx hb dL_law_1572 (by decide) ?_
  exact law_exit C0 hA2 hS (lv_sub hl [0, 3] rfl) (by decide) (by omega) (by omega)

