theorem dX3_lay_0 : decode cX3_lay 0 = .ok (.aload_n 0, 1) := by decide +kernel
theorem dX3_lay_1 : decode cX3_lay 1 = .ok (.iload_n 1, 1) := by decide +kernel
theorem dX3_lay_2 : decode cX3_lay 2 = .ok (.iconst 5, 1) := by decide +kernel
theorem dX3_lay_3 : decode cX3_lay 3 = .ok (.invokestatic 42, 3) := by decide +kernel
theorem dX3_lay_6 : decode cX3_lay 6 = .ok (.putfield 9, 3) := by decide +kernel
theorem dX3_lay_9 : decode cX3_lay 9 = .ok (.aload_n 0, 1) := by decide +kernel
theorem dX3_lay_10 : decode cX3_lay 10 = .ok (.iload_n 2, 1) := by decide +kernel
theorem dX3_lay_11 : decode cX3_lay 11 = .ok (.iconst 5, 1) := by decide +kernel
theorem dX3_lay_12 : decode cX3_lay 12 = .ok (.invokestatic 42, 3) := by decide +kernel
theorem dX3_lay_15 : decode cX3_lay 15 = .ok (.putfield 15, 3) := by decide +kernel
theorem dX3_lay_18 : decode cX3_lay 18 = .ok (.aload_n 0, 1) := by decide +kernel
theorem dX3_lay_19 : decode cX3_lay 19 = .ok (.aload_n 0, 1) := by decide +kernel
theorem dX3_lay_20 : decode cX3_lay 20 = .ok (.getfield 9, 3) := by decide +kernel
theorem dX3_lay_23 : decode cX3_lay 23 = .ok (.aload_n 0, 1) := by decide +kernel
theorem dX3_lay_24 : decode cX3_lay 24 = .ok (.getfield 15, 3) := by decide +kernel
theorem dX3_lay_27 : decode cX3_lay 27 = .ok (.imul, 1) := by decide +kernel
theorem dX3_lay_28 : decode cX3_lay 28 = .ok (.putfield 18, 3) := by decide +kernel
theorem dX3_lay_31 : decode cX3_lay 31 = .ok (.aload_n 0, 1) := by decide +kernel
theorem dX3_lay_32 : decode cX3_lay 32 = .ok (.iconst 0, 1) := by decide +kernel
theorem dX3_lay_33 : decode cX3_lay 33 = .ok (.putfield 21, 3) := by decide +kernel
theorem dX3_lay_36 : decode cX3_lay 36 = .ok (.aload_n 0, 1) := by decide +kernel
theorem dX3_lay_37 : decode cX3_lay 37 = .ok (.lconst 0, 1) := by decide +kernel
theorem dX3_lay_38 : decode cX3_lay 38 = .ok (.putfield 24, 3) := by decide +kernel
theorem dX3_lay_41 : decode cX3_lay 41 = .ok (.aload_n 0, 1) := by decide +kernel
theorem dX3_lay_42 : decode cX3_lay 42 = .ok (.getfield 39, 3) := by decide +kernel
theorem dX3_lay_45 : decode cX3_lay 45 = .ok (.iconst (-1), 1) := by decide +kernel
theorem dX3_lay_46 : decode cX3_lay 46 = .ok (.invokestatic 48, 3) := by decide +kernel
theorem dX3_lay_49 : decode cX3_lay 49 = .ok (.iconst 0, 1) := by decide +kernel
theorem dX3_lay_50 : decode cX3_lay 50 = .ok (.istore_n 3, 1) := by decide +kernel
theorem dX3_lay_51 : decode cX3_lay 51 = .ok (.iload_n 3, 1) := by decide +kernel
theorem dX3_lay_52 : decode cX3_lay 52 = .ok (.aload_n 0, 1) := by decide +kernel
theorem dX3_lay_53 : decode cX3_lay 53 = .ok (.getfield 15, 3) := by decide +kernel
theorem dX3_lay_56 : decode cX3_lay 56 = .ok (.if_icmp .ge 95, 3) := by decide +kernel
theorem dX3_lay_59 : decode cX3_lay 59 = .ok (.iconst 0, 1) := by decide +kernel
theorem dX3_lay_60 : decode cX3_lay 60 = .ok (.istore 4, 2) := by decide +kernel
theorem dX3_lay_62 : decode cX3_lay 62 = .ok (.iload 4, 2) := by decide +kernel
theorem dX3_lay_64 : decode cX3_lay 64 = .ok (.aload_n 0, 1) := by decide +kernel
theorem dX3_lay_65 : decode cX3_lay 65 = .ok (.getfield 9, 3) := by decide +kernel
theorem dX3_lay_68 : decode cX3_lay 68 = .ok (.if_icmp .ge 77, 3) := by decide +kernel
theorem dX3_lay_71 : decode cX3_lay 71 = .ok (.aload_n 0, 1) := by decide +kernel
theorem dX3_lay_72 : decode cX3_lay 72 = .ok (.getfield 9, 3) := by decide +kernel
theorem dX3_lay_75 : decode cX3_lay 75 = .ok (.iload_n 3, 1) := by decide +kernel
theorem dX3_lay_76 : decode cX3_lay 76 = .ok (.imul, 1) := by decide +kernel
theorem dX3_lay_77 : decode cX3_lay 77 = .ok (.iload 4, 2) := by decide +kernel
theorem dX3_lay_79 : decode cX3_lay 79 = .ok (.iadd, 1) := by decide +kernel
theorem dX3_lay_80 : decode cX3_lay 80 = .ok (.istore 5, 2) := by decide +kernel
theorem dX3_lay_82 : decode cX3_lay 82 = .ok (.iload 4, 2) := by decide +kernel
theorem dX3_lay_84 : decode cX3_lay 84 = .ok (.aload_n 0, 1) := by decide +kernel
theorem dX3_lay_85 : decode cX3_lay 85 = .ok (.getfield 9, 3) := by decide +kernel
theorem dX3_lay_88 : decode cX3_lay 88 = .ok (.iconst 1, 1) := by decide +kernel
theorem dX3_lay_89 : decode cX3_lay 89 = .ok (.isub, 1) := by decide +kernel
theorem dX3_lay_90 : decode cX3_lay 90 = .ok (.if_icmp .ge 18, 3) := by decide +kernel
theorem dX3_lay_93 : decode cX3_lay 93 = .ok (.aload_n 0, 1) := by decide +kernel
theorem dX3_lay_94 : decode cX3_lay 94 = .ok (.iload 5, 2) := by decide +kernel
theorem dX3_lay_96 : decode cX3_lay 96 = .ok (.iload 5, 2) := by decide +kernel
theorem dX3_lay_98 : decode cX3_lay 98 = .ok (.iconst 1, 1) := by decide +kernel
theorem dX3_lay_99 : decode cX3_lay 99 = .ok (.iadd, 1) := by decide +kernel
theorem dX3_lay_100 : decode cX3_lay 100 = .ok (.iconst 1, 1) := by decide +kernel
theorem dX3_lay_101 : decode cX3_lay 101 = .ok (.lconst 1, 1) := by decide +kernel
theorem dX3_lay_102 : decode cX3_lay 102 = .ok (.iload 5, 2) := by decide +kernel
theorem dX3_lay_104 : decode cX3_lay 104 = .ok (.lshl, 1) := by decide +kernel
theorem dX3_lay_105 : decode cX3_lay 105 = .ok (.invokevirtual 54, 3) := by decide +kernel
theorem dX3_lay_108 : decode cX3_lay 108 = .ok (.iload_n 3, 1) := by decide +kernel
theorem dX3_lay_109 : decode cX3_lay 109 = .ok (.aload_n 0, 1) := by decide +kernel
theorem dX3_lay_110 : decode cX3_lay 110 = .ok (.getfield 15, 3) := by decide +kernel
theorem dX3_lay_113 : decode cX3_lay 113 = .ok (.iconst 1, 1) := by decide +kernel
theorem dX3_lay_114 : decode cX3_lay 114 = .ok (.isub, 1) := by decide +kernel
theorem dX3_lay_115 : decode cX3_lay 115 = .ok (.if_icmp .ge 24, 3) := by decide +kernel
theorem dX3_lay_118 : decode cX3_lay 118 = .ok (.aload_n 0, 1) := by decide +kernel
theorem dX3_lay_119 : decode cX3_lay 119 = .ok (.iload 5, 2) := by decide +kernel
theorem dX3_lay_121 : decode cX3_lay 121 = .ok (.iload 5, 2) := by decide +kernel
theorem dX3_lay_123 : decode cX3_lay 123 = .ok (.aload_n 0, 1) := by decide +kernel
theorem dX3_lay_124 : decode cX3_lay 124 = .ok (.getfield 9, 3) := by decide +kernel
theorem dX3_lay_127 : decode cX3_lay 127 = .ok (.iadd, 1) := by decide +kernel
theorem dX3_lay_128 : decode cX3_lay 128 = .ok (.iconst 2, 1) := by decide +kernel
theorem dX3_lay_129 : decode cX3_lay 129 = .ok (.lconst 1, 1) := by decide +kernel
theorem dX3_lay_130 : decode cX3_lay 130 = .ok (.iload 5, 2) := by decide +kernel
theorem dX3_lay_132 : decode cX3_lay 132 = .ok (.bipush 32, 2) := by decide +kernel
theorem dX3_lay_134 : decode cX3_lay 134 = .ok (.iadd, 1) := by decide +kernel
theorem dX3_lay_135 : decode cX3_lay 135 = .ok (.lshl, 1) := by decide +kernel
theorem dX3_lay_136 : decode cX3_lay 136 = .ok (.invokevirtual 54, 3) := by decide +kernel
theorem dX3_lay_139 : decode cX3_lay 139 = .ok (.iinc 4 1, 3) := by decide +kernel
theorem dX3_lay_142 : decode cX3_lay 142 = .ok (.goto (-80), 3) := by decide +kernel
theorem dX3_lay_145 : decode cX3_lay 145 = .ok (.iinc 3 1, 3) := by decide +kernel
theorem dX3_lay_148 : decode cX3_lay 148 = .ok (.goto (-97), 3) := by decide +kernel
theorem dX3_lay_151 : decode cX3_lay 151 = .ok (.return_, 1) := by decide +kernel
def wz_X3_lay : List Cond := .code yX3_lay cX3_lay 6 none :: ([Cond.methodLink RX3 42 Lib.Math.min.name, Cond.static Lib.Math.min.name, Cond.initialized "java/lang/Math", Cond.code Lib.Math.min.name Lib.Math.min.code 2 (some .int), Cond.fieldLink RX3 9 "HedgeMaze$Plan" "wide" "I", Cond.fieldLink RX3 15 "HedgeMaze$Plan" "deep" "I", Cond.fieldLink RX3 18 "HedgeMaze$Plan" "cellCount" "I", Cond.fieldLink RX3 21 "HedgeMaze$Plan" "sideCount" "I", Cond.fieldLink RX3 24 "HedgeMaze$Plan" "allSides" "J", Cond.fieldLink RX3 39 "HedgeMaze$Plan" "around" "[I", Cond.methodLink RX3 48 yJ7_fill_53178, Cond.static yJ7_fill_53178, Cond.initialized RJ7, Cond.code yJ7_fill_53178 cJ7_fill_53178 4 none, Cond.methodLink RX3 54 yX3_join, Cond.instanceMethod yX3_join, Cond.selects RX3 yX3_join yX3_join, Cond.initialized RX3, Cond.code yX3_join cX3_join 6 none, Cond.fieldLink RX3 28 "HedgeMaze$Plan" "first" "[I", Cond.fieldLink RX3 32 "HedgeMaze$Plan" "other" "[I", Cond.fieldLink RX3 35 "HedgeMaze$Plan" "bits" "[J"] ++ wsX30)
theorem wd_X3_lay_0 : Cond.methodLink RX3 42 Lib.Math.min.name ∈ wz_X3_lay := List.mem_of_getElem? (i := 1) rfl
theorem wd_X3_lay_1 : Cond.static Lib.Math.min.name ∈ wz_X3_lay := List.mem_of_getElem? (i := 2) rfl
theorem wd_X3_lay_2 : Cond.initialized "java/lang/Math" ∈ wz_X3_lay := List.mem_of_getElem? (i := 3) rfl
theorem wd_X3_lay_3 : Cond.code Lib.Math.min.name Lib.Math.min.code 2 (some .int) ∈ wz_X3_lay := List.mem_of_getElem? (i := 4) rfl
theorem wd_X3_lay_4 : Cond.fieldLink RX3 9 "HedgeMaze$Plan" "wide" "I" ∈ wz_X3_lay := List.mem_of_getElem? (i := 5) rfl
theorem wd_X3_lay_5 : Cond.fieldLink RX3 15 "HedgeMaze$Plan" "deep" "I" ∈ wz_X3_lay := List.mem_of_getElem? (i := 6) rfl
theorem wd_X3_lay_6 : Cond.fieldLink RX3 18 "HedgeMaze$Plan" "cellCount" "I" ∈ wz_X3_lay := List.mem_of_getElem? (i := 7) rfl
theorem wd_X3_lay_7 : Cond.fieldLink RX3 21 "HedgeMaze$Plan" "sideCount" "I" ∈ wz_X3_lay := List.mem_of_getElem? (i := 8) rfl
theorem wd_X3_lay_8 : Cond.fieldLink RX3 24 "HedgeMaze$Plan" "allSides" "J" ∈ wz_X3_lay := List.mem_of_getElem? (i := 9) rfl
theorem wd_X3_lay_9 : Cond.fieldLink RX3 39 "HedgeMaze$Plan" "around" "[I" ∈ wz_X3_lay := List.mem_of_getElem? (i := 10) rfl
theorem in_X3_lay_X3 : ∀ w ∈ wsX30, w ∈ wz_X3_lay := fun _ h => List.mem_cons_of_mem _ (List.mem_append_right _ h)
set_option maxRecDepth 20000 in
theorem g_X3_lay_J7_fill_53178 : GoodIn wz_X3_lay (va_wsS RX3 48 yJ7_fill_53178 wz_J7_fill_53178) := goodIn_r _ [11, 12, 13, 14] rfl (by decide +kernel)
set_option maxRecDepth 20000 in
theorem g_X3_lay_X3_join_2 : GoodIn wz_X3_lay (wsV RX3 54 RX3 yX3_join wz_X3_join_2) := goodIn_r _ [15, 16, 17, 18, 19, 20, 8, 21, 22, 9, 10, 23, 24, 25, 26, 27, 28, 29, 30, 31] rfl (by decide +kernel)
set_option maxRecDepth 20000 in
theorem g_X3_lay_X3_join_1 : GoodIn wz_X3_lay (wsV RX3 54 RX3 yX3_join wz_X3_join_1) := goodIn_r _ [15, 16, 17, 18, 19, 20, 8, 21, 22, 9, 10, 23, 24, 25, 26, 27, 28, 29, 30, 31] rfl (by decide +kernel)
set_option maxHeartbeats 4000000 in
set_option maxRecDepth 100000 in
theorem c_X3_lay (l : Launch) (dC : Nat → ClassId) (dI : Nat → Nat → Nat) (sz : Nat) (pl : Nat) (plw : Int32) (pld : Int32) (plc : Int32) (pls : Int32) (plm : Int64) (plf : Nat) (plo : Nat) (plb : Nat) (pla : Nat) (plkf : ClassId) (plF : Nat → Int32) (plko : ClassId) (plO : Nat → Int32) (plkb : ClassId) (plB : Nat → Int64) (plka : ClassId) (plA : Nat → Int32) (p0 : Int32) (p1 : Int32) (h_p0 : 0 ≤ p0.toInt) (h_p1 : 0 ≤ p1.toInt) (hR_plf : RG plF 40 0 24) (hR_plo : RG plO 40 0 24) : Met l yX3_lay wz_X3_lay ({ frames := 1, cells := 0, slots := 0, locals := 40 }) (va_Pc [.ref pl, .int p0, .int p1] (fun U => U.heap.size = sz ∧ va_P (dC, dI) vwCl [(pl, .inr (3, [.int plw, .int pld, .int plc, .int pls, .long plm, .ref plf, .ref plo, .ref plb, .ref pla])), (plf, .inl (plkf, 40, .inl plF)), (plo, .inl (plko, 40, .inl plO)), (plb, .inl (plkb, 40, .inr (.inl plB))), (pla, .inl (plka, 100, .inl plA))] U.heap ∧ va_K (dC, dI) vwCl [(plkf, .int), (plko, .int), (plkb, .long), (plka, .int)] U ∧ va_D (fun _ => True) [(pl, .inr (3, [.int plw, .int pld, .int plc, .int pls, .long plm, .ref plf, .ref plo, .ref plb, .ref pla])), (plf, .inl (plkf, 40, .inl plF)), (plo, .inl (plko, 40, .inl plO)), (plb, .inl (plkb, 40, .inr (.inl plB))), (pla, .inl (plka, 100, .inl plA))])) (va_Qv (fun (u : Int32 × Int32 × Int32 × Int32 × Int64 × (Nat → Int32) × (Nat → Int32) × (Nat → Int64) × (Nat → Int32)) => (0 ≤ u.1.toInt ∧ u.1.toInt ≤ 5) ∧ (0 ≤ u.2.1.toInt ∧ u.2.1.toInt ≤ 5) ∧ (0 ≤ u.2.2.1.toInt ∧ u.2.2.1.toInt ≤ 25) ∧ (0 ≤ u.2.2.2.1.toInt ∧ u.2.2.2.1.toInt ≤ 40) ∧ (RG u.2.2.2.2.2.1 40 0 24) ∧ (RG u.2.2.2.2.2.2.1 40 0 24)) (fun (u : Int32 × Int32 × Int32 × Int32 × Int64 × (Nat → Int32) × (Nat → Int32) × (Nat → Int64) × (Nat → Int32)) (t : State) => va_P (dC, dI) vwCl [(pl, .inr (3, [.int u.1, .int u.2.1, .int u.2.2.1, .int u.2.2.2.1, .long u.2.2.2.2.1, .ref plf, .ref plo, .ref plb, .ref pla])), (plf, .inl (plkf, 40, .inl u.2.2.2.2.2.1)), (plo, .inl (plko, 40, .inl u.2.2.2.2.2.2.1)), (plb, .inl (plkb, 40, .inr (.inl u.2.2.2.2.2.2.2.1))), (pla, .inl (plka, 100, .inl u.2.2.2.2.2.2.2.2))] t.heap ∧ va_K (dC, dI) vwCl [] t ∧ va_D (va_A [(pl, .inr (3, [.int plw, .int pld, .int plc, .int pls, .long plm, .ref plf, .ref plo, .ref plb, .ref pla])), (plf, .inl (plkf, 40, .inl plF)), (plo, .inl (plko, 40, .inl plO)), (plb, .inl (plkb, 40, .inr (.inl plB))), (pla, .inl (plka, 100, .inl plA))] sz) [(pl, .inr (3, [.int u.1, .int u.2.1, .int u.2.2.1, .int u.2.2.2.1, .long u.2.2.2.2.1, .ref plf, .ref plo, .ref plb, .ref pla])), (plf, .inl (plkf, 40, .inl u.2.2.2.2.2.1)), (plo, .inl (plko, 40, .inl u.2.2.2.2.2.2.1)), (plb, .inl (plkb, 40, .inr (.inl u.2.2.2.2.2.2.2.1))), (pla, .inl (plka, 100, .inl u.2.2.2.2.2.2.2.2))]) (va_A [(pl, .inr (3, [.int plw, .int pld, .int plc, .int pls, .long plm, .ref plf, .ref plo, .ref plb, .ref pla])), (plf, .inl (plkf, 40, .inl plF)), (plo, .inl (plko, 40, .inl plO)), (plb, .inl (plkb, 40, .inr (.inl plB))), (pla, .inl (plka, 100, .inl plA))] sz)) 0 0 (va_A [(pl, .inr (3, [.int plw, .int pld, .int plc, .int pls, .long plm, .ref plf, .ref plo, .ref plb, .ref pla])), (plf, .inl (plkf, 40, .inl plF)), (plo, .inl (plko, 40, .inl plO)), (plb, .inl (plkb, 40, .inr (.inl plB))), (pla, .inl (plka, 100, .inl plA))] sz) := by
  refine Met.ofW (cc := cX3_lay) (maxL := 6) (ret := none) (by decide) rfl ?_
  intro p e s m args below meth c s₁ B hml hv
  obtain ⟨rfl, hsz, hP, hK, hD0⟩ := hv
  have hx := B.exec
  have hb := B.bytes
  have hr := B.returns
  have hts := atoms_spec (ws := wz_X3_lay) B.pre
  have hown : s.vm.findClass RX3 = some m.cls := findClass_of_methodNamed B.named
  have hlocks := B.notSynchronized
  subst hsz
  have hD := hD0.self (sz := s.heap.size)
  generalize hAe : va_A [(pl, .inr (3, [.int plw, .int pld, .int plc, .int pls, .long plm, .ref plf, .ref plo, .ref plb, .ref pla])), (plf, .inl (plkf, 40, .inl plF)), (plo, .inl (plko, 40, .inl plO)), (plb, .inl (plkb, 40, .inr (.inl plB))), (pla, .inl (plka, 100, .inl plA))] s.heap.size = A at hD ⊢
  have hA : ∀ q : Nat, s.heap.size ≤ q → A q := fun q h => by rw [← hAe]; exact Or.inr h
  have hS : va_S A s.heap s.heap [] := va_S.rf
  have hP : va_P (dC, dI) vwCl [(pl, .inr (3, [.int plw, .int pld, .int plc, .int pls, .long plm, .ref plf, .ref plo, .ref plb, .ref pla])), (plf, .inl (plkf, 40, .inl plF)), (plo, .inl (plko, 40, .inl plO)), (plb, .inl (plkb, 40, .inr (.inl plB))), (pla, .inl (plka, 100, .inl plA))] s.heap := hP
  have hl := lv_entry ([.ref pl, .int p0, .int p1]) (n := 6) (Nat.le_of_ble_eq_true rfl)
  rw [lg_entry_eq]
  generalize (lg_sl ([.ref pl, .int p0, .int p1]) ++ List.replicate (6 - (lg_sl ([.ref pl, .int p0, .int p1])).length) Slot.unset).toArray = ls at hl ⊢
  have hl : lv_has ls 6 [(0, .ref pl), (1, .int p0), (2, .int p1)] := hl
  refine lv_aload_n hx hb dX3_lay_0 rfl (lv_at hl 0 rfl) ?_
  refine lv_iload_n hx hb dX3_lay_1 rfl (lv_at hl 1 rfl) ?_
  refine lv_iconst (v := 5) hx hb dX3_lay_2 (by decide) ?_
  refine va_mmin hx hb (hml.trans hl.1.symm) hown (hts _ wd_X3_lay_0) (hts _ wd_X3_lay_1) (hts _ wd_X3_lay_2) (hts _ wd_X3_lay_3) (Nat.le_of_ble_eq_true rfl) (Nat.le_of_ble_eq_true rfl) (Nat.le_of_ble_eq_true rfl) (Nat.le_of_ble_eq_true rfl) dX3_lay_3 ?_
  refine lv_topi (fun x_1 ex_1 => ?_)
  have hx_1 : x_1.toInt ≤ p0.toInt ∧ x_1.toInt ≤ 5 ∧ (x_1.toInt = p0.toInt ∨ x_1.toInt = 5) := i_minz rfl (by decide) ex_1
  refine va_put (D := (dC, dI)) (ci := 3) (v := .int x_1) (ty := .int) (C := RX3) (T := TX3) (N := 9) hx hb hts in_X3_lay_X3 tyX3 tyX3_ok nmX3 hown hK hP hD hS 0 rfl rfl 0 (by decide) (hts _ wd_X3_lay_4) (fun _ h9 => h9) rfl (by decide +kernel) rfl rfl (Nat.le_of_ble_eq_true rfl) dX3_lay_6 (fun H locs hP hD hS => ?_)
  have hP : va_P (dC, dI) vwCl [(pl, .inr (3, [.int x_1, .int pld, .int plc, .int pls, .long plm, .ref plf, .ref plo, .ref plb, .ref pla])), (plf, .inl (plkf, 40, .inl plF)), (plo, .inl (plko, 40, .inl plO)), (plb, .inl (plkb, 40, .inr (.inl plB))), (pla, .inl (plka, 100, .inl plA))] H := hP
  have hD : va_D A [(pl, .inr (3, [.int x_1, .int pld, .int plc, .int pls, .long plm, .ref plf, .ref plo, .ref plb, .ref pla])), (plf, .inl (plkf, 40, .inl plF)), (plo, .inl (plko, 40, .inl plO)), (plb, .inl (plkb, 40, .inr (.inl plB))), (pla, .inl (plka, 100, .inl plA))] := hD
  refine lv_aload_n hx hb dX3_lay_9 rfl (lv_at hl 0 rfl) ?_
  refine lv_iload_n hx hb dX3_lay_10 rfl (lv_at hl 2 rfl) ?_
  refine lv_iconst (v := 5) hx hb dX3_lay_11 (by decide) ?_
  refine va_mmin hx hb (hml.trans hl.1.symm) hown (hts _ wd_X3_lay_0) (hts _ wd_X3_lay_1) (hts _ wd_X3_lay_2) (hts _ wd_X3_lay_3) (Nat.le_of_ble_eq_true rfl) (Nat.le_of_ble_eq_true rfl) (Nat.le_of_ble_eq_true rfl) (Nat.le_of_ble_eq_true rfl) dX3_lay_12 ?_
  refine lv_topi (fun x_2 ex_2 => ?_)
  have hx_2 : x_2.toInt ≤ p1.toInt ∧ x_2.toInt ≤ 5 ∧ (x_2.toInt = p1.toInt ∨ x_2.toInt = 5) := i_minz rfl (by decide) ex_2
  refine va_put (D := (dC, dI)) (ci := 3) (v := .int x_2) (ty := .int) (C := RX3) (T := TX3) (N := 9) hx hb hts in_X3_lay_X3 tyX3 tyX3_ok nmX3 hown hK hP hD hS 0 rfl rfl 1 (by decide) (hts _ wd_X3_lay_5) (fun _ h9 => h9) rfl (by decide +kernel) rfl rfl (Nat.le_of_ble_eq_true rfl) dX3_lay_15 (fun H locs hP hD hS => ?_)
  have hP : va_P (dC, dI) vwCl [(pl, .inr (3, [.int x_1, .int x_2, .int plc, .int pls, .long plm, .ref plf, .ref plo, .ref plb, .ref pla])), (plf, .inl (plkf, 40, .inl plF)), (plo, .inl (plko, 40, .inl plO)), (plb, .inl (plkb, 40, .inr (.inl plB))), (pla, .inl (plka, 100, .inl plA))] H := hP
  have hD : va_D A [(pl, .inr (3, [.int x_1, .int x_2, .int plc, .int pls, .long plm, .ref plf, .ref plo, .ref plb, .ref pla])), (plf, .inl (plkf, 40, .inl plF)), (plo, .inl (plko, 40, .inl plO)), (plb, .inl (plkb, 40, .inr (.inl plB))), (pla, .inl (plka, 100, .inl plA))] := hD
  refine lv_aload_n hx hb dX3_lay_18 rfl (lv_at hl 0 rfl) ?_
  refine lv_aload_n hx hb dX3_lay_19 rfl (lv_at hl 0 rfl) ?_
  refine va_get (D := (dC, dI)) (ci := 3) (v := .int x_1) (C := RX3) (T := TX3) (N := 9) hx hb hts in_X3_lay_X3 hown hK hP 0 rfl rfl 0 (by decide) (hts _ wd_X3_lay_4) (fun _ h9 => h9) rfl dX3_lay_20 ?_
  refine lv_aload_n hx hb dX3_lay_23 rfl (lv_at hl 0 rfl) ?_
  refine va_get (D := (dC, dI)) (ci := 3) (v := .int x_2) (C := RX3) (T := TX3) (N := 9) hx hb hts in_X3_lay_X3 hown hK hP 0 rfl rfl 1 (by decide) (hts _ wd_X3_lay_5) (fun _ h9 => h9) rfl dX3_lay_24 ?_
  refine lv_imul hx hb dX3_lay_27 ?_
  refine lv_topi (fun x_3 ex_3 => ?_)
  have mx_3 := i_mul5 ex_3 ⟨by omega, by omega⟩ ⟨by omega, by omega⟩
  refine va_put (D := (dC, dI)) (ci := 3) (v := .int x_3) (ty := .int) (C := RX3) (T := TX3) (N := 9) hx hb hts in_X3_lay_X3 tyX3 tyX3_ok nmX3 hown hK hP hD hS 0 rfl rfl 2 (by decide) (hts _ wd_X3_lay_6) (fun _ h9 => h9) rfl (by decide +kernel) rfl rfl (Nat.le_of_ble_eq_true rfl) dX3_lay_28 (fun H locs hP hD hS => ?_)
  have hP : va_P (dC, dI) vwCl [(pl, .inr (3, [.int x_1, .int x_2, .int x_3, .int pls, .long plm, .ref plf, .ref plo, .ref plb, .ref pla])), (plf, .inl (plkf, 40, .inl plF)), (plo, .inl (plko, 40, .inl plO)), (plb, .inl (plkb, 40, .inr (.inl plB))), (pla, .inl (plka, 100, .inl plA))] H := hP
  have hD : va_D A [(pl, .inr (3, [.int x_1, .int x_2, .int x_3, .int pls, .long plm, .ref plf, .ref plo, .ref plb, .ref pla])), (plf, .inl (plkf, 40, .inl plF)), (plo, .inl (plko, 40, .inl plO)), (plb, .inl (plkb, 40, .inr (.inl plB))), (pla, .inl (plka, 100, .inl plA))] := hD
  refine lv_aload_n hx hb dX3_lay_31 rfl (lv_at hl 0 rfl) ?_
  refine lv_iconst (v := 0) hx hb dX3_lay_32 (by decide) ?_
  refine va_put (D := (dC, dI)) (ci := 3) (v := .int 0) (ty := .int) (C := RX3) (T := TX3) (N := 9) hx hb hts in_X3_lay_X3 tyX3 tyX3_ok nmX3 hown hK hP hD hS 0 rfl rfl 3 (by decide) (hts _ wd_X3_lay_7) (fun _ h9 => h9) rfl (by decide +kernel) rfl rfl (Nat.le_of_ble_eq_true rfl) dX3_lay_33 (fun H locs hP hD hS => ?_)
  have hP : va_P (dC, dI) vwCl [(pl, .inr (3, [.int x_1, .int x_2, .int x_3, .int 0, .long plm, .ref plf, .ref plo, .ref plb, .ref pla])), (plf, .inl (plkf, 40, .inl plF)), (plo, .inl (plko, 40, .inl plO)), (plb, .inl (plkb, 40, .inr (.inl plB))), (pla, .inl (plka, 100, .inl plA))] H := hP
  have hD : va_D A [(pl, .inr (3, [.int x_1, .int x_2, .int x_3, .int 0, .long plm, .ref plf, .ref plo, .ref plb, .ref pla])), (plf, .inl (plkf, 40, .inl plF)), (plo, .inl (plko, 40, .inl plO)), (plb, .inl (plkb, 40, .inr (.inl plB))), (pla, .inl (plka, 100, .inl plA))] := hD
  refine lv_aload_n hx hb dX3_lay_36 rfl (lv_at hl 0 rfl) ?_
  refine lv_lconst (v := 0) hx hb dX3_lay_37 (by decide) ?_
  refine va_put (D := (dC, dI)) (ci := 3) (v := .long 0) (ty := .long) (C := RX3) (T := TX3) (N := 9) hx hb hts in_X3_lay_X3 tyX3 tyX3_ok nmX3 hown hK hP hD hS 0 rfl rfl 4 (by decide) (hts _ wd_X3_lay_8) (fun _ h9 => h9) rfl (by decide +kernel) rfl rfl (Nat.le_of_ble_eq_true rfl) dX3_lay_38 (fun H locs hP hD hS => ?_)
  have hP : va_P (dC, dI) vwCl [(pl, .inr (3, [.int x_1, .int x_2, .int x_3, .int 0, .long 0, .ref plf, .ref plo, .ref plb, .ref pla])), (plf, .inl (plkf, 40, .inl plF)), (plo, .inl (plko, 40, .inl plO)), (plb, .inl (plkb, 40, .inr (.inl plB))), (pla, .inl (plka, 100, .inl plA))] H := hP
  have hD : va_D A [(pl, .inr (3, [.int x_1, .int x_2, .int x_3, .int 0, .long 0, .ref plf, .ref plo, .ref plb, .ref pla])), (plf, .inl (plkf, 40, .inl plF)), (plo, .inl (plko, 40, .inl plO)), (plb, .inl (plkb, 40, .inr (.inl plB))), (pla, .inl (plka, 100, .inl plA))] := hD
  refine lv_aload_n hx hb dX3_lay_41 rfl (lv_at hl 0 rfl) ?_
  refine va_get (D := (dC, dI)) (ci := 3) (v := .ref pla) (C := RX3) (T := TX3) (N := 9) hx hb hts in_X3_lay_X3 hown hK hP 0 rfl rfl 8 (by decide) (hts _ wd_X3_lay_9) (fun _ h9 => h9) rfl dX3_lay_42 ?_
  refine lv_iconst (v := -1) hx hb dX3_lay_45 (by decide) ?_
  have hPc := hP.sub (ws' := [(pla, .inl (plka, 100, .inl plA))]) [4] rfl
  have hDc := hD.sub (ws' := [(pla, .inl (plka, 100, .inl plA))]) [4] (by decide) rfl
  have hKc := hK.sub (tys' := [(plka, .int)]) [3] rfl
  have hFc := va_free (wc := [(pla, .inl (plka, 100, .inl plA))]) hD hS hA [4] rfl
  refine va_callv (va_runS (As := [.ref pla, .int (-1)]) (rest := []) ⟨hx, hb, hml, hown, hts⟩ (c_J7_fill_53178 l dC dI H.size pla plka ((100 : Nat)) plA ((-1 : Int32)) (by have k0 : (-1 : Int32).toInt = -1 := (by decide); omega)) (va_cwS 2 hts g_X3_lay_J7_fill_53178 rfl rfl rfl (by decide +kernel) ⟨Nat.le_of_ble_eq_true rfl, Nat.le_of_ble_eq_true rfl⟩) ⟨fun a U g mk q => by obtain ⟨q0, q1, qP, qK, qD⟩ := q; exact ⟨q0, q1, qP, va_K.moved (u := U) (U := U.calling g mk a) (Vm.Alike.refl U.vm) qK, qD⟩, fun U hU hW => ⟨rfl, by rw [hU], by rw [hU]; exact hPc, va_K.moved hW.alike hKc, hDc.weaken (fun _ _ _ _ => trivial)⟩⟩ rfl rfl hl.1 rfl (lv_room (Nat.le_of_ble_eq_true rfl)) dX3_lay_46 ⟨Nat.le_of_ble_eq_true rfl, Nat.le_of_ble_eq_true rfl⟩) hS (fun q _ h => hFc q h) hFc (fun u t H1 locs ht hvm hw_4 hB hz1 hk1 hS => ?_)
  obtain ⟨f2_5, rfl⟩ : ∃ z, z = u := ⟨_, rfl⟩
  obtain ⟨hP1, hK1, hD1⟩ := hB
  have hP1 : va_P (dC, dI) vwCl [(pla, .inl (plka, 100, .inl f2_5))] t.heap := hP1
  rw [ht] at hP1
  try dsimp only at hw_4
  obtain ⟨hP, hD⟩ := va_join (wr := [(pl, .inr (3, [.int x_1, .int x_2, .int x_3, .int 0, .long 0, .ref plf, .ref plo, .ref plb, .ref pla])), (plf, .inl (plkf, 40, .inl plF)), (plo, .inl (plko, 40, .inl plO)), (plb, .inl (plkb, 40, .inr (.inl plB)))]) (w1 := [(pla, .inl (plka, 100, .inl f2_5))]) hP hD [4] [0, 1, 2, 3] rfl rfl (by decide) (by decide) hk1 hFc hP1 hD1
  generalize H1 = H at hP hS ⊢
  have hP : va_P (dC, dI) vwCl [(pl, .inr (3, [.int x_1, .int x_2, .int x_3, .int 0, .long 0, .ref plf, .ref plo, .ref plb, .ref pla])), (plf, .inl (plkf, 40, .inl plF)), (plo, .inl (plko, 40, .inl plO)), (plb, .inl (plkb, 40, .inr (.inl plB))), (pla, .inl (plka, 100, .inl f2_5))] H := hP
  have hD : va_D A [(pl, .inr (3, [.int x_1, .int x_2, .int x_3, .int 0, .long 0, .ref plf, .ref plo, .ref plb, .ref pla])), (plf, .inl (plkf, 40, .inl plF)), (plo, .inl (plko, 40, .inl plO)), (plb, .inl (plkb, 40, .inr (.inl plB))), (pla, .inl (plka, 100, .inl f2_5))] := hD
  refine lv_iconst (v := 0) hx hb dX3_lay_49 (by decide) ?_
  refine lv_istore_n (lv' := [(3, .int 0), (0, .ref pl), (1, .int p0), (2, .int p1)]) hx hb dX3_lay_50 rfl hl (by decide) rfl (fun ls hl => ?_)
  refine lp_W (I := fun (a : Int32 × Int32 × Int64 × (Nat → Int32) × (Nat → Int32) × (Nat → Int64) × (Nat → Int32)) H locs ls => (0 ≤ a.1.toInt ∧ a.1.toInt ≤ 5) ∧ (0 ≤ a.2.1.toInt ∧ a.2.1.toInt ≤ 40 ∧ (5 ≤ a.1.toInt ∨ a.2.1.toInt ≤ 9 * a.1.toInt)) ∧ (RG a.2.2.2.1 40 0 24) ∧ (RG a.2.2.2.2.1 40 0 24) ∧ va_P (dC, dI) vwCl [(pl, .inr (3, [.int x_1, .int x_2, .int x_3, .int a.2.1, .long a.2.2.1, .ref plf, .ref plo, .ref plb, .ref pla])), (plf, .inl (plkf, 40, .inl a.2.2.2.1)), (plo, .inl (plko, 40, .inl a.2.2.2.2.1)), (plb, .inl (plkb, 40, .inr (.inl a.2.2.2.2.2.1))), (pla, .inl (plka, 100, .inl a.2.2.2.2.2.2))] H ∧ va_D A [(pl, .inr (3, [.int x_1, .int x_2, .int x_3, .int a.2.1, .long a.2.2.1, .ref plf, .ref plo, .ref plb, .ref pla])), (plf, .inl (plkf, 40, .inl a.2.2.2.1)), (plo, .inl (plko, 40, .inl a.2.2.2.2.1)), (plb, .inl (plkb, 40, .inr (.inl a.2.2.2.2.2.1))), (pla, .inl (plka, 100, .inl a.2.2.2.2.2.2))] ∧ va_S A s.heap H locs ∧ lv_has ls 6 [(3, .int a.1), (0, .ref pl), (1, .int p0), (2, .int p1)]) (μ := fun a => (5 - a.1.toInt).toNat) ?_ ((0 : Int32), (0 : Int32), (0 : Int64), plF, plO, plB, f2_5) ⟨(by have k0 : (0 : Int32).toInt = 0 := (by decide); (try dsimp only); omega), (by have k0 : (0 : Int32).toInt = 0 := (by decide); (try dsimp only); omega), hR_plf, hR_plo, hP.sub [0, 1, 2, 3, 4] rfl, hD.sub [0, 1, 2, 3, 4] (by decide) rfl, hS, lv_sub hl [0, 1, 2, 3] rfl⟩
  intro a H locs ls hI ih51
  obtain ⟨y, s1, m1, F1, O1, B1, A1⟩ := a
  obtain ⟨h_y, h_s1, hF1, hO1, hP, hD, hS, hl⟩ := hI
  have h_y : 0 ≤ y.toInt ∧ y.toInt ≤ 5 := h_y
  have h_s1 : 0 ≤ s1.toInt ∧ s1.toInt ≤ 40 ∧ (5 ≤ y.toInt ∨ s1.toInt ≤ 9 * y.toInt) := h_s1
  have hF1 : RG F1 40 0 24 := hF1
  have hO1 : RG O1 40 0 24 := hO1
  have hP : va_P (dC, dI) vwCl [(pl, .inr (3, [.int x_1, .int x_2, .int x_3, .int s1, .long m1, .ref plf, .ref plo, .ref plb, .ref pla])), (plf, .inl (plkf, 40, .inl F1)), (plo, .inl (plko, 40, .inl O1)), (plb, .inl (plkb, 40, .inr (.inl B1))), (pla, .inl (plka, 100, .inl A1))] H := hP
  have hD : va_D A [(pl, .inr (3, [.int x_1, .int x_2, .int x_3, .int s1, .long m1, .ref plf, .ref plo, .ref plb, .ref pla])), (plf, .inl (plkf, 40, .inl F1)), (plo, .inl (plko, 40, .inl O1)), (plb, .inl (plkb, 40, .inr (.inl B1))), (pla, .inl (plka, 100, .inl A1))] := hD
  have hl : lv_has ls 6 [(3, .int y), (0, .ref pl), (1, .int p0), (2, .int p1)] := hl
  refine lv_iload_n hx hb dX3_lay_51 rfl (lv_at hl 0 rfl) ?_
  refine lv_aload_n hx hb dX3_lay_52 rfl (lv_at hl 1 rfl) ?_
  refine va_get (D := (dC, dI)) (ci := 3) (v := .int x_2) (C := RX3) (T := TX3) (N := 9) hx hb hts in_X3_lay_X3 hown hK hP 0 rfl rfl 1 (by decide) (hts _ wd_X3_lay_5) (fun _ h9 => h9) rfl dX3_lay_53 ?_
  refine lv_icmp_ge (tgt := 151) hx hb dX3_lay_56 (by decide) (fun c_6 => ?_) (fun c_6 => ?_)
  · have c_6 : x_2.toInt ≤ y.toInt := i_le (a := x_2) (b := y) rfl rfl c_6
    have hP9 := hP.sub (ws' := [(pl, .inr (3, [.int x_1, .int x_2, .int x_3, .int s1, .long m1, .ref plf, .ref plo, .ref plb, .ref pla])), (plf, .inl (plkf, 40, .inl F1)), (plo, .inl (plko, 40, .inl O1)), (plb, .inl (plkb, 40, .inr (.inl B1))), (pla, .inl (plka, 100, .inl A1))]) [0, 1, 2, 3, 4] rfl
    have hD9 := hD.sub (ws' := [(pl, .inr (3, [.int x_1, .int x_2, .int x_3, .int s1, .long m1, .ref plf, .ref plo, .ref plb, .ref pla])), (plf, .inl (plkf, 40, .inl F1)), (plo, .inl (plko, 40, .inl O1)), (plb, .inl (plkb, 40, .inr (.inl B1))), (pla, .inl (plka, 100, .inl A1))]) [0, 1, 2, 3, 4] (by decide) rfl
    have hK9 := hK.sub (tys' := []) [] rfl
    refine W.widen (k := 0) (n := 0) (by omega) (by omega) ?_
    exact W.vret hx hb hr (fun t ht hW => ⟨⟨(x_1, x_2, x_3, s1, m1, F1, O1, B1, A1), rfl, ⟨(by first | rfl | trivial | (dsimp only; omega) | omega | (left; rfl) | (right; rfl) | (dsimp only; first | (left; rfl) | (right; rfl))), (by first | rfl | trivial | (dsimp only; omega) | omega | (left; rfl) | (right; rfl) | (dsimp only; first | (left; rfl) | (right; rfl))), (by first | rfl | trivial | (dsimp only; omega) | omega | (left; rfl) | (right; rfl) | (dsimp only; first | (left; rfl) | (right; rfl))), (by first | rfl | trivial | (dsimp only; omega) | omega | (left; rfl) | (right; rfl) | (dsimp only; first | (left; rfl) | (right; rfl))), hF1, hO1⟩, by rw [ht]; exact hP9, va_K.moved hW.alike hK9, hD9⟩, hS.F ht⟩) hS.2.2 dX3_lay_151
  · have c_6 : y.toInt < x_2.toInt := i_nle (a := x_2) (b := y) rfl rfl c_6
    refine lv_iconst (v := 0) hx hb dX3_lay_59 (by decide) ?_
    refine lv_istore (lv' := [(4, .int 0), (3, .int y), (0, .ref pl), (1, .int p0), (2, .int p1)]) hx hb dX3_lay_60 hl (by decide) rfl (fun ls hl => ?_)
    refine lp_W (I := fun (a : Int32 × Int32 × Int64 × (Nat → Int32) × (Nat → Int32) × (Nat → Int64) × (Nat → Int32)) H locs ls => (0 ≤ a.1.toInt ∧ a.1.toInt ≤ 5) ∧ (0 ≤ a.2.1.toInt ∧ a.2.1.toInt ≤ 40 ∧ (4 ≤ y.toInt ∨ (a.2.1.toInt ≤ 9 * y.toInt + 2 * a.1.toInt ∧ a.2.1.toInt ≤ 9 * y.toInt + 9)) ∧ (y.toInt ≤ 3 ∨ a.2.1.toInt ≤ 36 + a.1.toInt)) ∧ (RG a.2.2.2.1 40 0 24) ∧ (RG a.2.2.2.2.1 40 0 24) ∧ va_P (dC, dI) vwCl [(pl, .inr (3, [.int x_1, .int x_2, .int x_3, .int a.2.1, .long a.2.2.1, .ref plf, .ref plo, .ref plb, .ref pla])), (plf, .inl (plkf, 40, .inl a.2.2.2.1)), (plo, .inl (plko, 40, .inl a.2.2.2.2.1)), (plb, .inl (plkb, 40, .inr (.inl a.2.2.2.2.2.1))), (pla, .inl (plka, 100, .inl a.2.2.2.2.2.2))] H ∧ va_D A [(pl, .inr (3, [.int x_1, .int x_2, .int x_3, .int a.2.1, .long a.2.2.1, .ref plf, .ref plo, .ref plb, .ref pla])), (plf, .inl (plkf, 40, .inl a.2.2.2.1)), (plo, .inl (plko, 40, .inl a.2.2.2.2.1)), (plb, .inl (plkb, 40, .inr (.inl a.2.2.2.2.2.1))), (pla, .inl (plka, 100, .inl a.2.2.2.2.2.2))] ∧ va_S A s.heap H locs ∧ lv_has ls 6 [(4, .int a.1), (3, .int y), (0, .ref pl), (1, .int p0), (2, .int p1)]) (μ := fun a => (5 - a.1.toInt).toNat) ?_ ((0 : Int32), s1, m1, F1, O1, B1, A1) ⟨(by have k0 : (0 : Int32).toInt = 0 := (by decide); (try dsimp only); omega), (by have k0 : (0 : Int32).toInt = 0 := (by decide); (try dsimp only); omega), hF1, hO1, hP.sub [0, 1, 2, 3, 4] rfl, hD.sub [0, 1, 2, 3, 4] (by decide) rfl, hS, lv_sub hl [0, 1, 2, 3, 4] rfl⟩
    intro a H locs ls hI ih62
    obtain ⟨xx, s2, m2, F2, O2, B2, A2⟩ := a
    obtain ⟨h_xx, h_s2, hF2, hO2, hP, hD, hS, hl⟩ := hI
    have h_xx : 0 ≤ xx.toInt ∧ xx.toInt ≤ 5 := h_xx
    have h_s2 : 0 ≤ s2.toInt ∧ s2.toInt ≤ 40 ∧ (4 ≤ y.toInt ∨ (s2.toInt ≤ 9 * y.toInt + 2 * xx.toInt ∧ s2.toInt ≤ 9 * y.toInt + 9)) ∧ (y.toInt ≤ 3 ∨ s2.toInt ≤ 36 + xx.toInt) := h_s2
    have hF2 : RG F2 40 0 24 := hF2
    have hO2 : RG O2 40 0 24 := hO2
    have hP : va_P (dC, dI) vwCl [(pl, .inr (3, [.int x_1, .int x_2, .int x_3, .int s2, .long m2, .ref plf, .ref plo, .ref plb, .ref pla])), (plf, .inl (plkf, 40, .inl F2)), (plo, .inl (plko, 40, .inl O2)), (plb, .inl (plkb, 40, .inr (.inl B2))), (pla, .inl (plka, 100, .inl A2))] H := hP
    have hD : va_D A [(pl, .inr (3, [.int x_1, .int x_2, .int x_3, .int s2, .long m2, .ref plf, .ref plo, .ref plb, .ref pla])), (plf, .inl (plkf, 40, .inl F2)), (plo, .inl (plko, 40, .inl O2)), (plb, .inl (plkb, 40, .inr (.inl B2))), (pla, .inl (plka, 100, .inl A2))] := hD
    have hl : lv_has ls 6 [(4, .int xx), (3, .int y), (0, .ref pl), (1, .int p0), (2, .int p1)] := hl
    refine lv_iload hx hb dX3_lay_62 (lv_at hl 0 rfl) ?_
    refine lv_aload_n hx hb dX3_lay_64 rfl (lv_at hl 2 rfl) ?_
    refine va_get (D := (dC, dI)) (ci := 3) (v := .int x_1) (C := RX3) (T := TX3) (N := 9) hx hb hts in_X3_lay_X3 hown hK hP 0 rfl rfl 0 (by decide) (hts _ wd_X3_lay_4) (fun _ h9 => h9) rfl dX3_lay_65 ?_
    refine lv_icmp_ge (tgt := 145) hx hb dX3_lay_68 (by decide) (fun c_7 => ?_) (fun c_7 => ?_)
    · have c_7 : x_1.toInt ≤ xx.toInt := i_le (a := x_1) (b := xx) rfl rfl c_7
      obtain ⟨x_8, ex_8⟩ : ∃ y9 : Int32, y9 = y + Int32.ofInt 1 := ⟨_, rfl⟩
      have zx_8 : x_8.toInt = y.toInt + 1 := by rw [ex_8]; exact i_add rfl (show (Int32.ofInt 1).toInt = 1 by decide) (by omega) (by omega)
      refine lv_iinc (v := x_8) (lv' := [(3, .int x_8), (4, .int xx), (0, .ref pl), (1, .int p0), (2, .int p1)]) hx hb dX3_lay_145 hl (k := 1) rfl (by rw [ex_8]) (by decide) rfl (fun ls hl => ?_)
      refine lv_goto (tgt := 51) hx hb dX3_lay_148 (by decide) ?_
      exact ih51 (x_8, s2, m2, F2, O2, B2, A2) _ _ _ ⟨(by (try dsimp only); omega), (by (try dsimp only); omega), hF2, hO2, hP.sub [0, 1, 2, 3, 4] rfl, hD.sub [0, 1, 2, 3, 4] (by decide) rfl, hS, lv_sub hl [0, 2, 3, 4] rfl⟩ (by (try dsimp only); omega)
    · have c_7 : xx.toInt < x_1.toInt := i_nle (a := x_1) (b := xx) rfl rfl c_7
      refine lv_aload_n hx hb dX3_lay_71 rfl (lv_at hl 2 rfl) ?_
      refine va_get (D := (dC, dI)) (ci := 3) (v := .int x_1) (C := RX3) (T := TX3) (N := 9) hx hb hts in_X3_lay_X3 hown hK hP 0 rfl rfl 0 (by decide) (hts _ wd_X3_lay_4) (fun _ h9 => h9) rfl dX3_lay_72 ?_
      refine lv_iload_n hx hb dX3_lay_75 rfl (lv_at hl 1 rfl) ?_
      refine lv_imul hx hb dX3_lay_76 ?_
      refine lv_topi (fun x_9 ex_9 => ?_)
      have mx_9 := i_mul5 ex_9 ⟨by omega, by omega⟩ ⟨by omega, by omega⟩
      refine lv_iload hx hb dX3_lay_77 (lv_at hl 0 rfl) ?_
      refine lv_iadd hx hb dX3_lay_79 ?_
      refine lv_topi (fun x_10 ex_10 => ?_)
      have zx_10 : x_10.toInt = x_9.toInt + xx.toInt := by rw [ex_10]; exact i_add rfl rfl (by omega) (by omega)
      refine lv_istore (lv' := [(5, .int x_10), (4, .int xx), (3, .int y), (0, .ref pl), (1, .int p0), (2, .int p1)]) hx hb dX3_lay_80 hl (by decide) rfl (fun ls hl => ?_)
      refine lv_iload hx hb dX3_lay_82 (lv_at hl 1 rfl) ?_
      refine lv_aload_n hx hb dX3_lay_84 rfl (lv_at hl 3 rfl) ?_
      refine va_get (D := (dC, dI)) (ci := 3) (v := .int x_1) (C := RX3) (T := TX3) (N := 9) hx hb hts in_X3_lay_X3 hown hK hP 0 rfl rfl 0 (by decide) (hts _ wd_X3_lay_4) (fun _ h9 => h9) rfl dX3_lay_85 ?_
      refine lv_iconst (v := 1) hx hb dX3_lay_88 (by decide) ?_
      refine lv_isub hx hb dX3_lay_89 ?_
      refine lv_topi (fun x_11 ex_11 => ?_)
      have zx_11 : x_11.toInt = x_1.toInt - 1 := by rw [ex_11]; exact i_sub rfl (by decide) (by omega) (by omega)
      refine lv_icmp_ge (tgt := 108) hx hb dX3_lay_90 (by decide) (fun c_12 => ?_) (fun c_12 => ?_)
      · have c_12 : x_11.toInt ≤ xx.toInt := i_le (a := x_11) (b := xx) rfl rfl c_12
        refine lv_iload_n hx hb dX3_lay_108 rfl (lv_at hl 2 rfl) ?_
        refine lv_aload_n hx hb dX3_lay_109 rfl (lv_at hl 3 rfl) ?_
        refine va_get (D := (dC, dI)) (ci := 3) (v := .int x_2) (C := RX3) (T := TX3) (N := 9) hx hb hts in_X3_lay_X3 hown hK hP 0 rfl rfl 1 (by decide) (hts _ wd_X3_lay_5) (fun _ h9 => h9) rfl dX3_lay_110 ?_
        refine lv_iconst (v := 1) hx hb dX3_lay_113 (by decide) ?_
        refine lv_isub hx hb dX3_lay_114 ?_
        refine lv_topi (fun x_13 ex_13 => ?_)
        have zx_13 : x_13.toInt = x_2.toInt - 1 := by rw [ex_13]; exact i_sub rfl (by decide) (by omega) (by omega)
        refine lv_icmp_ge (tgt := 139) hx hb dX3_lay_115 (by decide) (fun c_14 => ?_) (fun c_14 => ?_)
        · have c_14 : x_13.toInt ≤ y.toInt := i_le (a := x_13) (b := y) rfl rfl c_14
          obtain ⟨x_15, ex_15⟩ : ∃ y9 : Int32, y9 = xx + Int32.ofInt 1 := ⟨_, rfl⟩
          have zx_15 : x_15.toInt = xx.toInt + 1 := by rw [ex_15]; exact i_add rfl (show (Int32.ofInt 1).toInt = 1 by decide) (by omega) (by omega)
          refine lv_iinc (v := x_15) (lv' := [(4, .int x_15), (5, .int x_10), (3, .int y), (0, .ref pl), (1, .int p0), (2, .int p1)]) hx hb dX3_lay_139 hl (k := 1) rfl (by rw [ex_15]) (by decide) rfl (fun ls hl => ?_)
          refine lv_goto (tgt := 62) hx hb dX3_lay_142 (by decide) ?_
          exact ih62 (x_15, s2, m2, F2, O2, B2, A2) _ _ _ ⟨(by (try dsimp only); omega), (by (try dsimp only); omega), hF2, hO2, hP.sub [0, 1, 2, 3, 4] rfl, hD.sub [0, 1, 2, 3, 4] (by decide) rfl, hS, lv_sub hl [0, 2, 3, 4, 5] rfl⟩ (by (try dsimp only); omega)
        · have c_14 : y.toInt < x_13.toInt := i_nle (a := x_13) (b := y) rfl rfl c_14
          refine lv_aload_n hx hb dX3_lay_118 rfl (lv_at hl 3 rfl) ?_
          refine lv_iload hx hb dX3_lay_119 (lv_at hl 0 rfl) ?_
          refine lv_iload hx hb dX3_lay_121 (lv_at hl 0 rfl) ?_
          refine lv_aload_n hx hb dX3_lay_123 rfl (lv_at hl 3 rfl) ?_
          refine va_get (D := (dC, dI)) (ci := 3) (v := .int x_1) (C := RX3) (T := TX3) (N := 9) hx hb hts in_X3_lay_X3 hown hK hP 0 rfl rfl 0 (by decide) (hts _ wd_X3_lay_4) (fun _ h9 => h9) rfl dX3_lay_124 ?_
          refine lv_iadd hx hb dX3_lay_127 ?_
          refine lv_topi (fun x_16 ex_16 => ?_)
          have zx_16 : x_16.toInt = x_10.toInt + x_1.toInt := by rw [ex_16]; exact i_add rfl rfl (by omega) (by omega)
          refine lv_iconst (v := 2) hx hb dX3_lay_128 (by decide) ?_
          refine lv_lconst (v := 1) hx hb dX3_lay_129 (by decide) ?_
          refine lv_iload hx hb dX3_lay_130 (lv_at hl 0 rfl) ?_
          refine lv_bipush (v := 32) hx hb dX3_lay_132 (by decide) ?_
          refine lv_iadd hx hb dX3_lay_134 ?_
          refine lv_topi (fun x_17 ex_17 => ?_)
          have zx_17 : x_17.toInt = x_10.toInt + 32 := by rw [ex_17]; exact i_add rfl (by decide) (by omega) (by omega)
          refine lv_lshl (v := ((1 : Int64)) <<< (x_17.toInt64 &&& 63)) hx hb dX3_lay_135 rfl ?_
          refine lv_topl (fun y_18 ey_18 => ?_)
          have hPc := hP.sub (ws' := [(pl, .inr (3, [.int x_1, .int x_2, .int x_3, .int s2, .long m2, .ref plf, .ref plo, .ref plb, .ref pla])), (plf, .inl (plkf, 40, .inl F2)), (plo, .inl (plko, 40, .inl O2)), (plb, .inl (plkb, 40, .inr (.inl B2))), (pla, .inl (plka, 100, .inl A2))]) [0, 1, 2, 3, 4] rfl
          have hDc := hD.sub (ws' := [(pl, .inr (3, [.int x_1, .int x_2, .int x_3, .int s2, .long m2, .ref plf, .ref plo, .ref plb, .ref pla])), (plf, .inl (plkf, 40, .inl F2)), (plo, .inl (plko, 40, .inl O2)), (plb, .inl (plkb, 40, .inr (.inl B2))), (pla, .inl (plka, 100, .inl A2))]) [0, 1, 2, 3, 4] (by decide) rfl
          have hKc := hK.sub (tys' := [(plkf, .int), (plko, .int), (plkb, .long), (plka, .int)]) [0, 1, 2, 3] rfl
          have hFc := va_free (wc := [(pl, .inr (3, [.int x_1, .int x_2, .int x_3, .int s2, .long m2, .ref plf, .ref plo, .ref plb, .ref pla])), (plf, .inl (plkf, 40, .inl F2)), (plo, .inl (plko, 40, .inl O2)), (plb, .inl (plkb, 40, .inr (.inl B2))), (pla, .inl (plka, 100, .inl A2))]) hD hS hA [0, 1, 2, 3, 4] rfl
          refine va_callv (va_runV (As := [.int x_10, .int x_16, .int 2, .long y_18]) (rest := []) ⟨hx, hb, hml, hown, hts⟩ (c_X3_join_2 l dC dI H.size pl x_1 x_2 x_3 s2 m2 plf plo plb pla plkf F2 plko O2 plkb B2 plka A2 x_10 x_16 y_18 (by omega) (by omega) (by omega) hF2 hO2) (cwV 4 hts g_X3_lay_X3_join_2 rfl rfl rfl (by decide +kernel) ⟨Nat.le_of_ble_eq_true rfl, Nat.le_of_ble_eq_true rfl⟩) ⟨fun a U g mk q => by obtain ⟨q0, q1, qP, qK, qD⟩ := q; exact ⟨q0, q1, qP, va_K.moved (u := U) (U := U.calling g mk a) (Vm.Alike.refl U.vm) qK, qD⟩, va_recv hKc hPc (ci := 3) (q0 := 0) rfl rfl, fun U hU hW => ⟨rfl, by rw [hU], by rw [hU]; exact hPc, va_K.moved hW.alike hKc, hDc.weaken (fun _ _ _ _ => trivial)⟩⟩ rfl rfl hl.1 rfl (lv_room (Nat.le_of_ble_eq_true rfl)) dX3_lay_136 ⟨Nat.le_of_ble_eq_true rfl, Nat.le_of_ble_eq_true rfl⟩) hS (fun q _ h => hFc q h) hFc (fun u t H1 locs ht hvm hw_19 hB hz1 hk1 hS => ?_)
          obtain ⟨qs_20, qm_21, qF_22, qO_23, qB_24, qA_25⟩ := u
          obtain ⟨hP1, hK1, hD1⟩ := hB
          have hP1 : va_P (dC, dI) vwCl [(pl, .inr (3, [.int x_1, .int x_2, .int x_3, .int qs_20, .long qm_21, .ref plf, .ref plo, .ref plb, .ref pla])), (plf, .inl (plkf, 40, .inl qF_22)), (plo, .inl (plko, 40, .inl qO_23)), (plb, .inl (plkb, 40, .inr (.inl qB_24))), (pla, .inl (plka, 100, .inl qA_25))] t.heap := hP1
          rw [ht] at hP1
          try dsimp only at hw_19
          obtain ⟨hp_26, hp_27, hp_28⟩ := hw_19
          obtain ⟨hP, hD⟩ := va_join (wr := []) (w1 := [(pl, .inr (3, [.int x_1, .int x_2, .int x_3, .int qs_20, .long qm_21, .ref plf, .ref plo, .ref plb, .ref pla])), (plf, .inl (plkf, 40, .inl qF_22)), (plo, .inl (plko, 40, .inl qO_23)), (plb, .inl (plkb, 40, .inr (.inl qB_24))), (pla, .inl (plka, 100, .inl qA_25))]) hP hD [0, 1, 2, 3, 4] [] rfl rfl (by decide) (by decide) hk1 hFc hP1 hD1
          generalize H1 = H at hP hS ⊢
          have hP : va_P (dC, dI) vwCl [(pl, .inr (3, [.int x_1, .int x_2, .int x_3, .int qs_20, .long qm_21, .ref plf, .ref plo, .ref plb, .ref pla])), (plf, .inl (plkf, 40, .inl qF_22)), (plo, .inl (plko, 40, .inl qO_23)), (plb, .inl (plkb, 40, .inr (.inl qB_24))), (pla, .inl (plka, 100, .inl qA_25))] H := hP
          have hD : va_D A [(pl, .inr (3, [.int x_1, .int x_2, .int x_3, .int qs_20, .long qm_21, .ref plf, .ref plo, .ref plb, .ref pla])), (plf, .inl (plkf, 40, .inl qF_22)), (plo, .inl (plko, 40, .inl qO_23)), (plb, .inl (plkb, 40, .inr (.inl qB_24))), (pla, .inl (plka, 100, .inl qA_25))] := hD
          obtain ⟨x_29, ex_29⟩ : ∃ y9 : Int32, y9 = xx + Int32.ofInt 1 := ⟨_, rfl⟩
          have zx_29 : x_29.toInt = xx.toInt + 1 := by rw [ex_29]; exact i_add rfl (show (Int32.ofInt 1).toInt = 1 by decide) (by omega) (by omega)
          refine lv_iinc (v := x_29) (lv' := [(4, .int x_29), (5, .int x_10), (3, .int y), (0, .ref pl), (1, .int p0), (2, .int p1)]) hx hb dX3_lay_139 hl (k := 1) rfl (by rw [ex_29]) (by decide) rfl (fun ls hl => ?_)
          refine lv_goto (tgt := 62) hx hb dX3_lay_142 (by decide) ?_
          exact ih62 (x_29, qs_20, qm_21, qF_22, qO_23, qB_24, qA_25) _ _ _ ⟨(by (try dsimp only); omega), (by (try dsimp only); omega), hp_27, hp_28, hP.sub [0, 1, 2, 3, 4] rfl, hD.sub [0, 1, 2, 3, 4] (by decide) rfl, hS, lv_sub hl [0, 2, 3, 4, 5] rfl⟩ (by (try dsimp only); omega)
      · have c_12 : xx.toInt < x_11.toInt := i_nle (a := x_11) (b := xx) rfl rfl c_12
        refine lv_aload_n hx hb dX3_lay_93 rfl (lv_at hl 3 rfl) ?_
        refine lv_iload hx hb dX3_lay_94 (lv_at hl 0 rfl) ?_
        refine lv_iload hx hb dX3_lay_96 (lv_at hl 0 rfl) ?_
        refine lv_iconst (v := 1) hx hb dX3_lay_98 (by decide) ?_
        refine lv_iadd hx hb dX3_lay_99 ?_
        refine lv_topi (fun x_30 ex_30 => ?_)
        have zx_30 : x_30.toInt = x_10.toInt + 1 := by rw [ex_30]; exact i_add rfl (by decide) (by omega) (by omega)
        refine lv_iconst (v := 1) hx hb dX3_lay_100 (by decide) ?_
        refine lv_lconst (v := 1) hx hb dX3_lay_101 (by decide) ?_
        refine lv_iload hx hb dX3_lay_102 (lv_at hl 0 rfl) ?_
        refine lv_lshl (v := ((1 : Int64)) <<< (x_10.toInt64 &&& 63)) hx hb dX3_lay_104 rfl ?_
        refine lv_topl (fun y_31 ey_31 => ?_)
        have hPc := hP.sub (ws' := [(pl, .inr (3, [.int x_1, .int x_2, .int x_3, .int s2, .long m2, .ref plf, .ref plo, .ref plb, .ref pla])), (plf, .inl (plkf, 40, .inl F2)), (plo, .inl (plko, 40, .inl O2)), (plb, .inl (plkb, 40, .inr (.inl B2))), (pla, .inl (plka, 100, .inl A2))]) [0, 1, 2, 3, 4] rfl
        have hDc := hD.sub (ws' := [(pl, .inr (3, [.int x_1, .int x_2, .int x_3, .int s2, .long m2, .ref plf, .ref plo, .ref plb, .ref pla])), (plf, .inl (plkf, 40, .inl F2)), (plo, .inl (plko, 40, .inl O2)), (plb, .inl (plkb, 40, .inr (.inl B2))), (pla, .inl (plka, 100, .inl A2))]) [0, 1, 2, 3, 4] (by decide) rfl
        have hKc := hK.sub (tys' := [(plkf, .int), (plko, .int), (plkb, .long), (plka, .int)]) [0, 1, 2, 3] rfl
        have hFc := va_free (wc := [(pl, .inr (3, [.int x_1, .int x_2, .int x_3, .int s2, .long m2, .ref plf, .ref plo, .ref plb, .ref pla])), (plf, .inl (plkf, 40, .inl F2)), (plo, .inl (plko, 40, .inl O2)), (plb, .inl (plkb, 40, .inr (.inl B2))), (pla, .inl (plka, 100, .inl A2))]) hD hS hA [0, 1, 2, 3, 4] rfl
        refine va_callv (va_runV (As := [.int x_10, .int x_30, .int 1, .long y_31]) (rest := []) ⟨hx, hb, hml, hown, hts⟩ (c_X3_join_1 l dC dI H.size pl x_1 x_2 x_3 s2 m2 plf plo plb pla plkf F2 plko O2 plkb B2 plka A2 x_10 x_30 y_31 (by omega) (by omega) (by omega) hF2 hO2) (cwV 4 hts g_X3_lay_X3_join_1 rfl rfl rfl (by decide +kernel) ⟨Nat.le_of_ble_eq_true rfl, Nat.le_of_ble_eq_true rfl⟩) ⟨fun a U g mk q => by obtain ⟨q0, q1, qP, qK, qD⟩ := q; exact ⟨q0, q1, qP, va_K.moved (u := U) (U := U.calling g mk a) (Vm.Alike.refl U.vm) qK, qD⟩, va_recv hKc hPc (ci := 3) (q0 := 0) rfl rfl, fun U hU hW => ⟨rfl, by rw [hU], by rw [hU]; exact hPc, va_K.moved hW.alike hKc, hDc.weaken (fun _ _ _ _ => trivial)⟩⟩ rfl rfl hl.1 rfl (lv_room (Nat.le_of_ble_eq_true rfl)) dX3_lay_105 ⟨Nat.le_of_ble_eq_true rfl, Nat.le_of_ble_eq_true rfl⟩) hS (fun q _ h => hFc q h) hFc (fun u t H1 locs ht hvm hw_32 hB hz1 hk1 hS => ?_)
        obtain ⟨qs_33, qm_34, qF_35, qO_36, qB_37, qA_38⟩ := u
        obtain ⟨hP1, hK1, hD1⟩ := hB
        have hP1 : va_P (dC, dI) vwCl [(pl, .inr (3, [.int x_1, .int x_2, .int x_3, .int qs_33, .long qm_34, .ref plf, .ref plo, .ref plb, .ref pla])), (plf, .inl (plkf, 40, .inl qF_35)), (plo, .inl (plko, 40, .inl qO_36)), (plb, .inl (plkb, 40, .inr (.inl qB_37))), (pla, .inl (plka, 100, .inl qA_38))] t.heap := hP1
        rw [ht] at hP1
        try dsimp only at hw_32
        obtain ⟨hp_39, hp_40, hp_41⟩ := hw_32
        obtain ⟨hP, hD⟩ := va_join (wr := []) (w1 := [(pl, .inr (3, [.int x_1, .int x_2, .int x_3, .int qs_33, .long qm_34, .ref plf, .ref plo, .ref plb, .ref pla])), (plf, .inl (plkf, 40, .inl qF_35)), (plo, .inl (plko, 40, .inl qO_36)), (plb, .inl (plkb, 40, .inr (.inl qB_37))), (pla, .inl (plka, 100, .inl qA_38))]) hP hD [0, 1, 2, 3, 4] [] rfl rfl (by decide) (by decide) hk1 hFc hP1 hD1
        generalize H1 = H at hP hS ⊢
        have hP : va_P (dC, dI) vwCl [(pl, .inr (3, [.int x_1, .int x_2, .int x_3, .int qs_33, .long qm_34, .ref plf, .ref plo, .ref plb, .ref pla])), (plf, .inl (plkf, 40, .inl qF_35)), (plo, .inl (plko, 40, .inl qO_36)), (plb, .inl (plkb, 40, .inr (.inl qB_37))), (pla, .inl (plka, 100, .inl qA_38))] H := hP
        have hD : va_D A [(pl, .inr (3, [.int x_1, .int x_2, .int x_3, .int qs_33, .long qm_34, .ref plf, .ref plo, .ref plb, .ref pla])), (plf, .inl (plkf, 40, .inl qF_35)), (plo, .inl (plko, 40, .inl qO_36)), (plb, .inl (plkb, 40, .inr (.inl qB_37))), (pla, .inl (plka, 100, .inl qA_38))] := hD
        refine lv_iload_n hx hb dX3_lay_108 rfl (lv_at hl 2 rfl) ?_
        refine lv_aload_n hx hb dX3_lay_109 rfl (lv_at hl 3 rfl) ?_
        refine va_get (D := (dC, dI)) (ci := 3) (v := .int x_2) (C := RX3) (T := TX3) (N := 9) hx hb hts in_X3_lay_X3 hown hK hP 0 rfl rfl 1 (by decide) (hts _ wd_X3_lay_5) (fun _ h9 => h9) rfl dX3_lay_110 ?_
        refine lv_iconst (v := 1) hx hb dX3_lay_113 (by decide) ?_
        refine lv_isub hx hb dX3_lay_114 ?_
        refine lv_topi (fun x_42 ex_42 => ?_)
        have zx_42 : x_42.toInt = x_2.toInt - 1 := by rw [ex_42]; exact i_sub rfl (by decide) (by omega) (by omega)
        refine lv_icmp_ge (tgt := 139) hx hb dX3_lay_115 (by decide) (fun c_43 => ?_) (fun c_43 => ?_)
        · have c_43 : x_42.toInt ≤ y.toInt := i_le (a := x_42) (b := y) rfl rfl c_43
          obtain ⟨x_44, ex_44⟩ : ∃ y9 : Int32, y9 = xx + Int32.ofInt 1 := ⟨_, rfl⟩
          have zx_44 : x_44.toInt = xx.toInt + 1 := by rw [ex_44]; exact i_add rfl (show (Int32.ofInt 1).toInt = 1 by decide) (by omega) (by omega)
          refine lv_iinc (v := x_44) (lv' := [(4, .int x_44), (5, .int x_10), (3, .int y), (0, .ref pl), (1, .int p0), (2, .int p1)]) hx hb dX3_lay_139 hl (k := 1) rfl (by rw [ex_44]) (by decide) rfl (fun ls hl => ?_)
          refine lv_goto (tgt := 62) hx hb dX3_lay_142 (by decide) ?_
          exact ih62 (x_44, qs_33, qm_34, qF_35, qO_36, qB_37, qA_38) _ _ _ ⟨(by (try dsimp only); omega), (by (try dsimp only); omega), hp_40, hp_41, hP.sub [0, 1, 2, 3, 4] rfl, hD.sub [0, 1, 2, 3, 4] (by decide) rfl, hS, lv_sub hl [0, 2, 3, 4, 5] rfl⟩ (by (try dsimp only); omega)
        · have c_43 : y.toInt < x_42.toInt := i_nle (a := x_42) (b := y) rfl rfl c_43
          refine lv_aload_n hx hb dX3_lay_118 rfl (lv_at hl 3 rfl) ?_
          refine lv_iload hx hb dX3_lay_119 (lv_at hl 0 rfl) ?_
          refine lv_iload hx hb dX3_lay_121 (lv_at hl 0 rfl) ?_
          refine lv_aload_n hx hb dX3_lay_123 rfl (lv_at hl 3 rfl) ?_
          refine va_get (D := (dC, dI)) (ci := 3) (v := .int x_1) (C := RX3) (T := TX3) (N := 9) hx hb hts in_X3_lay_X3 hown hK hP 0 rfl rfl 0 (by decide) (hts _ wd_X3_lay_4) (fun _ h9 => h9) rfl dX3_lay_124 ?_
          refine lv_iadd hx hb dX3_lay_127 ?_
          refine lv_topi (fun x_45 ex_45 => ?_)
          have zx_45 : x_45.toInt = x_10.toInt + x_1.toInt := by rw [ex_45]; exact i_add rfl rfl (by omega) (by omega)
          refine lv_iconst (v := 2) hx hb dX3_lay_128 (by decide) ?_
          refine lv_lconst (v := 1) hx hb dX3_lay_129 (by decide) ?_
          refine lv_iload hx hb dX3_lay_130 (lv_at hl 0 rfl) ?_
          refine lv_bipush (v := 32) hx hb dX3_lay_132 (by decide) ?_
          refine lv_iadd hx hb dX3_lay_134 ?_
          refine lv_topi (fun x_46 ex_46 => ?_)
          have zx_46 : x_46.toInt = x_10.toInt + 32 := by rw [ex_46]; exact i_add rfl (by decide) (by omega) (by omega)
          refine lv_lshl (v := ((1 : Int64)) <<< (x_46.toInt64 &&& 63)) hx hb dX3_lay_135 rfl ?_
          refine lv_topl (fun y_47 ey_47 => ?_)
          have hPc := hP.sub (ws' := [(pl, .inr (3, [.int x_1, .int x_2, .int x_3, .int qs_33, .long qm_34, .ref plf, .ref plo, .ref plb, .ref pla])), (plf, .inl (plkf, 40, .inl qF_35)), (plo, .inl (plko, 40, .inl qO_36)), (plb, .inl (plkb, 40, .inr (.inl qB_37))), (pla, .inl (plka, 100, .inl qA_38))]) [0, 1, 2, 3, 4] rfl
          have hDc := hD.sub (ws' := [(pl, .inr (3, [.int x_1, .int x_2, .int x_3, .int qs_33, .long qm_34, .ref plf, .ref plo, .ref plb, .ref pla])), (plf, .inl (plkf, 40, .inl qF_35)), (plo, .inl (plko, 40, .inl qO_36)), (plb, .inl (plkb, 40, .inr (.inl qB_37))), (pla, .inl (plka, 100, .inl qA_38))]) [0, 1, 2, 3, 4] (by decide) rfl
          have hKc := hK.sub (tys' := [(plkf, .int), (plko, .int), (plkb, .long), (plka, .int)]) [0, 1, 2, 3] rfl
          have hFc := va_free (wc := [(pl, .inr (3, [.int x_1, .int x_2, .int x_3, .int qs_33, .long qm_34, .ref plf, .ref plo, .ref plb, .ref pla])), (plf, .inl (plkf, 40, .inl qF_35)), (plo, .inl (plko, 40, .inl qO_36)), (plb, .inl (plkb, 40, .inr (.inl qB_37))), (pla, .inl (plka, 100, .inl qA_38))]) hD hS hA [0, 1, 2, 3, 4] rfl
          refine va_callv (va_runV (As := [.int x_10, .int x_45, .int 2, .long y_47]) (rest := []) ⟨hx, hb, hml, hown, hts⟩ (c_X3_join_2 l dC dI H.size pl x_1 x_2 x_3 qs_33 qm_34 plf plo plb pla plkf qF_35 plko qO_36 plkb qB_37 plka qA_38 x_10 x_45 y_47 (by omega) (by omega) (by omega) hp_40 hp_41) (cwV 4 hts g_X3_lay_X3_join_2 rfl rfl rfl (by decide +kernel) ⟨Nat.le_of_ble_eq_true rfl, Nat.le_of_ble_eq_true rfl⟩) ⟨fun a U g mk q => by obtain ⟨q0, q1, qP, qK, qD⟩ := q; exact ⟨q0, q1, qP, va_K.moved (u := U) (U := U.calling g mk a) (Vm.Alike.refl U.vm) qK, qD⟩, va_recv hKc hPc (ci := 3) (q0 := 0) rfl rfl, fun U hU hW => ⟨rfl, by rw [hU], by rw [hU]; exact hPc, va_K.moved hW.alike hKc, hDc.weaken (fun _ _ _ _ => trivial)⟩⟩ rfl rfl hl.1 rfl (lv_room (Nat.le_of_ble_eq_true rfl)) dX3_lay_136 ⟨Nat.le_of_ble_eq_true rfl, Nat.le_of_ble_eq_true rfl⟩) hS (fun q _ h => hFc q h) hFc (fun u t H1 locs ht hvm hw_48 hB hz1 hk1 hS => ?_)
          obtain ⟨qs_49, qm_50, qF_51, qO_52, qB_53, qA_54⟩ := u
          obtain ⟨hP1, hK1, hD1⟩ := hB
          have hP1 : va_P (dC, dI) vwCl [(pl, .inr (3, [.int x_1, .int x_2, .int x_3, .int qs_49, .long qm_50, .ref plf, .ref plo, .ref plb, .ref pla])), (plf, .inl (plkf, 40, .inl qF_51)), (plo, .inl (plko, 40, .inl qO_52)), (plb, .inl (plkb, 40, .inr (.inl qB_53))), (pla, .inl (plka, 100, .inl qA_54))] t.heap := hP1
          rw [ht] at hP1
          try dsimp only at hw_48
          obtain ⟨hp_55, hp_56, hp_57⟩ := hw_48
          obtain ⟨hP, hD⟩ := va_join (wr := []) (w1 := [(pl, .inr (3, [.int x_1, .int x_2, .int x_3, .int qs_49, .long qm_50, .ref plf, .ref plo, .ref plb, .ref pla])), (plf, .inl (plkf, 40, .inl qF_51)), (plo, .inl (plko, 40, .inl qO_52)), (plb, .inl (plkb, 40, .inr (.inl qB_53))), (pla, .inl (plka, 100, .inl qA_54))]) hP hD [0, 1, 2, 3, 4] [] rfl rfl (by decide) (by decide) hk1 hFc hP1 hD1
          generalize H1 = H at hP hS ⊢
          have hP : va_P (dC, dI) vwCl [(pl, .inr (3, [.int x_1, .int x_2, .int x_3, .int qs_49, .long qm_50, .ref plf, .ref plo, .ref plb, .ref pla])), (plf, .inl (plkf, 40, .inl qF_51)), (plo, .inl (plko, 40, .inl qO_52)), (plb, .inl (plkb, 40, .inr (.inl qB_53))), (pla, .inl (plka, 100, .inl qA_54))] H := hP
          have hD : va_D A [(pl, .inr (3, [.int x_1, .int x_2, .int x_3, .int qs_49, .long qm_50, .ref plf, .ref plo, .ref plb, .ref pla])), (plf, .inl (plkf, 40, .inl qF_51)), (plo, .inl (plko, 40, .inl qO_52)), (plb, .inl (plkb, 40, .inr (.inl qB_53))), (pla, .inl (plka, 100, .inl qA_54))] := hD
          obtain ⟨x_58, ex_58⟩ : ∃ y9 : Int32, y9 = xx + Int32.ofInt 1 := ⟨_, rfl⟩
          have zx_58 : x_58.toInt = xx.toInt + 1 := by rw [ex_58]; exact i_add rfl (show (Int32.ofInt 1).toInt = 1 by decide) (by omega) (by omega)
          refine lv_iinc (v := x_58) (lv' := [(4, .int x_58), (5, .int x_10), (3, .int y), (0, .ref pl), (1, .int p0), (2, .int p1)]) hx hb dX3_lay_139 hl (k := 1) rfl (by rw [ex_58]) (by decide) rfl (fun ls hl => ?_)
          refine lv_goto (tgt := 62) hx hb dX3_lay_142 (by decide) ?_
          exact ih62 (x_58, qs_49, qm_50, qF_51, qO_52, qB_53, qA_54) _ _ _ ⟨(by (try dsimp only); omega), (by (try dsimp only); omega), hp_56, hp_57, hP.sub [0, 1, 2, 3, 4] rfl, hD.sub [0, 1, 2, 3, 4] (by decide) rfl, hS, lv_sub hl [0, 2, 3, 4, 5] rfl⟩ (by (try dsimp only); omega)

