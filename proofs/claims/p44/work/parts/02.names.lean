/-! arrays of arrays: the printed row of multianewarray speaks of va_AOA, which neither the kit nor the printed names hold; so it stands here -/
def va_AOA (t : FieldType) (U : State) : Prop := va_Nw (Cond.arrayOver (.array t)) U
theorem va_AOA.use {t : FieldType} {A : Array Value} {U : State} (h : va_AOA t U) : (Cond.arrayOver (.array t)).before A U = true := h
theorem va_AOA.moved {t : FieldType} {u U : State} (hvm : u.vm.Alike U.vm) (h : va_AOA t u) : va_AOA t U := by
  obtain ⟨comp, cA, kA, hc, hi, hk, hkind, hn⟩ := arrayOverA_spec h
  obtain ⟨kB, hkB, hB⟩ := hvm.2.2 _ _ hk
  have e1 : U.vm.findClass (FieldType.array t).toString = some comp := by rw [hvm.findClass]; exact hc
  have e2 : U.vm.findClass ("[" ++ (FieldType.array t).toString) = some cA := by rw [hvm.findClass]; exact hn
  have hb : U.vm.bare = u.vm.bare := by first | exact hvm.bare_eq | exact hvm.bare_eq.symm
  have h1 := va_idx_bare U.vm comp
  rw [hb] at h1
  have e3 := h1.symm.trans ((va_idx_bare u.vm comp).trans hi)
  have e4 : kB.kind = .array comp (.array t) := by rw [hB]; exact hkind
  show Cond.before _ _ _ = true
  unfold Cond.before Cond.holds
  simp only [Cond.value]
  rw [e1, Option.bind_some]
  refine (congrArg (fun o : Option Nat => (o.bind (fun c => (U.vm.classes[c]?).map fun (k : Class) => match k.kind with | .array _ ty => decide (ty = FieldType.array t) && decide (U.vm.findClass ("[" ++ (FieldType.array t).toString) = some c) | _ => false) == some true)) e3).trans ?_
  simp [hkB, e4, e2]
/-! ===== BEGIN words of one list among another's, by their places ===== -/
theorem goodIn_r {big : List Cond} (ws : List Cond) (ps : List Nat) (hp : ws = ps.filterMap (fun i => big[i]?)) (h : ws.all goodWord = true) : GoodIn big ws := by
  intro w hw
  have h1 := List.all_eq_true.mp h w hw
  rw [hp] at hw
  obtain ⟨i, -, hi⟩ := List.mem_filterMap.mp hw
  have hm : w ∈ big := by first | exact List.mem_of_getElem? hi | exact List.getElem?_mem hi
  exact ⟨hm, good_of_word h1⟩
theorem goodIn_app {big a b : List Cond} (ha : GoodIn big a) (hb : GoodIn big b) : GoodIn big (a ++ b) := fun w h => (List.mem_append.mp h).elim (ha w) (hb w)
theorem goodIn_ca {big a b : List Cond} {c : Cond} (ha : GoodIn big (c :: a)) (hb : GoodIn big b) : GoodIn big (c :: (a ++ b)) := fun w h => (List.mem_cons.mp h).elim (fun e => ha w (List.mem_cons.mpr (Or.inl e))) (fun h => (List.mem_append.mp h).elim (fun h => ha w (List.mem_cons.mpr (Or.inr h))) (hb w))
theorem goodIn_sub {big ws : List Cond} (hm : ∀ w ∈ ws, w ∈ big) (h : ws.all goodWord = true) : GoodIn big ws := fun w hw => ⟨hm w hw, good_of_word (List.all_eq_true.mp h w hw)⟩
/-! ===== END ===== -/

/-! ===== BEGIN new T[n][m]: the outer array a place, the inner ones among the pooled ===== -/
/-- f, but v at every address of l -/
def vr_up {α : Type} (f : Nat → α) (l : List Nat) (v : α) : Nat → α := fun a => if a ∈ l then v else f a
theorem vr_up_in {α : Type} {f : Nat → α} {l : List Nat} {v : α} {a : Nat} (h : a ∈ l) : vr_up f l v a = v := if_pos h
theorem vr_up_ne {α : Type} {f : Nat → α} {l : List Nat} {v : α} {a : Nat} (h : a ∉ l) : vr_up f l v a = f a := if_neg h
theorem vr_rows {L l : List Nat} {f : Nat → va_E} {e : va_E} (h : ∀ a, a ∈ l → a ∉ L) : va_pl L f ++ l.map (fun a => (a, e)) = va_pl (L ++ l) (vr_up f l e) := by
  unfold va_pl
  rw [List.map_append]
  congr 1
  · apply List.map_congr_left
    intro a ha
    rw [vr_up_ne (fun q => h a q ha)]
  · apply List.map_congr_left
    intro a ha
    rw [vr_up_in ha]
theorem vr_lay {X rows : va_W} {x : Nat × va_E} {pl : va_W} {D : va_G} {cl : List vw_C} {H : Heap} (hP : va_P D cl (((X ++ pl) ++ [x]) ++ rows) H) : va_P D cl ((X ++ [x]) ++ (pl ++ rows)) H := by
  rw [List.append_assoc (X ++ pl)] at hP
  have h := va_P.swap hP
  rw [← List.append_assoc X] at h
  have h2 := va_P.swap h
  rw [List.append_assoc (X ++ [x])] at h2
  exact h2
theorem vr_layD {X rows : va_W} {x : Nat × va_E} {pl : va_W} {A : Nat → Prop} (hD : va_D A (((X ++ pl) ++ [x]) ++ rows)) : va_D A ((X ++ [x]) ++ (pl ++ rows)) := by
  rw [List.append_assoc (X ++ pl)] at hD
  have h := va_D.swap hD
  rw [← List.append_assoc X] at h
  have h2 := va_D.swap h
  rw [List.append_assoc (X ++ [x])] at h2
  exact h2
theorem vr_outer (c : ClassId) (N h0 : Nat) : ∀ i : Nat, Jvm.Free.Multi.outerC c N h0 i = arrV c N (fun j => va_rf (if j < i then some (h0 + 1 + j) else none))
  | 0 => by
    show ({ cls := c, slots := Array.replicate N .null, vm := .none } : Cell) = _
    rw [arrV_new]
    refine congrArg (arrV c N) (funext fun j => ?_)
    simp [va_rf]
  | i + 1 => by
    show (Jvm.Free.Multi.outerC c N h0 i).setSlot i (.ref (h0 + 1 + i)) = _
    rw [vr_outer c N h0 i, arrV_store]
    refine congrArg (arrV c N) (funext fun j => ?_)
    by_cases e : j = i
    · subst e
      simp [updV, va_rf]
    · by_cases h : j < i
      · simp [updV, e, h, Nat.lt_succ_of_lt h]
      · simp [updV, e, h, show ¬ j < i + 1 by omega]
section VGM
variable {p : Program} {l : Launch} {e : Env} {R : Room} {s : State} {m : MethodId} {args : Array Value} {below : List Frame} {meth : Method} {c : Code} {H : Heap} {locs : List Loc} {cells slots : Nat} {Q : State → Prop}
variable {cc : ByteArray} {pc : Nat} {ls : Array Slot} {rest : List Value} {D : va_G} {cl : List vw_C} {A : Nat → Prop} {a : Nat} {tys : List (ClassId × FieldType)} {ws : va_W} {H0 : Heap}
theorem va_mna {X : va_W} {L : List Nat} {f : Nat → va_E} {cc : ByteArray} (hexec : p.tables.exec = Jvm.exec) (hb : c.code = cc) {own : String} {index : Nat} {ty : FieldType} {cy : ClassId} (hown : s.vm.findClass own = some m.cls) (hclink : (Cond.classLink own index ("[" ++ (FieldType.array ty).toString)).before args s = true) (hover : va_AOA ty s) (harr : (Cond.arrayClass ty).before args s = true) (hcy : s.vm.findClass (FieldType.array ty).toString = some cy)
    (hK : va_K D cl tys s) (hP : va_P D cl (X ++ va_pl L f) H) (hD : va_D A (X ++ va_pl L f)) (hS : va_S A H0 H locs) (hA : ∀ q, H0.size ≤ q → A q) {n k : Int32} {N' K' : Nat} {z : vp_A} (hn : ¬ n < 0) (hk : ¬ k < 0) (hN : n.toNatClampNeg = N') (hM : k.toNatClampNeg = K')
    (hb1 : N' * 4 ≤ 536870912) (hb2 : K' * componentBytes ty ≤ 536870912) (hb3 : K' ≤ 536870912) (hdf : fits ty (defaultValue ty) = true) (hdd : (defaultValue ty).isDefault = true) (hcells : cells + (1 + N') ≤ R.cells) (hslots : slots + (N' + N' * K') ≤ R.slots) (hz : ∀ c : ClassId, Jvm.Free.Multi.innerC c K' (defaultValue ty) = vp_cell c z) (hdg : decode cc pc = .ok (.multianewarray index 2, 4))
    (kk : ∀ (q : Nat) (r : Nat → Nat) (cA : ClassId) (H1 : Heap), (∀ i j : Nat, i < N' → j < N' → r i = r j → i = j) → (∀ i : Nat, i < N' → r i ∉ L) → va_K D cl (tys ++ [(cA, .array ty)]) s →
      va_P D cl ((X ++ [(q, .inl (cA, N', .inr (.inr (.inr (.inr (fun i => if i < N' then some (r i) else none))))))]) ++ va_pl (L ++ (List.range N').map r) (vr_up f ((List.range N').map r) (.inl (cy, z)))) H1 → va_D A ((X ++ [(q, .inl (cA, N', .inr (.inr (.inr (.inr (fun i => if i < N' then some (r i) else none))))))]) ++ va_pl (L ++ (List.range N').map r) (vr_up f ((List.range N').map r) (.inl (cy, z)))) → va_S A H0 H1 locs →
      W p l e R s m args below meth c H1 locs (cells + 1 + N') (slots + N' + N' * K') Q (F0 m (pc + 4) ls (.ref q :: rest))) : W p l e R s m args below meth c H locs cells slots Q (F0 m pc ls (.int k :: .int n :: rest)) := by
  subst hN
  subst hM
  intro T hT Xs
  obtain ⟨vm₁, cA, comp, -, fA, fC, hO, -, X', step⟩ := Xs.multianewarray2F hexec hown hclink (va_AOA.use hover) harr (g := F0 m pc ls (.int k :: .int n :: rest)) rfl (by rw [hb]; exact hdg) rfl hn hk hb1 hb2 hb3 hdf hdd hcells hslots
  have ec : some cy = some comp := hcy.symm.trans fC
  cases ec
  generalize hF : Jvm.Free.Multi.fill (T.setVm vm₁) cA cy n.toNatClampNeg k.toNatClampNeg (defaultValue ty) n.toNatClampNeg = F at X' step
  have hTh : (T.setVm vm₁).heap = H := hT
  obtain ⟨f1, f2, -, -⟩ := Jvm.Free.Multi.fill_facts (T.setVm vm₁) cA cy n.toNatClampNeg k.toNatClampNeg (defaultValue ty) n.toNatClampNeg
  rw [hF, hTh] at f1 f2
  have hold : ∀ x : Nat, x < H.size → F.heap[x]? = H[x]? := fun x hx => by
    have := Jvm.Free.Multi.fill_old (T.setVm vm₁) cA cy n.toNatClampNeg k.toNatClampNeg (defaultValue ty) (a := x) (by rw [hTh]; exact hx) n.toNatClampNeg
    rw [hF, hTh] at this
    exact this
  have hrow : ∀ j : Nat, j < n.toNatClampNeg → F.heap[H.size + 1 + j]? = some (vp_cell cy z) := fun j hj => by
    have := Jvm.Free.Multi.fill_inner (T.setVm vm₁) cA cy n.toNatClampNeg k.toNatClampNeg (defaultValue ty) n.toNatClampNeg j hj
    rw [hF, hTh, hz] at this
    exact this
  have hout : Jvm.Free.Multi.outerC cA n.toNatClampNeg H.size n.toNatClampNeg = vp_cell cA (n.toNatClampNeg, .inr (.inr (.inr (.inr (fun i => if i < n.toNatClampNeg then some (H.size + 1 + i) else none))))) := by
    rw [vp_cell_q]
    exact vr_outer cA n.toNatClampNeg H.size n.toNatClampNeg
  rw [hout] at f2
  have hlt : ∀ a, a ∈ L → a < H.size := fun a ha => by
    obtain ⟨k9, hk9⟩ := va_pl_get (X := X) (f := f) ha
    exact (hP k9 _ hk9).lt
  have hnl : ∀ i : Nat, i < n.toNatClampNeg → H.size + 1 + i ∉ L := fun i _ h => by
    have := hlt _ h
    omega
  have hnm : ∀ a, a ∈ (List.range n.toNatClampNeg).map (fun i => H.size + 1 + i) → a ∉ L := fun a ha h => by
    obtain ⟨i, -, rfl⟩ := List.mem_map.mp ha
    have := hlt _ h
    omega
  have hP0 : va_P D cl (X ++ va_pl L f) F.heap := hP.kept (fun k9 x hx => hold x.1 ((hP k9 x hx).lt))
  have hP1 : va_P D cl ((X ++ va_pl L f) ++ [(H.size, .inl (cA, n.toNatClampNeg, .inr (.inr (.inr (.inr (fun i => if i < n.toNatClampNeg then some (H.size + 1 + i) else none))))))]) F.heap := hP0.app (fun k9 x hx => by
    have h0 : k9 < 1 := (List.getElem?_eq_some_iff.mp hx).1
    rw [show k9 = 0 by omega] at hx
    cases hx
    exact f2)
  have hP2 : va_P D cl (((X ++ va_pl L f) ++ [(H.size, .inl (cA, n.toNatClampNeg, .inr (.inr (.inr (.inr (fun i => if i < n.toNatClampNeg then some (H.size + 1 + i) else none))))))]) ++ ((List.range n.toNatClampNeg).map (fun i => H.size + 1 + i)).map (fun a => (a, .inl (cy, z)))) F.heap := hP1.app (fun k9 x hx => by
    obtain ⟨a, ha, rfl⟩ := List.mem_map.mp (List.mem_of_getElem? hx)
    obtain ⟨i, hi, rfl⟩ := List.mem_map.mp ha
    exact hrow i (List.mem_range.mp hi))
  have hD2 : va_D A (((X ++ va_pl L f) ++ [(H.size, .inl (cA, n.toNatClampNeg, .inr (.inr (.inr (.inr (fun i => if i < n.toNatClampNeg then some (H.size + 1 + i) else none))))))]) ++ ((List.range n.toNatClampNeg).map (fun i => H.size + 1 + i)).map (fun a => (a, .inl (cy, z)))) := by
    have hD1 := hD.push (e := .inl (cA, n.toNatClampNeg, .inr (.inr (.inr (.inr (fun i => if i < n.toNatClampNeg then some (H.size + 1 + i) else none)))))) hP rfl (hA _ hS.1)
    generalize hW1 : (X ++ va_pl L f) ++ [(H.size, .inl (cA, n.toNatClampNeg, .inr (.inr (.inr (.inr (fun i => if i < n.toNatClampNeg then some (H.size + 1 + i) else none))))))] = W1 at hD1 hP1 ⊢
    have hle : ∀ (k9 : Nat) (x : Nat × va_E), W1[k9]? = some x → x.1 ≤ H.size := fun k9 x hx => by
      rw [← hW1] at hx
      by_cases hl : k9 < (X ++ va_pl L f).length
      · rw [List.getElem?_append_left hl] at hx
        exact Nat.le_of_lt ((hP k9 x hx).lt)
      · rw [List.getElem?_append_right (by omega)] at hx
        have h0 : k9 - (X ++ va_pl L f).length < 1 := (List.getElem?_eq_some_iff.mp hx).1
        rw [show k9 - (X ++ va_pl L f).length = 0 by omega] at hx
        cases hx
        exact Nat.le_refl _
    have hr : ∀ (k9 : Nat) (x : Nat × va_E), (((List.range n.toNatClampNeg).map (fun i => H.size + 1 + i)).map (fun a => ((a, .inl (cy, z)) : Nat × va_E)))[k9]? = some x → x.1 = H.size + 1 + k9 := fun k9 x hx => by
      rw [List.getElem?_map, List.getElem?_map] at hx
      by_cases h9 : k9 < n.toNatClampNeg
      · rw [List.getElem?_range h9] at hx
        cases hx
        rfl
      · have hn0 : (List.range n.toNatClampNeg)[k9]? = none := List.getElem?_eq_none (by rw [List.length_range]; omega)
        rw [hn0] at hx
        cases hx
    refine ⟨fun i j x y hi hj hxy => ?_, fun k9 x hx => ?_⟩
    · by_cases h1 : i < W1.length <;> by_cases h2 : j < W1.length
      · rw [List.getElem?_append_left h1] at hi
        rw [List.getElem?_append_left h2] at hj
        exact hD1.1 i j x y hi hj hxy
      · rw [List.getElem?_append_left h1] at hi
        rw [List.getElem?_append_right (by omega)] at hj
        have := hle _ _ hi
        have := hr _ _ hj
        omega
      · rw [List.getElem?_append_right (by omega)] at hi
        rw [List.getElem?_append_left h2] at hj
        have := hle _ _ hj
        have := hr _ _ hi
        omega
      · rw [List.getElem?_append_right (by omega)] at hi hj
        have := hr _ _ hi
        have := hr _ _ hj
        omega
    · by_cases h1 : k9 < W1.length
      · rw [List.getElem?_append_left h1] at hx
        exact hD1.2 k9 x hx
      · rw [List.getElem?_append_right (by omega)] at hx
        have := hr _ _ hx
        exact hA _ (by have := hS.1; omega)
  have hAr : ArrOfT s cA (.array ty) := fun N9 z9 => by
    obtain ⟨-, k9, hk9, cm9, hkk9⟩ := (hO 0 0 0).1
    exact ⟨(fun q hq => by cases hq), k9, hk9, cm9, hkk9⟩
  have hK2 : va_K D cl (tys ++ [(cA, .array ty)]) s := ⟨hK.1, fun k9 x hx => by
    by_cases hl : k9 < tys.length
    · rw [List.getElem?_append_left hl] at hx
      exact hK.2 k9 x hx
    · rw [List.getElem?_append_right (by omega)] at hx
      have h0 : k9 - tys.length < 1 := (List.getElem?_eq_some_iff.mp hx).1
      rw [show k9 - tys.length = 0 by omega] at hx
      cases hx
      exact ⟨hAr, fA⟩⟩
  obtain ⟨t, a1, b1⟩ := kk H.size (fun i => H.size + 1 + i) cA F.heap (fun i j _ _ h => by have h9 : H.size + 1 + i = H.size + 1 + j := h; omega) hnl hK2 (by rw [← vr_rows hnm]; exact vr_lay hP2) (by rw [← vr_rows hnm]; exact vr_layD hD2) ⟨by rw [f1]; have := hS.1; omega, fun x h1 h2 => (hold x (Nat.lt_of_lt_of_le h1 hS.1)).trans (hS.2.1 x h1 h2), hS.2.2⟩ F rfl X'
  refine ⟨t, step t ?_, b1⟩
  have e : T.heap.size = H.size := by rw [hT]
  rw [e]
  exact a1
end VGM
/-! ===== END ===== -/

def RX0 : String := "HedgeMaze$Garden"
def TX0 : u_T := fun k => match k with
  | 0 => ("HedgeMaze$Garden", "plan", "LHedgeMaze$Plan;", true)
  | 1 => ("HedgeMaze$Garden", "lines", "I", false)
  | 2 => ("HedgeMaze$Garden", "hedges", "J", false)
  | 3 => ("HedgeMaze$Garden", "walls", "J", false)
  | 4 => ("HedgeMaze$Garden", "isNear", "Z", false)
  | 5 => ("HedgeMaze$Garden", "letterCell", "I", false)
  | 6 => ("HedgeMaze$Garden", "gateCount", "I", false)
  | 7 => ("HedgeMaze$Garden", "gates", "[I", true)
  | 8 => ("HedgeMaze$Garden", "guestCount", "I", false)
  | 9 => ("HedgeMaze$Garden", "guests", "[I", true)
  | 10 => ("HedgeMaze$Garden", "goneCount", "I", false)
  | _ => ("HedgeMaze$Garden", "goneNights", "[I", true)
def tyX0 : Nat → FieldType := fun k => match k with
  | 0 => .object "HedgeMaze$Plan"
  | 1 => .int
  | 2 => .long
  | 3 => .long
  | 4 => .boolean
  | 5 => .int
  | 6 => .int
  | 7 => .array .int
  | 8 => .int
  | 9 => .array .int
  | 10 => .int
  | _ => .array .int
abbrev wsX00 : List Cond := u_ws RX0 TX0 12
theorem nmX0 : ∀ a, a < 12 → ∀ b, b < 12 → a ≠ b → (TX0 a).2.1 ≠ (TX0 b).2.1 := by decide +kernel
theorem tyX0_ok : ∀ k, k < 12 → parseFieldDescriptor (TX0 k).2.2.1 = some (tyX0 k) := by decide +kernel
abbrev cX0_init : ByteArray := prog_2_method_1_code
def yX0_init : MethodName := ⟨RX0, "<init>", "()V"⟩
abbrev cX0_clear : ByteArray := prog_2_method_2_code
def yX0_clear : MethodName := ⟨RX0, "clear", "()V"⟩
abbrev cX0_becomeLike : ByteArray := prog_2_method_3_code
def yX0_becomeLike : MethodName := ⟨RX0, "becomeLike", "(LHedgeMaze$Garden;)V"⟩
abbrev cX0_openSides : ByteArray := prog_2_method_4_code
def yX0_openSides : MethodName := ⟨RX0, "openSides", "()J"⟩
abbrev cX0_openWith : ByteArray := prog_2_method_5_code
def yX0_openWith : MethodName := ⟨RX0, "openWith", "(J)J"⟩
abbrev cX0_gateCells : ByteArray := prog_2_method_6_code
def yX0_gateCells : MethodName := ⟨RX0, "gateCells", "()I"⟩
abbrev cX0_stepsToGate : ByteArray := prog_2_method_7_code
def yX0_stepsToGate : MethodName := ⟨RX0, "stepsToGate", "(IJ)I"⟩
abbrev cX0_hedgesAfter : ByteArray := prog_2_method_8_code
def yX0_hedgesAfter : MethodName := ⟨RX0, "hedgesAfter", "(JJ)J"⟩
abbrev cX0_sidesByLaw : ByteArray := prog_2_method_9_code
def yX0_sidesByLaw : MethodName := ⟨RX0, "sidesByLaw", "(I)J"⟩
abbrev cX0_judge : ByteArray := prog_2_method_10_code
def yX0_judge : MethodName := ⟨RX0, "judge", "(JII)I"⟩
def RX1 : String := "HedgeMaze$Gardeners"
def TX1 : u_T := fun k => match k with
  | 0 => ("HedgeMaze$Gardeners", "opened", "[I", true)
  | 1 => ("HedgeMaze$Gardeners", "lastDrawn", "I", false)
  | 2 => ("HedgeMaze$Gardeners", "lists", "[[I", true)
  | _ => ("HedgeMaze$Gardeners", "parts", "[I", true)
def tyX1 : Nat → FieldType := fun k => match k with
  | 0 => .array .int
  | 1 => .int
  | 2 => .array (.array .int)
  | _ => .array .int
abbrev wsX10 : List Cond := u_ws RX1 TX1 4
theorem nmX1 : ∀ a, a < 4 → ∀ b, b < 4 → a ≠ b → (TX1 a).2.1 ≠ (TX1 b).2.1 := by decide +kernel
theorem tyX1_ok : ∀ k, k < 4 → parseFieldDescriptor (TX1 k).2.2.1 = some (tyX1 k) := by decide +kernel
abbrev cX1_init : ByteArray := prog_3_method_1_code
def yX1_init : MethodName := ⟨RX1, "<init>", "()V"⟩
abbrev cX1_list : ByteArray := prog_3_method_2_code
def yX1_list : MethodName := ⟨RX1, "list", "(LHedgeMaze$Garden;JI)I"⟩
abbrev cX1_listed : ByteArray := prog_3_method_3_code
def yX1_listed : MethodName := ⟨RX1, "listed", "(II)I"⟩
abbrev cX1_mayStand : ByteArray := prog_3_method_4_code
def yX1_mayStand : MethodName := ⟨RX1, "mayStand", "(LHedgeMaze$Garden;JII)I"⟩
abbrev cX1_fewestNights : ByteArray := prog_3_method_5_code
def yX1_fewestNights : MethodName := ⟨RX1, "fewestNights", "(LHedgeMaze$Garden;J)I"⟩
abbrev cX1_comesTo : ByteArray := prog_3_method_6_code
def yX1_comesTo : MethodName := ⟨RX1, "comesTo", "(LHedgeMaze$Garden;JJI)Z"⟩
abbrev cX1_worthwhile : ByteArray := prog_3_method_7_code
def yX1_worthwhile : MethodName := ⟨RX1, "worthwhile", "(LHedgeMaze$Plan;JII)J"⟩
abbrev cX1_heldCells : ByteArray := prog_3_method_8_code
def yX1_heldCells : MethodName := ⟨RX1, "heldCells", "(LHedgeMaze$Garden;JII)I"⟩
abbrev cX1_heldBehindNight : ByteArray := prog_3_method_9_code
def yX1_heldBehindNight : MethodName := ⟨RX1, "heldBehindNight", "(LHedgeMaze$Garden;JII)I"⟩
abbrev cX1_fewestOpenings : ByteArray := prog_3_method_10_code
def yX1_fewestOpenings : MethodName := ⟨RX1, "fewestOpenings", "(LHedgeMaze$Garden;)I"⟩
abbrev cX1_opensAll : ByteArray := prog_3_method_11_code
def yX1_opensAll : MethodName := ⟨RX1, "opensAll", "(LHedgeMaze$Garden;JIII)Z"⟩
abbrev cX1_drawNights : ByteArray := prog_3_method_12_code
def yX1_drawNights : MethodName := ⟨RX1, "drawNights", "(LHedgeMaze$Garden;II)J"⟩
def RX2 : String := "HedgeMaze$Host"
def TX2 : u_T := fun k => match k with
  | 0 => ("HedgeMaze$Host", "best", "[I", true)
  | 1 => ("HedgeMaze$Host", "order", "[I", true)
  | _ => ("HedgeMaze$Host", "stepsFrom", "[[I", true)
def tyX2 : Nat → FieldType := fun k => match k with
  | 0 => .array .int
  | 1 => .array .int
  | _ => .array (.array .int)
abbrev wsX20 : List Cond := u_ws RX2 TX2 3
theorem nmX2 : ∀ a, a < 3 → ∀ b, b < 3 → a ≠ b → (TX2 a).2.1 ≠ (TX2 b).2.1 := by decide +kernel
theorem tyX2_ok : ∀ k, k < 3 → parseFieldDescriptor (TX2 k).2.2.1 = some (tyX2 k) := by decide +kernel
abbrev cX2_init : ByteArray := prog_4_method_1_code
def yX2_init : MethodName := ⟨RX2, "<init>", "()V"⟩
abbrev cX2_measureAll : ByteArray := prog_4_method_2_code
def yX2_measureAll : MethodName := ⟨RX2, "measureAll", "(LHedgeMaze$Garden;)V"⟩
abbrev cX2_mostStepsTo : ByteArray := prog_4_method_3_code
def yX2_mostStepsTo : MethodName := ⟨RX2, "mostStepsTo", "(LHedgeMaze$Garden;I)I"⟩
abbrev cX2_allStepsTo : ByteArray := prog_4_method_4_code
def yX2_allStepsTo : MethodName := ⟨RX2, "allStepsTo", "(LHedgeMaze$Garden;I)I"⟩
abbrev cX2_meetingCell : ByteArray := prog_4_method_5_code
def yX2_meetingCell : MethodName := ⟨RX2, "meetingCell", "(LHedgeMaze$Garden;)I"⟩
abbrev cX2_bestRound : ByteArray := prog_4_method_6_code
def yX2_bestRound : MethodName := ⟨RX2, "bestRound", "(LHedgeMaze$Garden;I)I"⟩
abbrev cX2_stepsOfRound : ByteArray := prog_4_method_7_code
def yX2_stepsOfRound : MethodName := ⟨RX2, "stepsOfRound", "(LHedgeMaze$Garden;I)I"⟩
abbrev cX2_nextOrder : ByteArray := prog_4_method_8_code
def yX2_nextOrder : MethodName := ⟨RX2, "nextOrder", "(I)Z"⟩
abbrev cX2_exchange : ByteArray := prog_4_method_9_code
def yX2_exchange : MethodName := ⟨RX2, "exchange", "(II)V"⟩
def RX3 : String := "HedgeMaze$Plan"
def TX3 : u_T := fun k => match k with
  | 0 => ("HedgeMaze$Plan", "wide", "I", false)
  | 1 => ("HedgeMaze$Plan", "deep", "I", false)
  | 2 => ("HedgeMaze$Plan", "cellCount", "I", false)
  | 3 => ("HedgeMaze$Plan", "sideCount", "I", false)
  | 4 => ("HedgeMaze$Plan", "allSides", "J", false)
  | 5 => ("HedgeMaze$Plan", "first", "[I", true)
  | 6 => ("HedgeMaze$Plan", "other", "[I", true)
  | 7 => ("HedgeMaze$Plan", "bits", "[J", true)
  | _ => ("HedgeMaze$Plan", "around", "[I", true)
def tyX3 : Nat → FieldType := fun k => match k with
  | 0 => .int
  | 1 => .int
  | 2 => .int
  | 3 => .int
  | 4 => .long
  | 5 => .array .int
  | 6 => .array .int
  | 7 => .array .long
  | _ => .array .int
abbrev wsX30 : List Cond := u_ws RX3 TX3 9
theorem nmX3 : ∀ a, a < 9 → ∀ b, b < 9 → a ≠ b → (TX3 a).2.1 ≠ (TX3 b).2.1 := by decide +kernel
theorem tyX3_ok : ∀ k, k < 9 → parseFieldDescriptor (TX3 k).2.2.1 = some (tyX3 k) := by decide +kernel
abbrev cX3_init : ByteArray := prog_5_method_1_code
def yX3_init : MethodName := ⟨RX3, "<init>", "()V"⟩
abbrev cX3_lay : ByteArray := prog_5_method_2_code
def yX3_lay : MethodName := ⟨RX3, "lay", "(II)V"⟩
abbrev cX3_join : ByteArray := prog_5_method_3_code
def yX3_join : MethodName := ⟨RX3, "join", "(IIIJ)V"⟩
abbrev cX3_allCells : ByteArray := prog_5_method_4_code
def yX3_allCells : MethodName := ⟨RX3, "allCells", "()I"⟩
abbrev cX3_bitOf : ByteArray := prog_5_method_5_code
def yX3_bitOf : MethodName := ⟨RX3, "bitOf", "(J)J"⟩
abbrev cX3_has : ByteArray := prog_5_method_6_code
def yX3_has : MethodName := ⟨RX3, "has", "(JI)Z"⟩
abbrev cX3_sideAt : ByteArray := prog_5_method_7_code
def yX3_sideAt : MethodName := ⟨RX3, "sideAt", "(II)I"⟩
abbrev cX3_beyond : ByteArray := prog_5_method_8_code
def yX3_beyond : MethodName := ⟨RX3, "beyond", "(II)I"⟩
abbrev cX3_sidesNear : ByteArray := prog_5_method_9_code
def yX3_sidesNear : MethodName := ⟨RX3, "sidesNear", "(I)J"⟩
abbrev cX3_pick : ByteArray := prog_5_method_10_code
def yX3_pick : MethodName := ⟨RX3, "pick", "(JI)I"⟩
abbrev cX3_grow : ByteArray := prog_5_method_11_code
def yX3_grow : MethodName := ⟨RX3, "grow", "(IJ)I"⟩
abbrev cX3_spread : ByteArray := prog_5_method_12_code
def yX3_spread : MethodName := ⟨RX3, "spread", "(IJI)I"⟩
abbrev cX3_stepsBetween : ByteArray := prog_5_method_13_code
def yX3_stepsBetween : MethodName := ⟨RX3, "stepsBetween", "(IIJ)I"⟩
abbrev cX3_hangsTogether : ByteArray := prog_5_method_14_code
def yX3_hangsTogether : MethodName := ⟨RX3, "hangsTogether", "(J)Z"⟩
abbrev cX3_partBeside : ByteArray := prog_5_method_15_code
def yX3_partBeside : MethodName := ⟨RX3, "partBeside", "(IJ)I"⟩
abbrev cX3_joins : ByteArray := prog_5_method_16_code
def yX3_joins : MethodName := ⟨RX3, "joins", "(II)Z"⟩
abbrev cX3_bridges : ByteArray := prog_5_method_17_code
def yX3_bridges : MethodName := ⟨RX3, "bridges", "(J)J"⟩
abbrev cX3_countDeadEnds : ByteArray := prog_5_method_18_code
def yX3_countDeadEnds : MethodName := ⟨RX3, "countDeadEnds", "(J)I"⟩
abbrev cX3_mostSteps : ByteArray := prog_5_method_19_code
def yX3_mostSteps : MethodName := ⟨RX3, "mostSteps", "(J)I"⟩
abbrev cX3_measure : ByteArray := prog_5_method_20_code
def yX3_measure : MethodName := ⟨RX3, "measure", "(IJ[I)V"⟩
abbrev cX3_nextOnWay : ByteArray := prog_5_method_21_code
def yX3_nextOnWay : MethodName := ⟨RX3, "nextOnWay", "(IJ[I)I"⟩
def RX4 : String := "HedgeMaze$Reader"
def TX4 : u_T := fun k => match k with
  | 0 => ("HedgeMaze$Reader", "draft", "LHedgeMaze$Garden;", true)
  | 1 => ("HedgeMaze$Reader", "faultNumber", "I", false)
  | 2 => ("HedgeMaze$Reader", "faultPlace", "I", false)
  | 3 => ("HedgeMaze$Reader", "tape", "[B", false)
  | 4 => ("HedgeMaze$Reader", "tapeSize", "I", false)
  | 5 => ("HedgeMaze$Reader", "kind", "I", false)
  | 6 => ("HedgeMaze$Reader", "tokenStart", "I", false)
  | 7 => ("HedgeMaze$Reader", "tokenEnd", "I", false)
  | 8 => ("HedgeMaze$Reader", "numberPlace", "I", false)
  | _ => ("HedgeMaze$Reader", "hasLaw", "Z", false)
def tyX4 : Nat → FieldType := fun k => match k with
  | 0 => .object "HedgeMaze$Garden"
  | 1 => .int
  | 2 => .int
  | 3 => .array .byte
  | 4 => .int
  | 5 => .int
  | 6 => .int
  | 7 => .int
  | 8 => .int
  | _ => .boolean
abbrev wsX40 : List Cond := u_ws RX4 TX4 10
theorem nmX4 : ∀ a, a < 10 → ∀ b, b < 10 → a ≠ b → (TX4 a).2.1 ≠ (TX4 b).2.1 := by decide +kernel
theorem tyX4_ok : ∀ k, k < 10 → parseFieldDescriptor (TX4 k).2.2.1 = some (tyX4 k) := by decide +kernel
abbrev cX4_init : ByteArray := prog_6_method_1_code
def yX4_init : MethodName := ⟨RX4, "<init>", "()V"⟩
abbrev cX4_readTape : ByteArray := prog_6_method_2_code
def yX4_readTape : MethodName := ⟨RX4, "readTape", "([BI)V"⟩
abbrev cX4_fail : ByteArray := prog_6_method_3_code
def yX4_fail : MethodName := ⟨RX4, "fail", "(II)V"⟩
abbrev cX4_byteAt : ByteArray := prog_6_method_4_code
def yX4_byteAt : MethodName := ⟨RX4, "byteAt", "(I)I"⟩
abbrev cX4_kindOf : ByteArray := prog_6_method_5_code
def yX4_kindOf : MethodName := ⟨RX4, "kindOf", "(I)I"⟩
abbrev cX4_advance : ByteArray := prog_6_method_6_code
def yX4_advance : MethodName := ⟨RX4, "advance", "()V"⟩
abbrev cX4_numberHere : ByteArray := prog_6_method_7_code
def yX4_numberHere : MethodName := ⟨RX4, "numberHere", "()I"⟩
abbrev cX4_isWord : ByteArray := prog_6_method_8_code
def yX4_isWord : MethodName := ⟨RX4, "isWord", "(Ljava/lang/String;)Z"⟩
abbrev cX4_takeWord : ByteArray := prog_6_method_9_code
def yX4_takeWord : MethodName := ⟨RX4, "takeWord", "(Ljava/lang/String;)V"⟩
abbrev cX4_takeNumber : ByteArray := prog_6_method_10_code
def yX4_takeNumber : MethodName := ⟨RX4, "takeNumber", "(II)I"⟩
abbrev cX4_readLine : ByteArray := prog_6_method_11_code
def yX4_readLine : MethodName := ⟨RX4, "readLine", "()V"⟩
abbrev cX4_readLengths : ByteArray := prog_6_method_12_code
def yX4_readLengths : MethodName := ⟨RX4, "readLengths", "()V"⟩
abbrev cX4_takeHead : ByteArray := prog_6_method_13_code
def yX4_takeHead : MethodName := ⟨RX4, "takeHead", "(ZI)V"⟩
abbrev cX4_takeCell : ByteArray := prog_6_method_14_code
def yX4_takeCell : MethodName := ⟨RX4, "takeCell", "()I"⟩
abbrev cX4_readTub : ByteArray := prog_6_method_15_code
def yX4_readTub : MethodName := ⟨RX4, "readTub", "(ZZ)V"⟩
abbrev cX4_readGate : ByteArray := prog_6_method_16_code
def yX4_readGate : MethodName := ⟨RX4, "readGate", "()V"⟩
abbrev cX4_readGuest : ByteArray := prog_6_method_17_code
def yX4_readGuest : MethodName := ⟨RX4, "readGuest", "()V"⟩
abbrev cX4_readLetter : ByteArray := prog_6_method_18_code
def yX4_readLetter : MethodName := ⟨RX4, "readLetter", "()V"⟩
abbrev cX4_readLaw : ByteArray := prog_6_method_19_code
def yX4_readLaw : MethodName := ⟨RX4, "readLaw", "()V"⟩
def RX5 : String := "HedgeMaze$Row"
def TX5 : u_T := fun k => match k with
  | 0 => ("HedgeMaze$Row", "there", "Z", false)
  | 1 => ("HedgeMaze$Row", "width", "I", false)
  | 2 => ("HedgeMaze$Row", "size", "I", false)
  | _ => ("HedgeMaze$Row", "numbers", "[J", true)
def tyX5 : Nat → FieldType := fun k => match k with
  | 0 => .boolean
  | 1 => .int
  | 2 => .int
  | _ => .array .long
abbrev wsX50 : List Cond := u_ws RX5 TX5 4
theorem nmX5 : ∀ a, a < 4 → ∀ b, b < 4 → a ≠ b → (TX5 a).2.1 ≠ (TX5 b).2.1 := by decide +kernel
theorem tyX5_ok : ∀ k, k < 4 → parseFieldDescriptor (TX5 k).2.2.1 = some (tyX5 k) := by decide +kernel
abbrev cX5_init : ByteArray := prog_7_method_1_code
def yX5_init : MethodName := ⟨RX5, "<init>", "()V"⟩
abbrev cX5_begin : ByteArray := prog_7_method_2_code
def yX5_begin : MethodName := ⟨RX5, "begin", "(II)V"⟩
abbrev cX5_cut : ByteArray := prog_7_method_3_code
def yX5_cut : MethodName := ⟨RX5, "cut", "(J)J"⟩
abbrev cX5_holds : ByteArray := prog_7_method_4_code
def yX5_holds : MethodName := ⟨RX5, "holds", "(II)Z"⟩
def RX6 : String := "HedgeMaze"
def TX6 : u_T := fun k => match k with
  | 0 => ("HedgeMaze", "tape", "[B", true)
  | 1 => ("HedgeMaze", "tapeSize", "I", false)
  | 2 => ("HedgeMaze", "faultNumber", "I", false)
  | 3 => ("HedgeMaze", "faultPlace", "I", false)
  | 4 => ("HedgeMaze", "reader", "LHedgeMaze$Reader;", true)
  | 5 => ("HedgeMaze", "garden", "LHedgeMaze$Garden;", true)
  | 6 => ("HedgeMaze", "images", "[LHedgeMaze$Garden;", true)
  | 7 => ("HedgeMaze", "rows", "[LHedgeMaze$Row;", true)
  | 8 => ("HedgeMaze", "gardeners", "LHedgeMaze$Gardeners;", true)
  | 9 => ("HedgeMaze", "host", "LHedgeMaze$Host;", true)
  | _ => ("HedgeMaze", "stepsThere", "[I", true)
def tyX6 : Nat → FieldType := fun k => match k with
  | 0 => .array .byte
  | 1 => .int
  | 2 => .int
  | 3 => .int
  | 4 => .object "HedgeMaze$Reader"
  | 5 => .object "HedgeMaze$Garden"
  | 6 => .array (.object "HedgeMaze$Garden")
  | 7 => .array (.object "HedgeMaze$Row")
  | 8 => .object "HedgeMaze$Gardeners"
  | 9 => .object "HedgeMaze$Host"
  | _ => .array .int
abbrev wsX60 : List Cond := u_ws RX6 TX6 11
theorem nmX6 : ∀ a, a < 11 → ∀ b, b < 11 → a ≠ b → (TX6 a).2.1 ≠ (TX6 b).2.1 := by decide +kernel
theorem tyX6_ok : ∀ k, k < 11 → parseFieldDescriptor (TX6 k).2.2.1 = some (tyX6 k) := by decide +kernel
abbrev cX6_init : ByteArray := prog_1_method_1_code
def yX6_init : MethodName := ⟨RX6, "<init>", "()V"⟩
abbrev cX6_feed : ByteArray := prog_1_method_2_code
def yX6_feed : MethodName := ⟨RX6, "feed", "(IIIII)I"⟩
abbrev cX6_putBytes : ByteArray := prog_1_method_3_code
def yX6_putBytes : MethodName := ⟨RX6, "putBytes", "(I)V"⟩
abbrev cX6_end : ByteArray := prog_1_method_4_code
def yX6_end : MethodName := ⟨RX6, "end", "(I)I"⟩
abbrev cX6_maze : ByteArray := prog_1_method_5_code
def yX6_maze : MethodName := ⟨RX6, "maze", "()I"⟩
abbrev cX6_fault : ByteArray := prog_1_method_6_code
def yX6_fault : MethodName := ⟨RX6, "fault", "(I)I"⟩
abbrev cX6_sides : ByteArray := prog_1_method_7_code
def yX6_sides : MethodName := ⟨RX6, "sides", "()I"⟩
abbrev cX6_side : ByteArray := prog_1_method_8_code
def yX6_side : MethodName := ⟨RX6, "side", "(II)I"⟩
abbrev cX6_what : ByteArray := prog_1_method_9_code
def yX6_what : MethodName := ⟨RX6, "what", "(II)I"⟩
abbrev cX6_far : ByteArray := prog_1_method_10_code
def yX6_far : MethodName := ⟨RX6, "far", "(II)I"⟩
abbrev cX6_way : ByteArray := prog_1_method_11_code
def yX6_way : MethodName := ⟨RX6, "way", "(III)I"⟩
abbrev cX6_stepOn : ByteArray := prog_1_method_12_code
def yX6_stepOn : MethodName := ⟨RX6, "stepOn", "(I)I"⟩
abbrev cX6_gate : ByteArray := prog_1_method_13_code
def yX6_gate : MethodName := ⟨RX6, "gate", "(I)I"⟩
abbrev cX6_within : ByteArray := prog_1_method_14_code
def yX6_within : MethodName := ⟨RX6, "within", "(II)I"⟩
abbrev cX6_shape : ByteArray := prog_1_method_15_code
def yX6_shape : MethodName := ⟨RX6, "shape", "(I)I"⟩
abbrev cX6_bridge : ByteArray := prog_1_method_16_code
def yX6_bridge : MethodName := ⟨RX6, "bridge", "(I)I"⟩
abbrev cX6_lawful : ByteArray := prog_1_method_17_code
def yX6_lawful : MethodName := ⟨RX6, "lawful", "(II)I"⟩
abbrev cX6_many : ByteArray := prog_1_method_18_code
def yX6_many : MethodName := ⟨RX6, "many", "()I"⟩
abbrev cX6_nth : ByteArray := prog_1_method_19_code
def yX6_nth : MethodName := ⟨RX6, "nth", "(I)I"⟩
abbrev cX6_night : ByteArray := prog_1_method_20_code
def yX6_night : MethodName := ⟨RX6, "night", "(II)I"⟩
abbrev cX6_dawn : ByteArray := prog_1_method_21_code
def yX6_dawn : MethodName := ⟨RX6, "dawn", "()I"⟩
abbrev cX6_gone : ByteArray := prog_1_method_22_code
def yX6_gone : MethodName := ⟨RX6, "gone", "(I)I"⟩
abbrev cX6_may : ByteArray := prog_1_method_23_code
def yX6_may : MethodName := ⟨RX6, "may", "(II)I"⟩
abbrev cX6_nights : ByteArray := prog_1_method_24_code
def yX6_nights : MethodName := ⟨RX6, "nights", "(I)I"⟩
abbrev cX6_out : ByteArray := prog_1_method_25_code
def yX6_out : MethodName := ⟨RX6, "out", "(III)I"⟩
abbrev cX6_areLawful : ByteArray := prog_1_method_26_code
def yX6_areLawful : MethodName := ⟨RX6, "areLawful", "(LHedgeMaze$Row;)Z"⟩
abbrev cX6_held : ByteArray := prog_1_method_27_code
def yX6_held : MethodName := ⟨RX6, "held", "(III)I"⟩
abbrev cX6_hold : ByteArray := prog_1_method_28_code
def yX6_hold : MethodName := ⟨RX6, "hold", "(II)I"⟩
abbrev cX6_areDays : ByteArray := prog_1_method_29_code
def yX6_areDays : MethodName := ⟨RX6, "areDays", "(II)Z"⟩
abbrev cX6_worst : ByteArray := prog_1_method_30_code
def yX6_worst : MethodName := ⟨RX6, "worst", "(I)I"⟩
abbrev cX6_guest : ByteArray := prog_1_method_31_code
def yX6_guest : MethodName := ⟨RX6, "guest", "(I)I"⟩
abbrev cX6_meet : ByteArray := prog_1_method_32_code
def yX6_meet : MethodName := ⟨RX6, "meet", "(I)I"⟩
abbrev cX6_tea : ByteArray := prog_1_method_33_code
def yX6_tea : MethodName := ⟨RX6, "tea", "(I)I"⟩
abbrev cX6_served : ByteArray := prog_1_method_34_code
def yX6_served : MethodName := ⟨RX6, "served", "(II)I"⟩
abbrev cX6_letter : ByteArray := prog_1_method_35_code
def yX6_letter : MethodName := ⟨RX6, "letter", "(I)I"⟩
abbrev cX6_stepsToLetter : ByteArray := prog_1_method_36_code
def yX6_stepsToLetter : MethodName := ⟨RX6, "stepsToLetter", "(I)I"⟩
abbrev cX6_goes : ByteArray := prog_1_method_37_code
def yX6_goes : MethodName := ⟨RX6, "goes", "(II)I"⟩
abbrev cX6_walk : ByteArray := prog_1_method_38_code
def yX6_walk : MethodName := ⟨RX6, "walk", "(II)I"⟩
abbrev cX6_ends : ByteArray := prog_1_method_39_code
def yX6_ends : MethodName := ⟨RX6, "ends", "(II)I"⟩
abbrev cX6_odd : ByteArray := prog_1_method_40_code
def yX6_odd : MethodName := ⟨RX6, "odd", "(IIIII)I"⟩
abbrev cX6_refusalOfWalk : ByteArray := prog_1_method_41_code
def yX6_refusalOfWalk : MethodName := ⟨RX6, "refusalOfWalk", "(II)I"⟩
abbrev cX6_follow : ByteArray := prog_1_method_42_code
def yX6_follow : MethodName := ⟨RX6, "follow", "(LHedgeMaze$Row;IZ)I"⟩
abbrev cX6_toldSides : ByteArray := prog_1_method_43_code
def yX6_toldSides : MethodName := ⟨RX6, "toldSides", "(LHedgeMaze$Row;IZ)J"⟩
abbrev cX6_openings : ByteArray := prog_1_method_44_code
def yX6_openings : MethodName := ⟨RX6, "openings", "(I)I"⟩
abbrev cX6_drawn : ByteArray := prog_1_method_45_code
def yX6_drawn : MethodName := ⟨RX6, "drawn", "(III)I"⟩
abbrev cX6_lastly : ByteArray := prog_1_method_46_code
def yX6_lastly : MethodName := ⟨RX6, "lastly", "(II)I"⟩
abbrev cX6_areDraws : ByteArray := prog_1_method_47_code
def yX6_areDraws : MethodName := ⟨RX6, "areDraws", "(II)Z"⟩
abbrev cX6_count : ByteArray := prog_1_method_48_code
def yX6_count : MethodName := ⟨RX6, "count", "(I)I"⟩
abbrev cX6_countRows : ByteArray := prog_1_method_49_code
def yX6_countRows : MethodName := ⟨RX6, "countRows", "()I"⟩
abbrev cX6_keep : ByteArray := prog_1_method_50_code
def yX6_keep : MethodName := ⟨RX6, "keep", "(I)I"⟩
abbrev cX6_back : ByteArray := prog_1_method_51_code
def yX6_back : MethodName := ⟨RX6, "back", "(I)I"⟩
abbrev cX6_row : ByteArray := prog_1_method_52_code
def yX6_row : MethodName := ⟨RX6, "row", "(III)I"⟩
abbrev cX6_write : ByteArray := prog_1_method_53_code
def yX6_write : MethodName := ⟨RX6, "write", "(IIJ)I"⟩
abbrev cX6_paste : ByteArray := prog_1_method_54_code
def yX6_paste : MethodName := ⟨RX6, "paste", "(IIIII)I"⟩
abbrev cX6_hasMaze : ByteArray := prog_1_method_55_code
def yX6_hasMaze : MethodName := ⟨RX6, "hasMaze", "()Z"⟩
abbrev cX6_isCell : ByteArray := prog_1_method_56_code
def yX6_isCell : MethodName := ⟨RX6, "isCell", "(I)Z"⟩
abbrev cX6_isSide : ByteArray := prog_1_method_57_code
def yX6_isSide : MethodName := ⟨RX6, "isSide", "(J)Z"⟩
abbrev cX6_isGuest : ByteArray := prog_1_method_58_code
def yX6_isGuest : MethodName := ⟨RX6, "isGuest", "(I)Z"⟩
abbrev cX6_isSlot : ByteArray := prog_1_method_59_code
def yX6_isSlot : MethodName := ⟨RX6, "isSlot", "(I)Z"⟩
def RX7 : String := "HedgeMazeModel"
def TX7 : u_T := fun k => match k with
  | 0 => ("HedgeMazeModel", "thrown", "I", false)
  | 1 => ("HedgeMazeModel", "width", "[I", true)
  | 2 => ("HedgeMazeModel", "many", "[I", true)
  | 3 => ("HedgeMazeModel", "cells", "[J", true)
  | 4 => ("HedgeMazeModel", "moved", "[J", true)
  | 5 => ("HedgeMazeModel", "tape", "[B", true)
  | 6 => ("HedgeMazeModel", "taped", "I", false)
  | 7 => ("HedgeMazeModel", "at", "I", false)
  | 8 => ("HedgeMazeModel", "token", "I", false)
  | 9 => ("HedgeMazeModel", "place", "I", false)
  | 10 => ("HedgeMazeModel", "value", "I", false)
  | 11 => ("HedgeMazeModel", "word", "J", false)
  | 12 => ("HedgeMazeModel", "bad", "I", false)
  | 13 => ("HedgeMazeModel", "badPlace", "I", false)
  | 14 => ("HedgeMazeModel", "fault", "I", false)
  | 15 => ("HedgeMazeModel", "faultPlace", "I", false)
  | 16 => ("HedgeMazeModel", "lines", "[I", true)
  | 17 => ("HedgeMazeModel", "has", "[I", true)
  | 18 => ("HedgeMazeModel", "state", "[I", true)
  | 19 => ("HedgeMazeModel", "gate", "[I", true)
  | 20 => ("HedgeMazeModel", "guest", "[I", true)
  | 21 => ("HedgeMazeModel", "gone", "[I", true)
  | 22 => ("HedgeMazeModel", "isLawTold", "Z", false)
  | 23 => ("HedgeMazeModel", "isKept", "[Z", true)
  | 24 => ("HedgeMazeModel", "first", "[I", true)
  | 25 => ("HedgeMazeModel", "second", "[I", true)
  | 26 => ("HedgeMazeModel", "sides", "I", false)
  | 27 => ("HedgeMazeModel", "far", "[I", true)
  | 28 => ("HedgeMazeModel", "wished", "[Z", true)
  | 29 => ("HedgeMazeModel", "wasState", "[I", true)
  | 30 => ("HedgeMazeModel", "isHere", "[Z", true)
  | 31 => ("HedgeMazeModel", "round", "[I", true)
  | 32 => ("HedgeMazeModel", "bestRound", "[I", true)
  | 33 => ("HedgeMazeModel", "leastRound", "I", false)
  | 34 => ("HedgeMazeModel", "stands", "I", false)
  | 35 => ("HedgeMazeModel", "openBy", "J", false)
  | 36 => ("HedgeMazeModel", "shutBy", "J", false)
  | 37 => ("HedgeMazeModel", "taken", "[I", true)
  | _ => ("HedgeMazeModel", "lastNight", "I", false)
def tyX7 : Nat → FieldType := fun k => match k with
  | 0 => .int
  | 1 => .array .int
  | 2 => .array .int
  | 3 => .array .long
  | 4 => .array .long
  | 5 => .array .byte
  | 6 => .int
  | 7 => .int
  | 8 => .int
  | 9 => .int
  | 10 => .int
  | 11 => .long
  | 12 => .int
  | 13 => .int
  | 14 => .int
  | 15 => .int
  | 16 => .array .int
  | 17 => .array .int
  | 18 => .array .int
  | 19 => .array .int
  | 20 => .array .int
  | 21 => .array .int
  | 22 => .boolean
  | 23 => .array .boolean
  | 24 => .array .int
  | 25 => .array .int
  | 26 => .int
  | 27 => .array .int
  | 28 => .array .boolean
  | 29 => .array .int
  | 30 => .array .boolean
  | 31 => .array .int
  | 32 => .array .int
  | 33 => .int
  | 34 => .int
  | 35 => .long
  | 36 => .long
  | 37 => .array .int
  | _ => .int
abbrev wsX70 : List Cond := u_ws RX7 TX7 39
theorem nmX7 : ∀ a, a < 39 → ∀ b, b < 39 → a ≠ b → (TX7 a).2.1 ≠ (TX7 b).2.1 := by decide +kernel
theorem tyX7_ok : ∀ k, k < 39 → parseFieldDescriptor (TX7 k).2.2.1 = some (tyX7 k) := by decide +kernel
abbrev cX7_init : ByteArray := prog_9_method_1_code
def yX7_init : MethodName := ⟨RX7, "<init>", "()V"⟩
abbrev cX7_in : ByteArray := prog_9_method_3_code
def yX7_in : MethodName := ⟨RX7, "in", "(JJJ)Z"⟩
abbrev cX7_isSlot : ByteArray := prog_9_method_4_code
def yX7_isSlot : MethodName := ⟨RX7, "isSlot", "(I)Z"⟩
abbrev cX7_row : ByteArray := prog_9_method_5_code
def yX7_row : MethodName := ⟨RX7, "row", "(III)I"⟩
abbrev cX7_cut : ByteArray := prog_9_method_6_code
def yX7_cut : MethodName := ⟨RX7, "cut", "(JI)J"⟩
abbrev cX7_write : ByteArray := prog_9_method_7_code
def yX7_write : MethodName := ⟨RX7, "write", "(IIJ)I"⟩
abbrev cX7_paste : ByteArray := prog_9_method_8_code
def yX7_paste : MethodName := ⟨RX7, "paste", "(IIIII)I"⟩
abbrev cX7_feed : ByteArray := prog_9_method_9_code
def yX7_feed : MethodName := ⟨RX7, "feed", "(IIIII)I"⟩
abbrev cX7_four : ByteArray := prog_9_method_10_code
def yX7_four : MethodName := ⟨RX7, "four", "(I)V"⟩
abbrev cX7_end : ByteArray := prog_9_method_11_code
def yX7_end : MethodName := ⟨RX7, "end", "(I)I"⟩
abbrev cX7_isByte : ByteArray := prog_9_method_12_code
def yX7_isByte : MethodName := ⟨RX7, "isByte", "(III)Z"⟩
abbrev cX7_next : ByteArray := prog_9_method_13_code
def yX7_next : MethodName := ⟨RX7, "next", "()V"⟩
abbrev cX7_isGood : ByteArray := prog_9_method_14_code
def yX7_isGood : MethodName := ⟨RX7, "isGood", "()Z"⟩
abbrev cX7_fails : ByteArray := prog_9_method_15_code
def yX7_fails : MethodName := ⟨RX7, "fails", "(I)V"⟩
abbrev cX7_is : ByteArray := prog_9_method_16_code
def yX7_is : MethodName := ⟨RX7, "is", "(J)Z"⟩
abbrev cX7_takes : ByteArray := prog_9_method_17_code
def yX7_takes : MethodName := ⟨RX7, "takes", "(J)Z"⟩
abbrev cX7_asks : ByteArray := prog_9_method_18_code
def yX7_asks : MethodName := ⟨RX7, "asks", "(J)V"⟩
abbrev cX7_number : ByteArray := prog_9_method_19_code
def yX7_number : MethodName := ⟨RX7, "number", "(II)I"⟩
abbrev cX7_number_ : ByteArray := prog_9_method_20_code
def yX7_number_ : MethodName := ⟨RX7, "number", "(JII)I"⟩
abbrev cX7_ends : ByteArray := prog_9_method_21_code
def yX7_ends : MethodName := ⟨RX7, "ends", "()V"⟩
abbrev cX7_begins : ByteArray := prog_9_method_22_code
def yX7_begins : MethodName := ⟨RX7, "begins", "()V"⟩
abbrev cX7_isOver : ByteArray := prog_9_method_23_code
def yX7_isOver : MethodName := ⟨RX7, "isOver", "()V"⟩
abbrev cX7_fault : ByteArray := prog_9_method_24_code
def yX7_fault : MethodName := ⟨RX7, "fault", "(I)I"⟩
abbrev cX7_hasRead : ByteArray := prog_9_method_25_code
def yX7_hasRead : MethodName := ⟨RX7, "hasRead", "(I)I"⟩
abbrev cX7_laysSides : ByteArray := prog_9_method_26_code
def yX7_laysSides : MethodName := ⟨RX7, "laysSides", "(I)V"⟩
abbrev cX7_adds : ByteArray := prog_9_method_27_code
def yX7_adds : MethodName := ⟨RX7, "adds", "(II)V"⟩
abbrev cX7_sideOf : ByteArray := prog_9_method_28_code
def yX7_sideOf : MethodName := ⟨RX7, "sideOf", "(II)I"⟩
abbrev cX7_cellTold : ByteArray := prog_9_method_29_code
def yX7_cellTold : MethodName := ⟨RX7, "cellTold", "()I"⟩
abbrev cX7_sideLine : ByteArray := prog_9_method_30_code
def yX7_sideLine : MethodName := ⟨RX7, "sideLine", "(Z)V"⟩
abbrev cX7_isGateTold : ByteArray := prog_9_method_31_code
def yX7_isGateTold : MethodName := ⟨RX7, "isGateTold", "(I)Z"⟩
abbrev cX7_gateLine : ByteArray := prog_9_method_32_code
def yX7_gateLine : MethodName := ⟨RX7, "gateLine", "()V"⟩
abbrev cX7_wholeCell : ByteArray := prog_9_method_33_code
def yX7_wholeCell : MethodName := ⟨RX7, "wholeCell", "()I"⟩
abbrev cX7_line : ByteArray := prog_9_method_34_code
def yX7_line : MethodName := ⟨RX7, "line", "()V"⟩
abbrev cX7_clears : ByteArray := prog_9_method_35_code
def yX7_clears : MethodName := ⟨RX7, "clears", "()V"⟩
abbrev cX7_maze : ByteArray := prog_9_method_36_code
def yX7_maze : MethodName := ⟨RX7, "maze", "()I"⟩
abbrev cX7_copyRow : ByteArray := prog_9_method_37_code
def yX7_copyRow : MethodName := ⟨RX7, "copyRow", "([IIII)V"⟩
abbrev cX7_copyMaze : ByteArray := prog_9_method_38_code
def yX7_copyMaze : MethodName := ⟨RX7, "copyMaze", "(II)V"⟩
abbrev cX7_isMaze : ByteArray := prog_9_method_39_code
def yX7_isMaze : MethodName := ⟨RX7, "isMaze", "()Z"⟩
abbrev cX7_cellMany : ByteArray := prog_9_method_40_code
def yX7_cellMany : MethodName := ⟨RX7, "cellMany", "()I"⟩
abbrev cX7_isCell : ByteArray := prog_9_method_41_code
def yX7_isCell : MethodName := ⟨RX7, "isCell", "(I)Z"⟩
abbrev cX7_isSide : ByteArray := prog_9_method_42_code
def yX7_isSide : MethodName := ⟨RX7, "isSide", "(J)Z"⟩
abbrev cX7_isOpen : ByteArray := prog_9_method_43_code
def yX7_isOpen : MethodName := ⟨RX7, "isOpen", "(I)Z"⟩
abbrev cX7_beside : ByteArray := prog_9_method_44_code
def yX7_beside : MethodName := ⟨RX7, "beside", "(II)I"⟩
abbrev cX7_sideAt : ByteArray := prog_9_method_45_code
def yX7_sideAt : MethodName := ⟨RX7, "sideAt", "(II)I"⟩
abbrev cX7_spreads : ByteArray := prog_9_method_46_code
def yX7_spreads : MethodName := ⟨RX7, "spreads", "(I)V"⟩
abbrev cX7_nears : ByteArray := prog_9_method_47_code
def yX7_nears : MethodName := ⟨RX7, "nears", "(II)Z"⟩
abbrev cX7_laysFar : ByteArray := prog_9_method_48_code
def yX7_laysFar : MethodName := ⟨RX7, "laysFar", "(I)V"⟩
abbrev cX7_laysGates : ByteArray := prog_9_method_49_code
def yX7_laysGates : MethodName := ⟨RX7, "laysGates", "()V"⟩
abbrev cX7_isWhole : ByteArray := prog_9_method_50_code
def yX7_isWhole : MethodName := ⟨RX7, "isWhole", "(I)Z"⟩
abbrev cX7_sides : ByteArray := prog_9_method_51_code
def yX7_sides : MethodName := ⟨RX7, "sides", "()I"⟩
abbrev cX7_side : ByteArray := prog_9_method_52_code
def yX7_side : MethodName := ⟨RX7, "side", "(II)I"⟩
abbrev cX7_what : ByteArray := prog_9_method_53_code
def yX7_what : MethodName := ⟨RX7, "what", "(II)I"⟩
abbrev cX7_far : ByteArray := prog_9_method_54_code
def yX7_far : MethodName := ⟨RX7, "far", "(II)I"⟩
abbrev cX7_steps : ByteArray := prog_9_method_55_code
def yX7_steps : MethodName := ⟨RX7, "steps", "(I)I"⟩
abbrev cX7_way : ByteArray := prog_9_method_56_code
def yX7_way : MethodName := ⟨RX7, "way", "(III)I"⟩
abbrev cX7_gate : ByteArray := prog_9_method_57_code
def yX7_gate : MethodName := ⟨RX7, "gate", "(I)I"⟩
abbrev cX7_within : ByteArray := prog_9_method_58_code
def yX7_within : MethodName := ⟨RX7, "within", "(II)I"⟩
abbrev cX7_opens : ByteArray := prog_9_method_59_code
def yX7_opens : MethodName := ⟨RX7, "opens", "()I"⟩
abbrev cX7_opensOf : ByteArray := prog_9_method_60_code
def yX7_opensOf : MethodName := ⟨RX7, "opensOf", "(I)I"⟩
abbrev cX7_shape : ByteArray := prog_9_method_61_code
def yX7_shape : MethodName := ⟨RX7, "shape", "(I)I"⟩
abbrev cX7_isBridge : ByteArray := prog_9_method_62_code
def yX7_isBridge : MethodName := ⟨RX7, "isBridge", "(I)Z"⟩
abbrev cX7_bridge : ByteArray := prog_9_method_63_code
def yX7_bridge : MethodName := ⟨RX7, "bridge", "(I)I"⟩
abbrev cX7_isNear : ByteArray := prog_9_method_64_code
def yX7_isNear : MethodName := ⟨RX7, "isNear", "(II)Z"⟩
abbrev cX7_moves : ByteArray := prog_9_method_65_code
def yX7_moves : MethodName := ⟨RX7, "moves", "(II)V"⟩
abbrev cX7_why : ByteArray := prog_9_method_66_code
def yX7_why : MethodName := ⟨RX7, "why", "(II)I"⟩
abbrev cX7_lawful : ByteArray := prog_9_method_67_code
def yX7_lawful : MethodName := ⟨RX7, "lawful", "(II)I"⟩
abbrev cX7_nthOf : ByteArray := prog_9_method_68_code
def yX7_nthOf : MethodName := ⟨RX7, "nthOf", "(I)I"⟩
abbrev cX7_many : ByteArray := prog_9_method_69_code
def yX7_many : MethodName := ⟨RX7, "many", "()I"⟩
abbrev cX7_nth : ByteArray := prog_9_method_70_code
def yX7_nth : MethodName := ⟨RX7, "nth", "(I)I"⟩
abbrev cX7_night : ByteArray := prog_9_method_71_code
def yX7_night : MethodName := ⟨RX7, "night", "(II)I"⟩
abbrev cX7_dawn : ByteArray := prog_9_method_72_code
def yX7_dawn : MethodName := ⟨RX7, "dawn", "()I"⟩
abbrev cX7_gone : ByteArray := prog_9_method_73_code
def yX7_gone : MethodName := ⟨RX7, "gone", "(I)I"⟩
abbrev cX7_mayBe : ByteArray := prog_9_method_74_code
def yX7_mayBe : MethodName := ⟨RX7, "mayBe", "(II)I"⟩
abbrev cX7_may : ByteArray := prog_9_method_75_code
def yX7_may : MethodName := ⟨RX7, "may", "(II)I"⟩
abbrev cX7_wrong : ByteArray := prog_9_method_76_code
def yX7_wrong : MethodName := ⟨RX7, "wrong", "()I"⟩
abbrev cX7_comesBy : ByteArray := prog_9_method_77_code
def yX7_comesBy : MethodName := ⟨RX7, "comesBy", "(I)Z"⟩
abbrev cX7_whyNotSlot : ByteArray := prog_9_method_78_code
def yX7_whyNotSlot : MethodName := ⟨RX7, "whyNotSlot", "(I)I"⟩
abbrev cX7_nights : ByteArray := prog_9_method_79_code
def yX7_nights : MethodName := ⟨RX7, "nights", "(I)I"⟩
abbrev cX7_keeps : ByteArray := prog_9_method_80_code
def yX7_keeps : MethodName := ⟨RX7, "keeps", "()V"⟩
abbrev cX7_givesBack : ByteArray := prog_9_method_81_code
def yX7_givesBack : MethodName := ⟨RX7, "givesBack", "()V"⟩
abbrev cX7_does : ByteArray := prog_9_method_82_code
def yX7_does : MethodName := ⟨RX7, "does", "(J)Z"⟩
abbrev cX7_goesOn : ByteArray := prog_9_method_83_code
def yX7_goesOn : MethodName := ⟨RX7, "goesOn", "(I)V"⟩
abbrev cX7_isOut : ByteArray := prog_9_method_84_code
def yX7_isOut : MethodName := ⟨RX7, "isOut", "()Z"⟩
abbrev cX7_out : ByteArray := prog_9_method_85_code
def yX7_out : MethodName := ⟨RX7, "out", "(III)I"⟩
abbrev cX7_heldOne : ByteArray := prog_9_method_86_code
def yX7_heldOne : MethodName := ⟨RX7, "heldOne", "(I)I"⟩
abbrev cX7_reachOf : ByteArray := prog_9_method_87_code
def yX7_reachOf : MethodName := ⟨RX7, "reachOf", "(II)I"⟩
abbrev cX7_heldFor : ByteArray := prog_9_method_88_code
def yX7_heldFor : MethodName := ⟨RX7, "heldFor", "(II)I"⟩
abbrev cX7_thenHeld : ByteArray := prog_9_method_89_code
def yX7_thenHeld : MethodName := ⟨RX7, "thenHeld", "(II)I"⟩
abbrev cX7_isHold : ByteArray := prog_9_method_90_code
def yX7_isHold : MethodName := ⟨RX7, "isHold", "(II)Z"⟩
abbrev cX7_held : ByteArray := prog_9_method_91_code
def yX7_held : MethodName := ⟨RX7, "held", "(III)I"⟩
abbrev cX7_hold : ByteArray := prog_9_method_92_code
def yX7_hold : MethodName := ⟨RX7, "hold", "(II)I"⟩
abbrev cX7_worst : ByteArray := prog_9_method_93_code
def yX7_worst : MethodName := ⟨RX7, "worst", "(I)I"⟩
abbrev cX7_guest : ByteArray := prog_9_method_94_code
def yX7_guest : MethodName := ⟨RX7, "guest", "(I)I"⟩
abbrev cX7_goes : ByteArray := prog_9_method_95_code
def yX7_goes : MethodName := ⟨RX7, "goes", "(II)I"⟩
abbrev cX7_meet : ByteArray := prog_9_method_96_code
def yX7_meet : MethodName := ⟨RX7, "meet", "(I)I"⟩
abbrev cX7_rounds : ByteArray := prog_9_method_97_code
def yX7_rounds : MethodName := ⟨RX7, "rounds", "(IIIII)V"⟩
abbrev cX7_tea : ByteArray := prog_9_method_98_code
def yX7_tea : MethodName := ⟨RX7, "tea", "(I)I"⟩
abbrev cX7_served : ByteArray := prog_9_method_99_code
def yX7_served : MethodName := ⟨RX7, "served", "(II)I"⟩
abbrev cX7_passes : ByteArray := prog_9_method_100_code
def yX7_passes : MethodName := ⟨RX7, "passes", "(II)I"⟩
abbrev cX7_letter : ByteArray := prog_9_method_101_code
def yX7_letter : MethodName := ⟨RX7, "letter", "(I)I"⟩
abbrev cX7_whyNotWalk : ByteArray := prog_9_method_102_code
def yX7_whyNotWalk : MethodName := ⟨RX7, "whyNotWalk", "(II)I"⟩
abbrev cX7_walks : ByteArray := prog_9_method_103_code
def yX7_walks : MethodName := ⟨RX7, "walks", "(II)I"⟩
abbrev cX7_walk : ByteArray := prog_9_method_104_code
def yX7_walk : MethodName := ⟨RX7, "walk", "(II)I"⟩
abbrev cX7_ends_ : ByteArray := prog_9_method_105_code
def yX7_ends_ : MethodName := ⟨RX7, "ends", "(II)I"⟩
abbrev cX7_tells : ByteArray := prog_9_method_106_code
def yX7_tells : MethodName := ⟨RX7, "tells", "(II)V"⟩
abbrev cX7_odd : ByteArray := prog_9_method_107_code
def yX7_odd : MethodName := ⟨RX7, "odd", "(IIIII)I"⟩
abbrev cX7_isBridged : ByteArray := prog_9_method_108_code
def yX7_isBridged : MethodName := ⟨RX7, "isBridged", "()Z"⟩
abbrev cX7_opensBy : ByteArray := prog_9_method_109_code
def yX7_opensBy : MethodName := ⟨RX7, "opensBy", "(III)Z"⟩
abbrev cX7_openings : ByteArray := prog_9_method_110_code
def yX7_openings : MethodName := ⟨RX7, "openings", "(I)I"⟩
abbrev cX7_draws : ByteArray := prog_9_method_111_code
def yX7_draws : MethodName := ⟨RX7, "draws", "(JI)V"⟩
abbrev cX7_isDrawn : ByteArray := prog_9_method_112_code
def yX7_isDrawn : MethodName := ⟨RX7, "isDrawn", "(II)Z"⟩
abbrev cX7_drawn : ByteArray := prog_9_method_113_code
def yX7_drawn : MethodName := ⟨RX7, "drawn", "(III)I"⟩
abbrev cX7_lastly : ByteArray := prog_9_method_114_code
def yX7_lastly : MethodName := ⟨RX7, "lastly", "(II)I"⟩
abbrev cX7_count : ByteArray := prog_9_method_115_code
def yX7_count : MethodName := ⟨RX7, "count", "(I)I"⟩
abbrev cX7_keep : ByteArray := prog_9_method_116_code
def yX7_keep : MethodName := ⟨RX7, "keep", "(I)I"⟩
abbrev cX7_back : ByteArray := prog_9_method_117_code
def yX7_back : MethodName := ⟨RX7, "back", "(I)I"⟩
def RJx145de : String := "java/io/Serializable"
def TJx145de : u_T := fun k => match k with
  | _ => ("", "", "", false)
def tyJx145de : Nat → FieldType := fun k => match k with
  | _ => .int
abbrev wsJx145de0 : List Cond := u_ws RJx145de TJx145de 0
theorem nmJx145de : ∀ a, a < 0 → ∀ b, b < 0 → a ≠ b → (TJx145de a).2.1 ≠ (TJx145de b).2.1 := by decide +kernel
theorem tyJx145de_ok : ∀ k, k < 0 → parseFieldDescriptor (TJx145de k).2.2.1 = some (tyJx145de k) := by decide +kernel
def RJx9f9b0 : String := "java/lang/CharSequence"
def TJx9f9b0 : u_T := fun k => match k with
  | _ => ("", "", "", false)
def tyJx9f9b0 : Nat → FieldType := fun k => match k with
  | _ => .int
abbrev wsJx9f9b00 : List Cond := u_ws RJx9f9b0 TJx9f9b0 0
theorem nmJx9f9b0 : ∀ a, a < 0 → ∀ b, b < 0 → a ≠ b → (TJx9f9b0 a).2.1 ≠ (TJx9f9b0 b).2.1 := by decide +kernel
theorem tyJx9f9b0_ok : ∀ k, k < 0 → parseFieldDescriptor (TJx9f9b0 k).2.2.1 = some (tyJx9f9b0 k) := by decide +kernel
def RJxb160c : String := "java/lang/Comparable"
def TJxb160c : u_T := fun k => match k with
  | _ => ("", "", "", false)
def tyJxb160c : Nat → FieldType := fun k => match k with
  | _ => .int
abbrev wsJxb160c0 : List Cond := u_ws RJxb160c TJxb160c 0
theorem nmJxb160c : ∀ a, a < 0 → ∀ b, b < 0 → a ≠ b → (TJxb160c a).2.1 ≠ (TJxb160c b).2.1 := by decide +kernel
theorem tyJxb160c_ok : ∀ k, k < 0 → parseFieldDescriptor (TJxb160c k).2.2.1 = some (tyJxb160c k) := by decide +kernel
def RJ6 : String := "java/lang/Integer"
def TJ6 : u_T := fun k => match k with
  | _ => ("", "", "", false)
def tyJ6 : Nat → FieldType := fun k => match k with
  | _ => .int
abbrev wsJ60 : List Cond := u_ws RJ6 TJ6 0
theorem nmJ6 : ∀ a, a < 0 → ∀ b, b < 0 → a ≠ b → (TJ6 a).2.1 ≠ (TJ6 b).2.1 := by decide +kernel
theorem tyJ6_ok : ∀ k, k < 0 → parseFieldDescriptor (TJ6 k).2.2.1 = some (tyJ6 k) := by decide +kernel
abbrev cJ6_bitCount_0f7a4 : ByteArray := prog_10_method_49_code
def yJ6_bitCount_0f7a4 : MethodName := ⟨RJ6, "bitCount", "(I)I"⟩
def RJ13 : String := "java/lang/Long"
def TJ13 : u_T := fun k => match k with
  | _ => ("", "", "", false)
def tyJ13 : Nat → FieldType := fun k => match k with
  | _ => .int
abbrev wsJ130 : List Cond := u_ws RJ13 TJ13 0
theorem nmJ13 : ∀ a, a < 0 → ∀ b, b < 0 → a ≠ b → (TJ13 a).2.1 ≠ (TJ13 b).2.1 := by decide +kernel
theorem tyJ13_ok : ∀ k, k < 0 → parseFieldDescriptor (TJ13 k).2.2.1 = some (tyJ13 k) := by decide +kernel
abbrev cJ13_bitCount_95d88 : ByteArray := prog_11_method_50_code
def yJ13_bitCount_95d88 : MethodName := ⟨RJ13, "bitCount", "(J)I"⟩
def RJ9 : String := "java/lang/Math"
def TJ9 : u_T := fun k => match k with
  | _ => ("", "", "", false)
def tyJ9 : Nat → FieldType := fun k => match k with
  | _ => .int
abbrev wsJ90 : List Cond := u_ws RJ9 TJ9 0
theorem nmJ9 : ∀ a, a < 0 → ∀ b, b < 0 → a ≠ b → (TJ9 a).2.1 ≠ (TJ9 b).2.1 := by decide +kernel
theorem tyJ9_ok : ∀ k, k < 0 → parseFieldDescriptor (TJ9 k).2.2.1 = some (tyJ9 k) := by decide +kernel
abbrev cJ9_max_7cf53 : ByteArray := prog_12_method_65_code
def yJ9_max_7cf53 : MethodName := ⟨RJ9, "max", "(II)I"⟩
abbrev cJ9_min_7cf53 : ByteArray := prog_12_method_69_code
def yJ9_min_7cf53 : MethodName := ⟨RJ9, "min", "(II)I"⟩
def RJ0 : String := "java/lang/String"
def TJ0 : u_T := fun k => match k with
  | _ => ("", "", "", false)
def tyJ0 : Nat → FieldType := fun k => match k with
  | _ => .int
abbrev wsJ00 : List Cond := u_ws RJ0 TJ0 0
theorem nmJ0 : ∀ a, a < 0 → ∀ b, b < 0 → a ≠ b → (TJ0 a).2.1 ≠ (TJ0 b).2.1 := by decide +kernel
theorem tyJ0_ok : ∀ k, k < 0 → parseFieldDescriptor (TJ0 k).2.2.1 = some (tyJ0 k) := by decide +kernel
abbrev cJ0_length_8abf5 : ByteArray := prog_13_method_54_code
def yJ0_length_8abf5 : MethodName := ⟨RJ0, "length", "()I"⟩
abbrev cJ0_charAt_5068e : ByteArray := prog_13_method_56_code
def yJ0_charAt_5068e : MethodName := ⟨RJ0, "charAt", "(I)C"⟩
abbrev cJ0_coder_7d493 : ByteArray := prog_13_method_152_code
def yJ0_coder_7d493 : MethodName := ⟨RJ0, "coder", "()B"⟩
abbrev cJ0_isLatin1_aae02 : ByteArray := prog_13_method_154_code
def yJ0_isLatin1_aae02 : MethodName := ⟨RJ0, "isLatin1", "()Z"⟩
abbrev cJ0_checkIndex_df160 : ByteArray := prog_13_method_155_code
def yJ0_checkIndex_df160 : MethodName := ⟨RJ0, "checkIndex", "(II)V"⟩
def RJ1 : String := "java/lang/StringLatin1"
def TJ1 : u_T := fun k => match k with
  | _ => ("", "", "", false)
def tyJ1 : Nat → FieldType := fun k => match k with
  | _ => .int
abbrev wsJ10 : List Cond := u_ws RJ1 TJ1 0
theorem nmJ1 : ∀ a, a < 0 → ∀ b, b < 0 → a ≠ b → (TJ1 a).2.1 ≠ (TJ1 b).2.1 := by decide +kernel
theorem tyJ1_ok : ∀ k, k < 0 → parseFieldDescriptor (TJ1 k).2.2.1 = some (tyJ1 k) := by decide +kernel
abbrev cJ1_charAt_3b067 : ByteArray := prog_14_method_2_code
def yJ1_charAt_3b067 : MethodName := ⟨RJ1, "charAt", "([BI)C"⟩
def RJ2 : String := "java/lang/StringUTF16"
def TJ2 : u_T := fun k => match k with
  | _ => ("", "", "", false)
def tyJ2 : Nat → FieldType := fun k => match k with
  | _ => .int
abbrev wsJ20 : List Cond := u_ws RJ2 TJ2 0
theorem nmJ2 : ∀ a, a < 0 → ∀ b, b < 0 → a ≠ b → (TJ2 a).2.1 ≠ (TJ2 b).2.1 := by decide +kernel
theorem tyJ2_ok : ∀ k, k < 0 → parseFieldDescriptor (TJ2 k).2.2.1 = some (tyJ2 k) := by decide +kernel
abbrev cJ2_getChar_3b067 : ByteArray := prog_15_method_5_code
def yJ2_getChar_3b067 : MethodName := ⟨RJ2, "getChar", "([BI)C"⟩
abbrev cJ2_length_9d52b : ByteArray := prog_15_method_6_code
def yJ2_length_9d52b : MethodName := ⟨RJ2, "length", "([B)I"⟩
abbrev cJ2_charAt_3b067 : ByteArray := prog_15_method_83_code
def yJ2_charAt_3b067 : MethodName := ⟨RJ2, "charAt", "([BI)C"⟩
abbrev cJ2_checkIndex_2214a : ByteArray := prog_15_method_91_code
def yJ2_checkIndex_2214a : MethodName := ⟨RJ2, "checkIndex", "(I[B)V"⟩
def RJ10 : String := "java/lang/System"
def TJ10 : u_T := fun k => match k with
  | _ => ("", "", "", false)
def tyJ10 : Nat → FieldType := fun k => match k with
  | _ => .int
abbrev wsJ100 : List Cond := u_ws RJ10 TJ10 0
theorem nmJ10 : ∀ a, a < 0 → ∀ b, b < 0 → a ≠ b → (TJ10 a).2.1 ≠ (TJ10 b).2.1 := by decide +kernel
theorem tyJ10_ok : ∀ k, k < 0 → parseFieldDescriptor (TJ10 k).2.2.1 = some (tyJ10 k) := by decide +kernel
def RJxfd54e : String := "java/lang/constant/Constable"
def TJxfd54e : u_T := fun k => match k with
  | _ => ("", "", "", false)
def tyJxfd54e : Nat → FieldType := fun k => match k with
  | _ => .int
abbrev wsJxfd54e0 : List Cond := u_ws RJxfd54e TJxfd54e 0
theorem nmJxfd54e : ∀ a, a < 0 → ∀ b, b < 0 → a ≠ b → (TJxfd54e a).2.1 ≠ (TJxfd54e b).2.1 := by decide +kernel
theorem tyJxfd54e_ok : ∀ k, k < 0 → parseFieldDescriptor (TJxfd54e k).2.2.1 = some (tyJxfd54e k) := by decide +kernel
def RJx3cf43 : String := "java/lang/constant/ConstantDesc"
def TJx3cf43 : u_T := fun k => match k with
  | _ => ("", "", "", false)
def tyJx3cf43 : Nat → FieldType := fun k => match k with
  | _ => .int
abbrev wsJx3cf430 : List Cond := u_ws RJx3cf43 TJx3cf43 0
theorem nmJx3cf43 : ∀ a, a < 0 → ∀ b, b < 0 → a ≠ b → (TJx3cf43 a).2.1 ≠ (TJx3cf43 b).2.1 := by decide +kernel
theorem tyJx3cf43_ok : ∀ k, k < 0 → parseFieldDescriptor (TJx3cf43 k).2.2.1 = some (tyJx3cf43 k) := by decide +kernel
def RJ7 : String := "java/util/Arrays"
def TJ7 : u_T := fun k => match k with
  | _ => ("", "", "", false)
def tyJ7 : Nat → FieldType := fun k => match k with
  | _ => .int
abbrev wsJ70 : List Cond := u_ws RJ7 TJ7 0
theorem nmJ7 : ∀ a, a < 0 → ∀ b, b < 0 → a ≠ b → (TJ7 a).2.1 ≠ (TJ7 b).2.1 := by decide +kernel
theorem tyJ7_ok : ∀ k, k < 0 → parseFieldDescriptor (TJ7 k).2.2.1 = some (tyJ7 k) := by decide +kernel
abbrev cJ7_fill_d0a16 : ByteArray := prog_17_method_101_code
def yJ7_fill_d0a16 : MethodName := ⟨RJ7, "fill", "([JJ)V"⟩
abbrev cJ7_fill_53178 : ByteArray := prog_17_method_103_code
def yJ7_fill_53178 : MethodName := ⟨RJ7, "fill", "([II)V"⟩
def RJ3 : String := "jdk/internal/util/Preconditions"
def TJ3 : u_T := fun k => match k with
  | _ => ("", "", "", false)
def tyJ3 : Nat → FieldType := fun k => match k with
  | _ => .int
abbrev wsJ30 : List Cond := u_ws RJ3 TJ3 0
theorem nmJ3 : ∀ a, a < 0 → ∀ b, b < 0 → a ≠ b → (TJ3 a).2.1 ≠ (TJ3 b).2.1 := by decide +kernel
theorem tyJ3_ok : ∀ k, k < 0 → parseFieldDescriptor (TJ3 k).2.2.1 = some (tyJ3 k) := by decide +kernel
abbrev cJ3_checkIndex_8e157 : ByteArray := prog_18_method_11_code
def yJ3_checkIndex_8e157 : MethodName := ⟨RJ3, "checkIndex", "(IILjava/util/function/BiFunction;)I"⟩
def RL : String := "HedgeMazeLaw"
abbrev cL_law : ByteArray := code
def yL_law : MethodName := ⟨RL, "law", "([I)Z"⟩
def wsJ0_checkIndex_df160 : List Cond := .code yJ0_checkIndex_df160 cJ0_checkIndex_df160 2 none :: ([.fieldLink RJ0 1053 "jdk/internal/util/Preconditions" "SIOOBE_FORMATTER" "Ljava/util/function/BiFunction;", .methodLink RJ0 1059 yJ3_checkIndex_8e157, .static yJ3_checkIndex_8e157, .initialized RJ3, .code yJ3_checkIndex_8e157 cJ3_checkIndex_8e157 3 (some .int)])
abbrev vwCl : List vw_C := [(RX0, TX0, 12), (RX1, TX1, 4), (RX2, TX2, 3), (RX3, TX3, 9), (RX4, TX4, 10), (RX5, TX5, 4), (RX6, TX6, 11), (RX7, TX7, 39)]
