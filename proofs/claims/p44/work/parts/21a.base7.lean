/-! worlds side by side; a contract over a greater world -/
theorem va_P.left {D : va_G} {cl : List vw_C} {W t : va_W} {H : Heap} (h : va_P D cl (W ++ t) H) : va_P D cl W H := fun k q hk => h k q (by
  have hl : k < W.length := (List.getElem?_eq_some_iff.mp hk).1
  rw [List.getElem?_append_left hl]; exact hk)
theorem va_P.right {D : va_G} {cl : List vw_C} {W t : va_W} {H : Heap} (h : va_P D cl (W ++ t) H) : va_P D cl t H := fun k q hk => h (W.length + k) q (by
  rw [List.getElem?_append_right (Nat.le_add_right _ _), Nat.add_sub_cancel_left]; exact hk)
theorem va_D.left {A : Nat → Prop} {W t : va_W} (h : va_D A (W ++ t)) : va_D A W := by
  have key : ∀ (k : Nat) (q : Nat × va_E), W[k]? = some q → (W ++ t)[k]? = some q := fun k q hk => by
    have hl : k < W.length := (List.getElem?_eq_some_iff.mp hk).1
    rw [List.getElem?_append_left hl]; exact hk
  exact ⟨fun i j p q hp hq e => h.1 i j p q (key i p hp) (key j q hq) e, fun k q hk => h.2 k q (key k q hk)⟩
theorem va_D.right {A : Nat → Prop} {W t : va_W} (h : va_D A (W ++ t)) : va_D A t := by
  have key : ∀ (k : Nat) (q : Nat × va_E), t[k]? = some q → (W ++ t)[W.length + k]? = some q := fun k q hk => by
    rw [List.getElem?_append_right (Nat.le_add_right _ _), Nat.add_sub_cancel_left]; exact hk
  exact ⟨fun i j p q hp hq e => by have := h.1 _ _ p q (key i p hp) (key j q hq) e; omega, fun k q hk => h.2 _ q (key k q hk)⟩
theorem va_D.lr {A : Nat → Prop} {W t : va_W} (h : va_D A (W ++ t)) (i j : Nat) (p q : Nat × va_E) (hp : W[i]? = some p) (hq : t[j]? = some q) : p.1 ≠ q.1 := fun e => by
  have hl : i < W.length := (List.getElem?_eq_some_iff.mp hp).1
  have := h.1 i (W.length + j) p q (by rw [List.getElem?_append_left hl]; exact hp) (by rw [List.getElem?_append_right (Nat.le_add_right _ _), Nat.add_sub_cancel_left]; exact hq) e
  omega
/-- behind a call over the first world: the second is as it was -/
theorem va_joinA {A : Nat → Prop} {D : va_G} {cl : List vw_C} {W t W1 : va_W} {H H1 : Heap} (hP : va_P D cl (W ++ t) H) (hD : va_D A (W ++ t)) (hk : ∀ q : Nat, q < H.size → ¬ va_A W H.size q → H1[q]? = H[q]?) (hF : ∀ q, va_A W H.size q → A q) (hP1 : va_P D cl W1 H1) (hD1 : va_D (va_A W H.size) W1) : va_P D cl (W1 ++ t) H1 ∧ va_D A (W1 ++ t) := by
  have apart : ∀ (k : Nat) (q : Nat × va_E), t[k]? = some q → q.1 < H.size ∧ ¬ va_A W H.size q.1 := by
    intro k q hq
    have hl := (hP.right k q hq).lt
    refine ⟨hl, fun h => ?_⟩
    rcases h with ⟨k2, e, h⟩ | h
    · exact hD.lr k2 k (q.1, e) q h hq rfl
    · omega
  refine ⟨va_P.app hP1 (fun k q hq => ?_), va_D.app (hD1.weaken (fun k q _ h => hF q.1 h)) hD.right (fun i j x y hx hy hxy => ?_)⟩
  · obtain ⟨g1, g2⟩ := apart k q hq
    exact (hP.right k q hq).kept (hk q.1 g1 g2)
  · exact (apart j y hy).2 (by rw [← hxy]; exact hD1.2 i x hx)
theorem va_swap {A : Nat → Prop} {D : va_G} {cl : List vw_C} {W t : va_W} {H : Heap} (hP : va_P D cl (W ++ t) H) (hD : va_D A (W ++ t)) : va_P D cl (t ++ W) H ∧ va_D A (t ++ W) :=
  ⟨va_P.app hP.right hP.left, va_D.app hD.right hD.left (fun i j p q hp hq e => hD.lr j i q p hq hp e.symm)⟩
theorem va_assoc {W t u : va_W} : (W ++ t) ++ u = W ++ (t ++ u) := List.append_assoc W t u
theorem va_A.mono {W V : va_W} {sz : Nat} (h : ∀ (k : Nat) (q : Nat × va_E), W[k]? = some q → ∃ k2 : Nat, V[k2]? = some q) {q : Nat} (hq : va_A W sz q) : va_A V sz q := by
  rcases hq with ⟨k, e, hk⟩ | hq
  · obtain ⟨k2, h2⟩ := h k _ hk
    exact Or.inl ⟨k2, e, h2⟩
  · exact Or.inr hq
theorem map_at {α β : Type} {f : α → Option β} {is : List α} {w : List β} (hs : is.map f = w.map some) (k : Nat) (q : β) (hq : w[k]? = some q) : ∃ i, is[k]? = some i ∧ f i = some q := by
  have h1 : (is.map f)[k]? = some (some q) := by rw [hs, List.getElem?_map, hq]; rfl
  rw [List.getElem?_map] at h1
  cases hi : is[k]? with
  | none => rw [hi] at h1; cases h1
  | some i => rw [hi] at h1; exact ⟨i, rfl, Option.some.inj h1⟩
theorem map_fm {α β : Type} {f : α → Option β} : ∀ {is : List α} {w : List β}, is.map f = w.map some → is.filterMap f = w
  | [], [], _ => rfl
  | [], _ :: _, h => by cases h
  | _ :: _, [], h => by cases h
  | a :: is, b :: w, h => by
    simp only [List.map_cons, List.cons.injEq] at h
    rw [List.filterMap_cons_some h.1, map_fm h.2]
/-- a public call's start and end, over a world W -/
def PX (av : List Value) (D : va_G) (cl : List vw_C) (TC : List (ClassId × FieldType)) (W : va_W) (sz : Nat) (EX : State → Prop) : Array Value → State → Prop := va_Pc av (fun U => U.heap.size = sz ∧ va_P D cl W U.heap ∧ va_K D cl TC U ∧ va_D (fun _ => True) W ∧ EX U)
def QX (N : va_W → Int32 → Prop) (D : va_G) (cl : List vw_C) (W : va_W) (sz : Nat) : Array Value → State → Outcome → State → Prop := va_Qi (fun (r : Int32) (V : va_W) => N V r) (fun V t => va_P D cl V t.heap ∧ va_D (va_A W sz) V) (va_A W sz)
section MWR
variable {l : Launch} {y : MethodName} {ws : List Cond} {rm : Room} {av : List Value} {D : va_G} {cl : List vw_C} {wc wr W : va_W} {tc TC : List (ClassId × FieldType)} {mc ms sz : Nat} {S : Type} {post : Int32 → S → Prop} {w1 : S → va_W} {ty : S → List (ClassId × FieldType)} {EX EY : State → Prop} {N : va_W → Int32 → Prop}
theorem Met_wr1 (hM : Met l y ws rm (va_Pc av (fun U => U.heap.size = sz ∧ va_P D cl wc U.heap ∧ va_K D cl tc U ∧ va_D (fun _ => True) wc ∧ EX U)) (va_Qi post (fun u t => va_P D cl (w1 u) t.heap ∧ va_K D cl (ty u) t ∧ va_D (va_A wc sz) (w1 u)) (va_A wc sz)) mc ms (va_A wc sz))
    (isC isR : List Nat) (ndC : va_nd isC = true) (hC : isC.map (fun i => W[i]?) = wc.map some) (hR : isR.map (fun i => W[i]?) = wr.map some) (nd : va_nd isR = true) (dis : ∀ i ∈ isR, i ∉ isC) (it : List Nat) (hT : it.filterMap (fun i => TC[i]?) = tc) (hE : ∀ U : State, U.heap.size = sz → EY U → EX U)
    (hN : ∀ r u, post r u → ∃ V, N V r ∧ ∃ is, va_nd is = true ∧ is.map (fun i => (wr ++ w1 u)[i]?) = V.map some) : Met l y ws rm (PX av D cl TC W sz EY) (QX N D cl W sz) mc ms (va_A W sz) := by
  have mono : ∀ q, va_A wc sz q → va_A W sz q := fun q hq => va_A.mono (fun k q hk => by
    obtain ⟨i, -, hi⟩ := map_at hC k q hk
    exact ⟨i, hi⟩) hq
  refine MetFree.mono hM (fun a s h => ?_) (fun _ _ _ _ _ h => h) (fun a s o t hp hq => ?_)
  · obtain ⟨rfl, hsz, hP, hK, hD, hX⟩ := h
    exact ⟨rfl, hsz, hP.sub isC (map_fm hC), hK.sub it hT, hD.sub isC ndC hC, hE _ hsz hX⟩
  · obtain ⟨⟨⟨r, u, ho, hpo, hP1, hK1, hD1⟩, hF⟩, L, hFE, hL⟩ := hq
    obtain ⟨rfl, hsz, hP, hK, hD, hX⟩ := hp
    subst hsz
    obtain ⟨j1, j2⟩ := va_join hP (hD.self (sz := s.heap.size)) isC isR hC hR nd dis hF.2 mono hP1 hD1
    obtain ⟨V, hV, is, hn, hm⟩ := hN r u hpo
    exact ⟨⟨⟨r, V, ho, hV, j1.sub is (map_fm hm), j2.sub is hn hm⟩, hF.1, fun q h1 h2 => hF.2 q h1 (fun z => h2 (mono q z))⟩, L, hFE, fun q hq => mono _ (hL q hq)⟩
theorem Met_wr0 (hM : Met l y ws rm (va_Pc av (fun U => U.heap.size = sz ∧ va_P D cl wc U.heap ∧ va_K D cl tc U ∧ va_D (fun _ => True) wc)) (va_Qi post (fun u t => va_P D cl (w1 u) t.heap ∧ va_K D cl (ty u) t ∧ va_D (va_A wc sz) (w1 u)) (va_A wc sz)) mc ms (va_A wc sz))
    (isC isR : List Nat) (ndC : va_nd isC = true) (hC : isC.map (fun i => W[i]?) = wc.map some) (hR : isR.map (fun i => W[i]?) = wr.map some) (nd : va_nd isR = true) (dis : ∀ i ∈ isR, i ∉ isC) (it : List Nat) (hT : it.filterMap (fun i => TC[i]?) = tc)
    (hN : ∀ r u, post r u → ∃ V, N V r ∧ ∃ is, va_nd is = true ∧ is.map (fun i => (wr ++ w1 u)[i]?) = V.map some) : Met l y ws rm (PX av D cl TC W sz EY) (QX N D cl W sz) mc ms (va_A W sz) := by
  have mono : ∀ q, va_A wc sz q → va_A W sz q := fun q hq => va_A.mono (fun k q hk => by
    obtain ⟨i, -, hi⟩ := map_at hC k q hk
    exact ⟨i, hi⟩) hq
  refine MetFree.mono hM (fun a s h => ?_) (fun _ _ _ _ _ h => h) (fun a s o t hp hq => ?_)
  · obtain ⟨rfl, hsz, hP, hK, hD, hX⟩ := h
    exact ⟨rfl, hsz, hP.sub isC (map_fm hC), hK.sub it hT, hD.sub isC ndC hC⟩
  · obtain ⟨⟨⟨r, u, ho, hpo, hP1, hK1, hD1⟩, hF⟩, L, hFE, hL⟩ := hq
    obtain ⟨rfl, hsz, hP, hK, hD, hX⟩ := hp
    subst hsz
    obtain ⟨j1, j2⟩ := va_join hP (hD.self (sz := s.heap.size)) isC isR hC hR nd dis hF.2 mono hP1 hD1
    obtain ⟨V, hV, is, hn, hm⟩ := hN r u hpo
    exact ⟨⟨⟨r, V, ho, hV, j1.sub is (map_fm hm), j2.sub is hn hm⟩, hF.1, fun q h1 h2 => hF.2 q h1 (fun z => h2 (mono q z))⟩, L, hFE, fun q hq => mono _ (hL q hq)⟩
/-- beside it, any other world stays -/
theorem Met_app {t : va_W} (hM : Met l y ws rm (PX av D cl TC W sz EX) (QX N D cl W sz) mc ms (va_A W sz)) (hE : ∀ U : State, U.heap.size = sz → EY U → EX U) : Met l y ws rm (PX av D cl TC (W ++ t) sz EY) (QX (fun V r => ∃ V0, N V0 r ∧ V = V0 ++ t) D cl (W ++ t) sz) mc ms (va_A (W ++ t) sz) := by
  have mono : ∀ q, va_A W sz q → va_A (W ++ t) sz q := fun q hq => va_A.mono (fun k q hk => ⟨k, by
    have hl : k < W.length := (List.getElem?_eq_some_iff.mp hk).1
    rw [List.getElem?_append_left hl]; exact hk⟩) hq
  refine MetFree.mono hM (fun a s h => ?_) (fun _ _ _ _ _ h => h) (fun a s o t' hp hq => ?_)
  · obtain ⟨rfl, hsz, hP, hK, hD, hX⟩ := h
    exact ⟨rfl, hsz, hP.left, hK, hD.left, hE _ hsz hX⟩
  · obtain ⟨⟨⟨r, V, ho, hpo, hP1, hD1⟩, hF⟩, L, hFE, hL⟩ := hq
    obtain ⟨rfl, hsz, hP, hK, hD, hX⟩ := hp
    subst hsz
    obtain ⟨j1, j2⟩ := va_joinA hP (hD.self (sz := s.heap.size)) hF.2 mono hP1 hD1
    exact ⟨⟨⟨r, V ++ t, ho, ⟨V, hpo, rfl⟩, j1, j2⟩, hF.1, fun q h1 h2 => hF.2 q h1 (fun z => h2 (mono q z))⟩, L, hFE, fun q hq => mono _ (hL q hq)⟩
end MWR
theorem sx.mono {ad av nn : Nat → Nat} {A B : Nat → Prop} {U : State} (h : sx ad av nn A U) (hF : ∀ q, B q → A q) : sx ad av nn B U := by
  obtain ⟨h1, ⟨g, h2⟩, h3⟩ := h
  refine ⟨h1.narrow hF, ⟨g, h2.narrow hF⟩, fun k hk => ?_⟩
  obtain ⟨a1, a2, a3, a4, a5, f, a6⟩ := h3 k hk
  exact ⟨a1, a2, a3.narrow hF, a4.narrow hF, a5.narrow hF, f, a6.narrow hF⟩

