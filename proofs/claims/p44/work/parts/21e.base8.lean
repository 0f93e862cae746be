/-! worlds in another order -/
theorem va_P.mem {D : va_G} {cl : List vw_C} {W : va_W} {H : Heap} (h : va_P D cl W H) {q : Nat × va_E} (hq : q ∈ W) : va_at D cl q H := by
  obtain ⟨k, hk⟩ := List.getElem?_of_mem hq
  exact h k q hk
theorem va_P.perm {D : va_G} {cl : List vw_C} {W V : va_W} {H : Heap} (h : va_P D cl W H) (hp : W.Perm V) : va_P D cl V H := fun k q hk => h.mem (hp.symm.subset (List.mem_of_getElem? hk))
theorem va_D.nodup {A : Nat → Prop} {W : va_W} (h : va_D A W) : (W.map Prod.fst).Nodup := by
  rw [List.Nodup, List.pairwise_iff_getElem]
  intro i j hi hj hij e
  rw [List.length_map] at hi hj
  rw [List.getElem_map, List.getElem_map] at e
  have := h.1 i j W[i] W[j] (List.getElem?_eq_getElem hi) (List.getElem?_eq_getElem hj) e
  omega
theorem va_D.of {A : Nat → Prop} {W : va_W} (h : (W.map Prod.fst).Nodup) (hA : ∀ q ∈ W, A q.1) : va_D A W := by
  refine ⟨fun i j p q hi hj e => ?_, fun k q hk => hA q (List.mem_of_getElem? hk)⟩
  rw [List.Nodup, List.pairwise_iff_getElem] at h
  obtain ⟨hi1, hi2⟩ := List.getElem?_eq_some_iff.mp hi
  obtain ⟨hj1, hj2⟩ := List.getElem?_eq_some_iff.mp hj
  rcases Nat.lt_trichotomy i j with c | c | c
  · exact absurd (by rw [List.getElem_map, List.getElem_map, hi2, hj2]; exact e) (h i j (by rw [List.length_map]; exact hi1) (by rw [List.length_map]; exact hj1) c)
  · exact c
  · exact absurd (by rw [List.getElem_map, List.getElem_map, hi2, hj2]; exact e.symm) (h j i (by rw [List.length_map]; exact hj1) (by rw [List.length_map]; exact hi1) c)
theorem va_D.perm {A : Nat → Prop} {W V : va_W} (h : va_D A W) (hp : W.Perm V) : va_D A V := va_D.of ((hp.map Prod.fst).nodup_iff.mp h.nodup) (fun q hq => by
  obtain ⟨k, hk⟩ := List.getElem?_of_mem (hp.symm.subset hq)
  exact h.2 k q hk)
theorem va_A.perm {W V : va_W} {sz : Nat} (hp : W.Perm V) {q : Nat} (h : va_A W sz q) : va_A V sz q := va_A.mono (fun k q hk => List.getElem?_of_mem (hp.subset (List.mem_of_getElem? hk))) h
section MPE
variable {l : Launch} {y : MethodName} {ws : List Cond} {rm : Room} {av : List Value} {D : va_G} {cl : List vw_C} {W W' : va_W} {TC : List (ClassId × FieldType)} {mc ms sz : Nat} {EX EY : State → Prop} {N N' : va_W → Int32 → Prop}
theorem Met_perm (hM : Met l y ws rm (PX av D cl TC W sz EX) (QX N D cl W sz) mc ms (va_A W sz)) (hp : W.Perm W') (hE : ∀ U : State, U.heap.size = sz → EY U → EX U) (hN : ∀ V r, N V r → ∃ V', N' V' r ∧ V.Perm V') : Met l y ws rm (PX av D cl TC W' sz EY) (QX N' D cl W' sz) mc ms (va_A W' sz) := by
  refine MetFree.mono hM (fun a s h => ?_) (fun _ _ _ _ _ h => h) (fun a s o t hpp hq => ?_)
  · obtain ⟨rfl, hsz, hP, hK, hD, hX⟩ := h
    exact ⟨rfl, hsz, hP.perm hp.symm, hK, hD.perm hp.symm, hE _ hsz hX⟩
  · obtain ⟨⟨⟨r, V, ho, hpo, hP1, hD1⟩, hF⟩, L, hFE, hL⟩ := hq
    obtain ⟨V', hV, hVp⟩ := hN V r hpo
    exact ⟨⟨⟨r, V', ho, hV, hP1.perm hVp, (hD1.perm hVp).weaken (fun _ _ _ h => va_A.perm hp h)⟩, hF.1, fun q h1 h2 => hF.2 q h1 (fun z => h2 (va_A.perm hp z))⟩, L, hFE, fun q hq => va_A.perm hp (hL q hq)⟩
end MPE
theorem arr1 {D : va_G} {cl : List vw_C} {T1 T2 : List (ClassId × FieldType)} {U : State} (h1 : va_K D cl T1 U) (h2 : va_K D cl T2 U) {i j : Nat} {a b : ClassId} (ha : T1[i]? = some (a, .int)) (hb : T2[j]? = some (b, .int)) : a = b := Option.some.inj ((show U.vm.findClass (FieldType.array .int).toString = some a from (h1.2 i _ ha).2).symm.trans (show U.vm.findClass (FieldType.array .int).toString = some b from (h2.2 j _ hb).2))
theorem arr2 {D : va_G} {cl : List vw_C} {T1 T2 : List (ClassId × FieldType)} {U : State} (h1 : va_K D cl T1 U) (h2 : va_K D cl T2 U) {i j : Nat} {a b : ClassId} (ha : T1[i]? = some (a, .long)) (hb : T2[j]? = some (b, .long)) : a = b := Option.some.inj ((show U.vm.findClass (FieldType.array .long).toString = some a from (h1.2 i _ ha).2).symm.trans (show U.vm.findClass (FieldType.array .long).toString = some b from (h2.2 j _ hb).2))
section MWK
variable {l : Launch} {y : MethodName} {ws : List Cond} {rm : Room} {av : List Value} {D : va_G} {cl : List vw_C} {wc wr W : va_W} {tc TC : List (ClassId × FieldType)} {mc ms sz : Nat} {S : Type} {post : Int32 → S → Prop} {w1 : S → va_W} {ty : S → List (ClassId × FieldType)} {EX EY : State → Prop} {N : va_W → Int32 → Prop}
/-- as Met_wr1; what the tables say of new rows' classes is known -/
theorem Met_wrK (hM : Met l y ws rm (va_Pc av (fun U => U.heap.size = sz ∧ va_P D cl wc U.heap ∧ va_K D cl tc U ∧ va_D (fun _ => True) wc ∧ EX U)) (va_Qi post (fun u t => va_P D cl (w1 u) t.heap ∧ va_K D cl (ty u) t ∧ va_D (va_A wc sz) (w1 u)) (va_A wc sz)) mc ms (va_A wc sz))
    (isC isR : List Nat) (ndC : va_nd isC = true) (hC : isC.map (fun i => W[i]?) = wc.map some) (hR : isR.map (fun i => W[i]?) = wr.map some) (nd : va_nd isR = true) (dis : ∀ i ∈ isR, i ∉ isC) (it : List Nat) (hT : it.filterMap (fun i => TC[i]?) = tc) (hE : ∀ U : State, U.heap.size = sz → EY U → EX U)
    (hN : ∀ r u (t : State), post r u → va_K D cl (ty u) t → va_K D cl TC t → ∃ V, N V r ∧ ∃ is, va_nd is = true ∧ is.map (fun i => (wr ++ w1 u)[i]?) = V.map some) : Met l y ws rm (PX av D cl TC W sz EY) (QX N D cl W sz) mc ms (va_A W sz) := by
  have mono : ∀ q, va_A wc sz q → va_A W sz q := fun q hq => va_A.mono (fun k q hk => by
    obtain ⟨i, -, hi⟩ := map_at hC k q hk
    exact ⟨i, hi⟩) hq
  refine MetFree.mono hM (fun a s h => ?_) (fun _ _ _ _ _ h => h) (fun a s o t hp hq => ?_)
  · obtain ⟨rfl, hsz, hP, hK, hD, hX⟩ := h
    exact ⟨rfl, hsz, hP.sub isC (map_fm hC), hK.sub it hT, hD.sub isC ndC hC, hE _ hsz hX⟩
  · obtain ⟨⟨⟨r, u, ho, hpo, hP1, hK1, hD1⟩, hF⟩, L, hFE, hL⟩ := hq
    obtain ⟨rfl, hsz, hP, hK, hD, hX⟩ := hp
    subst hsz
    obtain ⟨j1, j2⟩ := va_join hP (hD.self (sz := s.heap.size)) isC isR hC hR nd dis hF.2 mono hP1 hD1
    obtain ⟨V, hV, is, hn, hm⟩ := hN r u t hpo hK1 (va_K.moved hFE.2.1.alike hK)
    exact ⟨⟨⟨r, V, ho, hV, j1.sub is (map_fm hm), j2.sub is hn hm⟩, hF.1, fun q h1 h2 => hF.2 q h1 (fun z => h2 (mono q z))⟩, L, hFE, fun q hq => mono _ (hL q hq)⟩
end MWK

