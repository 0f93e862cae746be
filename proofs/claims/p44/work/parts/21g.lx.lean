theorem free_of {A : Nat → Prop} {W : va_W} {H0 H : Heap} {locs : List Loc} (hD : va_D A W) (hS : va_S A H0 H locs) (hA : ∀ q, H0.size ≤ q → A q) : ∀ q, va_A W H.size q → A q := by
  rintro q (⟨k, e, hk⟩ | h)
  · exact hD.2 k _ hk
  · exact hA q (Nat.le_trans hS.1 h)
section MXI
variable {l : Launch} {y : MethodName} {ws : List Cond} {rm : Room} {av : List Value} {D : va_G} {cl : List vw_C} {TC : List (ClassId × FieldType)} {mc ms sz : Nat} {EX EY : State → Prop} {ad : Nat → Nat} {kc : Nat → ClassId} {fr gnS wS : Nat → Option Nat} {iv : Nat → Int32} {lv : Nat → Int64} {ia : Nat → Nat → Int32} {la : Nat → Nat → Int64} {ot : Option Nat} {fI : Nat → Option Nat} {t0 t1 t2 : va_W} {P : Int32 → Prop} {CH : (Nat → Int32) → Prop}
/-- an ordinary call, with the images beside -/
theorem Met_xi (hM : Met l y ws rm (PX av D cl TC (XC ad kc fr gnS wS iv lv ia la ot fI) sz EX) (QX (XN ad kc fr gnS wS fI CH P) D cl (XC ad kc fr gnS wS iv lv ia la ot fI) sz) mc ms (va_A (XC ad kc fr gnS wS iv lv ia la ot fI) sz)) (i0 : IMg (kc 8) (kc 13) (fI 0) t0) (i1 : IMg (kc 8) (kc 13) (fI 1) t1) (i2 : IMg (kc 8) (kc 13) (fI 2) t2) (hE : ∀ U : State, U.heap.size = sz → EY U → EX U) : Met l y ws rm (PX av D cl TC (XC ad kc fr gnS wS iv lv ia la ot fI ++ (t0 ++ (t1 ++ t2))) sz EY) (QX (XI ad kc fr gnS wS (fun iv2 f2 => CH iv2 ∧ f2 = fI) P) D cl (XC ad kc fr gnS wS iv lv ia la ot fI ++ (t0 ++ (t1 ++ t2))) sz) mc ms (va_A (XC ad kc fr gnS wS iv lv ia la ot fI ++ (t0 ++ (t1 ++ t2))) sz) := by
  refine Met_perm (Met_app (t := t0 ++ (t1 ++ t2)) hM hE) (List.Perm.refl _) (fun _ _ h => h) (fun V r hV => ?_)
  obtain ⟨V0, ⟨hp, iv', lv', ia', la', ot', hc', hR', rfl⟩, rfl⟩ := hV
  exact ⟨_, ⟨hp, iv', fI, ⟨hc', rfl⟩, lv', ia', la', ot', t0, t1, t2, hR', i0, i1, i2, rfl⟩, List.Perm.refl _⟩
end MXI
theorem pm1 {α : Type} (X a b c : List α) : ((X ++ b) ++ (a ++ c)).Perm (X ++ (a ++ (b ++ c))) := by
  rw [List.append_assoc]
  refine List.Perm.append_left X ?_
  rw [← List.append_assoc, ← List.append_assoc]
  exact List.Perm.append_right c List.perm_append_comm
theorem pm2 {α : Type} (X a b c : List α) : ((X ++ c) ++ (a ++ b)).Perm (X ++ (a ++ (b ++ c))) := by
  rw [List.append_assoc]
  refine List.Perm.append_left X ?_
  refine List.perm_append_comm.trans ?_
  rw [List.append_assoc]
theorem pm0 {α : Type} (X a b c : List α) : ((X ++ a) ++ (b ++ c)).Perm (X ++ (a ++ (b ++ c))) := by
  rw [List.append_assoc]
theorem lw_go {L k : Nat} (hL : L ≤ 3072) (hk : k ≤ 600) (h : 6 * k + 6 ≤ L) : ¬ Int32.ofNat L - 6 < nI (6 * k) := fun q => by
  have e1 : (nI L).toInt = (L : Int) := nI_toInt (by omega)
  have e2 : (Int32.ofNat L - 6).toInt = (L : Int) - 6 := i_sub (a := nI L) (b := 6) e1 (by decide) (by omega) (by omega)
  have := i_lt e2 (nI_toInt (by omega)) q
  omega
theorem lw_end {L k : Nat} (hL : L ≤ 3072) (hk : k ≤ 600) (h : L < 6 * k + 6) : Int32.ofNat L - 6 < nI (6 * k) := by
  have e1 : (nI L).toInt = (L : Int) := nI_toInt (by omega)
  have e2 : (Int32.ofNat L - 6).toInt = (L : Int) - 6 := i_sub (a := nI L) (b := 6) e1 (by decide) (by omega) (by omega)
  rw [Int32.lt_iff_toInt_lt, e2, nI_toInt (by omega)]
  omega

/-! rows and images of the class and of the reference are alike -/
def REL (iv : Nat → Int32) (ja : Nat → Nat → Int32) : Prop := ∀ k : Nat, k < 4 → (iv (31 + 3 * k) = 0 ∧ ja 0 k = -1) ∨ (iv (31 + 3 * k) = 1 ∧ ja 0 k = iv (32 + 3 * k) ∧ 0 ≤ (ja 0 k).toInt ∧ ja 1 k = iv (33 + 3 * k))
def KR (fI : Nat → Option Nat) (ja : Nat → Nat → Int32) : Prop := ∀ k : Nat, k < 3 → ((fI k = none ∧ (ja 9 k).toInt = 0) ∨ (fI k ≠ none ∧ (ja 9 k).toInt ≠ 0))
theorem SR.at {iv iv2 : Nat → Int32} (h : SR iv iv2) {k : Nat} (hk : k < 4) : iv2 (31 + 3 * k) = iv (31 + 3 * k) ∧ iv2 (32 + 3 * k) = iv (32 + 3 * k) ∧ iv2 (33 + 3 * k) = iv (33 + 3 * k) := by
  obtain ⟨h0, h1, h2, h3, h4, h5, h6, h7, h8, h9, h10, h11⟩ := h
  rcases (show k = 0 ∨ k = 1 ∨ k = 2 ∨ k = 3 by omega) with rfl | rfl | rfl | rfl
  · exact ⟨h0, h1, h2⟩
  · exact ⟨h3, h4, h5⟩
  · exact ⟨h6, h7, h8⟩
  · exact ⟨h9, h10, h11⟩
theorem REL.same {iv iv2 : Nat → Int32} {ja ja2 : Nat → Nat → Int32} (h : REL iv ja) (hs : SR iv iv2) (h0 : ja2 0 = ja 0) (h1 : ja2 1 = ja 1) : REL iv2 ja2 := fun k hk => by
  obtain ⟨e1, e2, e3⟩ := hs.at hk
  rw [e1, e2, e3, h0, h1]
  exact h k hk
theorem KR.same {fI f2 : Nat → Option Nat} {ja ja2 : Nat → Nat → Int32} (h : KR fI ja) (hf : f2 = fI) (h9 : ja2 9 = ja 9) : KR f2 ja2 := by
  rw [hf]
  intro k hk
  rw [h9]
  exact h k hk
theorem RWX.at {iv iv2 : Nat → Int32} {p0 p1 p2 : Int32} (h : RWX iv iv2 p0 p1 p2) {k : Nat} (hk : k < 4) : ((p0.toInt = (k : Int) ∧ 0 ≤ p1.toInt ∧ p1.toInt ≤ 3 ∧ 0 ≤ p2.toInt ∧ p2.toInt ≤ 60) ∧ iv2 (31 + 3 * k) = 1 ∧ iv2 (32 + 3 * k) = p1 ∧ iv2 (33 + 3 * k) = p2) ∨ (¬ (p0.toInt = (k : Int) ∧ 0 ≤ p1.toInt ∧ p1.toInt ≤ 3 ∧ 0 ≤ p2.toInt ∧ p2.toInt ≤ 60) ∧ iv2 (31 + 3 * k) = iv (31 + 3 * k) ∧ iv2 (32 + 3 * k) = iv (32 + 3 * k) ∧ iv2 (33 + 3 * k) = iv (33 + 3 * k)) := by
  obtain ⟨h0, h1, h2, h3⟩ := h
  rcases (show k = 0 ∨ k = 1 ∨ k = 2 ∨ k = 3 by omega) with rfl | rfl | rfl | rfl
  · exact h0
  · exact h1
  · exact h2
  · exact h3
theorem REL.row {iv iv2 : Nat → Int32} {ja ja2 : Nat → Nat → Int32} {p0 p1 p2 : Int32} (h : REL iv ja) (hx : RWX iv iv2 p0 p1 p2) (hm : RMXd ja ja2 p0 p1 p2) : REL iv2 ja2 := fun k hk => by
  have ek : p0.toNatClampNeg = p0.toInt.toNat := rfl
  rcases hm.1 with ⟨g, e0, e1⟩ | ⟨g, e0, e1⟩
  · rw [e0, e1]
    rcases hx.at hk with ⟨g2, a1, a2, a3⟩ | ⟨g2, a1, a2, a3⟩
    · have e : p0.toNatClampNeg = k := by omega
      rw [a1, a2, a3, e, pk_us, pk_us]
      exact Or.inr ⟨rfl, rfl, g2.2.1, rfl⟩
    · have e : k ≠ p0.toNatClampNeg := fun q => g2 ⟨by omega, g.2.2⟩
      rw [a1, a2, a3, pk_un e, pk_un e]
      exact h k hk
  · rw [e0, e1]
    rcases hx.at hk with ⟨g2, a1, a2, a3⟩ | ⟨g2, a1, a2, a3⟩
    · exact absurd ⟨by omega, by omega, g2.2⟩ g
    · rw [a1, a2, a3]
      exact h k hk
theorem cmp_write {iv : Nat → Int32} {ja : Nat → Nat → Int32} {p0 p1 r r2 : Int32} (h : REL iv ja) (hx : WRX iv p0 p1 r) (hm : r2 = if (0 ≤ p0.toInt ∧ p0.toInt ≤ 3) then (if (ja 0 p0.toNatClampNeg).toInt = -1 then -6 else if 0 ≤ p1.toInt ∧ p1.toInt ≤ (ja 1 p0.toNatClampNeg).toInt - 1 then 0 else -7) else -2) : r = r2 := by
  obtain ⟨h0, h1, h2, h3, h4⟩ := hx
  by_cases g : 0 ≤ p0.toInt ∧ p0.toInt ≤ 3
  · rw [if_pos g] at hm
    have key : ∀ k : Nat, k < 4 → p0.toInt = (k : Int) → r = (if (iv (31 + 3 * k)).toInt = 0 then -6 else if 0 ≤ p1.toInt ∧ p1.toInt < (iv (33 + 3 * k)).toInt then 0 else -7) := by
      intro k hk e
      rcases (show k = 0 ∨ k = 1 ∨ k = 2 ∨ k = 3 by omega) with rfl | rfl | rfl | rfl
      · exact h0 e
      · exact h1 e
      · exact h2 e
      · exact h3 e
    have ek : p0.toNatClampNeg = p0.toInt.toNat := rfl
    have hk : p0.toNatClampNeg < 4 := by omega
    rw [hm, key p0.toNatClampNeg hk (by omega)]
    generalize p0.toNatClampNeg = k at hk
    have z0 : (0 : Int32).toInt = 0 := by decide
    have z1 : (1 : Int32).toInt = 1 := by decide
    have zm : (-1 : Int32).toInt = -1 := by decide
    rcases h k hk with ⟨a, b⟩ | ⟨a, b, c, d⟩
    · rw [a, b, z0, zm, if_pos rfl, if_pos rfl]
    · have hne : ¬ (ja 0 k).toInt = -1 := by omega
      rw [a, z1, ← d, if_neg (show ¬ (1 : Int) = 0 by decide), if_neg hne]
      by_cases q : 0 ≤ p1.toInt ∧ p1.toInt < (ja 1 k).toInt
      · rw [if_pos q, if_pos ⟨q.1, by omega⟩]
      · rw [if_neg q, if_neg (fun z => q ⟨z.1, by omega⟩)]
  · rw [if_neg g] at hm
    rw [hm]
    exact h4 g
theorem cmp_paste {iv : Nat → Int32} {ja : Nat → Nat → Int32} {p0 p1 p2 p3 p4 r r2 : Int32} (h : REL iv ja) (hx : PAX iv p0 p1 p2 p3 p4 r) (hm : r2 = if (0 ≤ p0.toInt ∧ p0.toInt ≤ 3) ∧ (0 ≤ p2.toInt ∧ p2.toInt ≤ 3) then (if (ja 0 p0.toNatClampNeg).toInt = -1 ∨ (ja 0 p2.toNatClampNeg).toInt = -1 then -6 else if ¬ (ja 0 p0.toNatClampNeg).toInt = (ja 0 p2.toNatClampNeg).toInt then -8 else if p1.toInt < 0 ∨ p3.toInt < 0 ∨ p4.toInt < 0 ∨ (ja 1 p0.toNatClampNeg).toInt < p1.toInt + p4.toInt ∨ (ja 1 p2.toNatClampNeg).toInt < p3.toInt + p4.toInt then -7 else 0) else -2) : r = r2 := by
  by_cases g : (0 ≤ p0.toInt ∧ p0.toInt ≤ 3) ∧ (0 ≤ p2.toInt ∧ p2.toInt ≤ 3)
  · rw [if_pos g] at hm
    have key : ∀ a b : Nat, a < 4 → b < 4 → p0.toInt = (a : Int) → p2.toInt = (b : Int) → r = (if (iv (31 + 3 * a)).toInt = 0 ∨ (iv (31 + 3 * b)).toInt = 0 then -6 else if ¬ (iv (32 + 3 * a)).toInt = (iv (32 + 3 * b)).toInt then -8 else if (0 ≤ p1.toInt ∧ 0 ≤ p4.toInt ∧ p1.toInt + p4.toInt ≤ (iv (33 + 3 * a)).toInt) ∧ (0 ≤ p3.toInt ∧ 0 ≤ p4.toInt ∧ p3.toInt + p4.toInt ≤ (iv (33 + 3 * b)).toInt) then 0 else -7) := by
      obtain ⟨h00, h01, h02, h03, h10, h11, h12, h13, h20, h21, h22, h23, h30, h31, h32, h33, hL⟩ := hx
      intro a b ha hb ea eb
      rcases (show a = 0 ∨ a = 1 ∨ a = 2 ∨ a = 3 by omega) with rfl | rfl | rfl | rfl <;> rcases (show b = 0 ∨ b = 1 ∨ b = 2 ∨ b = 3 by omega) with rfl | rfl | rfl | rfl
      · exact h00 ea eb
      · exact h01 ea eb
      · exact h02 ea eb
      · exact h03 ea eb
      · exact h10 ea eb
      · exact h11 ea eb
      · exact h12 ea eb
      · exact h13 ea eb
      · exact h20 ea eb
      · exact h21 ea eb
      · exact h22 ea eb
      · exact h23 ea eb
      · exact h30 ea eb
      · exact h31 ea eb
      · exact h32 ea eb
      · exact h33 ea eb
    have e0 : p0.toNatClampNeg = p0.toInt.toNat := rfl
    have e2 : p2.toNatClampNeg = p2.toInt.toNat := rfl
    have ha : p0.toNatClampNeg < 4 := by omega
    have hb : p2.toNatClampNeg < 4 := by omega
    rw [hm, key p0.toNatClampNeg p2.toNatClampNeg ha hb (by omega) (by omega)]
    generalize p0.toNatClampNeg = a at ha
    generalize p2.toNatClampNeg = b at hb
    have z0 : (0 : Int32).toInt = 0 := by decide
    have z1 : (1 : Int32).toInt = 1 := by decide
    have zm : (-1 : Int32).toInt = -1 := by decide
    rcases h a ha with ⟨a1, a2⟩ | ⟨a1, a2, a3, a4⟩
    · rw [a1, a2, z0, zm, if_pos (Or.inl rfl), if_pos (Or.inl rfl)]
    · rcases h b hb with ⟨b1, b2⟩ | ⟨b1, b2, b3, b4⟩
      · rw [b1, b2, z0, zm, if_pos (Or.inr rfl), if_pos (Or.inr rfl)]
      · have hne : ¬ ((ja 0 a).toInt = -1 ∨ (ja 0 b).toInt = -1) := by omega
        rw [a1, b1, z1, ← a2, ← b2, ← a4, ← b4, if_neg (show ¬ ((1 : Int) = 0 ∨ (1 : Int) = 0) by decide), if_neg hne]
        by_cases q : (ja 0 a).toInt = (ja 0 b).toInt
        · have hqq : ¬ ¬ (ja 0 a).toInt = (ja 0 b).toInt := fun z => z q
          rw [if_neg hqq, if_neg hqq]
          by_cases q2 : (0 ≤ p1.toInt ∧ 0 ≤ p4.toInt ∧ p1.toInt + p4.toInt ≤ (ja 1 a).toInt) ∧ (0 ≤ p3.toInt ∧ 0 ≤ p4.toInt ∧ p3.toInt + p4.toInt ≤ (ja 1 b).toInt)
          · have q3 : ¬ (p1.toInt < 0 ∨ p3.toInt < 0 ∨ p4.toInt < 0 ∨ (ja 1 a).toInt < p1.toInt + p4.toInt ∨ (ja 1 b).toInt < p3.toInt + p4.toInt) := by omega
            rw [if_pos q2, if_neg q3]
          · have q3 : p1.toInt < 0 ∨ p3.toInt < 0 ∨ p4.toInt < 0 ∨ (ja 1 a).toInt < p1.toInt + p4.toInt ∨ (ja 1 b).toInt < p3.toInt + p4.toInt := by omega
            rw [if_neg q2, if_pos q3]
        · rw [if_pos q, if_pos q]
  · rw [if_neg g] at hm
    rw [hm]
    exact hx.2.2.2.2.2.2.2.2.2.2.2.2.2.2.2.2 g
theorem KR.keep {fI f2 : Nat → Option Nat} {ja ja2 : Nat → Nat → Int32} {p0 : Int32} {k : Nat} (h : KR fI ja) (hm : KMXd ja ja2 p0) (hp : p0.toInt = (k : Int)) (hk : k < 3) (h1 : f2 k ≠ none) (h2 : ∀ j, j < 3 → j ≠ k → f2 j = fI j) : KR f2 ja2 := fun j hj => by
  have ek : p0.toNatClampNeg = p0.toInt.toNat := rfl
  have e : p0.toNatClampNeg = k := by omega
  rcases hm.1 with ⟨g, e9⟩ | ⟨g, e9⟩
  · rw [e9, e]
    by_cases c : j = k
    · subst c
      rw [pk_us]
      exact Or.inr ⟨h1, by decide⟩
    · rw [pk_un c, h2 j hj c]
      exact h j hj
  · exact absurd ⟨by omega, by omega⟩ g
theorem KR.out {fI f2 : Nat → Option Nat} {ja ja2 : Nat → Nat → Int32} {p0 : Int32} (h : KR fI ja) (hf : f2 = fI) (hm : KMXd ja ja2 p0) (hp : ¬ (0 ≤ p0.toInt ∧ p0.toInt ≤ 2)) : KR f2 ja2 := by
  rcases hm.1 with ⟨g, e9⟩ | ⟨g, e9⟩
  · exact absurd g hp
  · exact h.same hf e9

theorem lx_keep_0_n (l : Launch) (dC : Nat → ClassId) (dI : Nat → Nat → Nat) (sz : Nat) (ad : Nat → Nat) (kc : Nat → ClassId) (fr gnS wS : Nat → Option Nat) (iv : Nat → Int32) (lv : Nat → Int64) (ia : Nat → Nat → Int32) (la : Nat → Nat → Int64) (ot : Option Nat) (fI : Nat → Option Nat) (hX : FX ad fr gnS wS) (hR : XR iv ia) {t1 t2 : va_W} (i1 : IMg (kc 8) (kc 13) (fI 1) t1) (i2 : IMg (kc 8) (kc 13) (fI 2) t2) (hI : fI 0 = none) : Met l yX6_keep wz_X6_keep_0_n ({ frames := 3, cells := 9, slots := 349, locals := 86 }) (PX [.ref (ad 0), .int 0] (dC, dI) vwCl (XT kc) (XC ad kc fr gnS wS iv lv ia la ot fI ++ ([] ++ (t1 ++ t2))) sz Kx) (QX (XI ad kc fr gnS wS (fun iv2 nI9 => SR iv iv2 ∧ nI9 0 ≠ none ∧ nI9 1 = fI 1 ∧ nI9 2 = fI 2) (fun r => r = 0)) (dC, dI) vwCl (XC ad kc fr gnS wS iv lv ia la ot fI ++ ([] ++ (t1 ++ t2))) sz) 9 349 (va_A (XC ad kc fr gnS wS iv lv ia la ot fI ++ ([] ++ (t1 ++ t2))) sz) := by
  refine Met_perm (Met_app (t := t1 ++ t2) (kx_keep_0_n l dC dI sz ad kc fr gnS wS iv lv ia la ot fI hX hR hI) (fun _ _ h => h)) (List.Perm.refl _) (fun _ _ h => h) (fun V r hV => ?_)
  obtain ⟨V0, ⟨hp, nI9, ga, gi, gl, gj, gk, hn, hn1, hn2, hG, rfl⟩, rfl⟩ := hV
  exact ⟨_, ⟨hp, iv, nI9, ⟨⟨rfl, rfl, rfl, rfl, rfl, rfl, rfl, rfl, rfl, rfl, rfl, rfl⟩, (by rw [hn]; exact fun q9 => by cases q9), hn1, hn2⟩, lv, ia, la, ot, GC (kc 8) (kc 13) ga gi gl gj gk, t1, t2, hR, (Or.inr ⟨ga, gi, gl, gj, gk, hn, rfl, hG⟩), (by rw [hn1]; exact i1), (by rw [hn2]; exact i2), rfl⟩, pm0 _ _ _ _⟩

theorem lx_keep_0_s (l : Launch) (dC : Nat → ClassId) (dI : Nat → Nat → Nat) (sz : Nat) (ad : Nat → Nat) (kc : Nat → ClassId) (fr gnS wS : Nat → Option Nat) (iv : Nat → Int32) (lv : Nat → Int64) (ia : Nat → Nat → Int32) (la : Nat → Nat → Int64) (ot : Option Nat) (fI : Nat → Option Nat) (hX : FX ad fr gnS wS) (hR : XR iv ia) (ga : Nat → Nat) (gi : Nat → Int32) (gl : Nat → Int64) (gj : Nat → Nat → Int32) (gk : Nat → Nat → Int64) (hG : GRr gi gj) {t1 t2 : va_W} (i1 : IMg (kc 8) (kc 13) (fI 1) t1) (i2 : IMg (kc 8) (kc 13) (fI 2) t2) (hI : fI 0 = some (ga 0)) : Met l yX6_keep wz_X6_keep_0_s ({ frames := 3, cells := 0, slots := 0, locals := 86 }) (PX [.ref (ad 0), .int 0] (dC, dI) vwCl (XT kc) (XC ad kc fr gnS wS iv lv ia la ot fI ++ ((GC (kc 8) (kc 13) ga gi gl gj gk) ++ (t1 ++ t2))) sz (fun _ => True)) (QX (XI ad kc fr gnS wS (fun iv2 nI9 => SR iv iv2 ∧ nI9 = fI) (fun r => r = 0)) (dC, dI) vwCl (XC ad kc fr gnS wS iv lv ia la ot fI ++ ((GC (kc 8) (kc 13) ga gi gl gj gk) ++ (t1 ++ t2))) sz) 0 0 (va_A (XC ad kc fr gnS wS iv lv ia la ot fI ++ ((GC (kc 8) (kc 13) ga gi gl gj gk) ++ (t1 ++ t2))) sz) := by
  refine Met_perm (Met_app (t := t1 ++ t2) (kx_keep_0_s l dC dI sz ad kc fr gnS wS iv lv ia la ot fI hX hR ga gi gl gj gk hG hI) (fun _ _ h => h)) (pm0 _ _ _ _) (fun _ _ h => h) (fun V r hV => ?_)
  obtain ⟨V0, ⟨hp, iv2, lv2, ia2, la2, gi2, gl2, gj2, gk2, hs2, hR2, hG2, rfl⟩, rfl⟩ := hV
  exact ⟨_, ⟨hp, iv2, fI, ⟨hs2, rfl⟩, lv2, ia2, la2, ot, GC (kc 8) (kc 13) ga gi2 gl2 gj2 gk2, t1, t2, hR2, (Or.inr ⟨ga, gi2, gl2, gj2, gk2, hI, rfl, hG2⟩), i1, i2, rfl⟩, pm0 _ _ _ _⟩

theorem lx_back_0_n (l : Launch) (dC : Nat → ClassId) (dI : Nat → Nat → Nat) (sz : Nat) (ad : Nat → Nat) (kc : Nat → ClassId) (fr gnS wS : Nat → Option Nat) (iv : Nat → Int32) (lv : Nat → Int64) (ia : Nat → Nat → Int32) (la : Nat → Nat → Int64) (ot : Option Nat) (fI : Nat → Option Nat) (hX : FX ad fr gnS wS) (hR : XR iv ia) {t1 t2 : va_W} (i1 : IMg (kc 8) (kc 13) (fI 1) t1) (i2 : IMg (kc 8) (kc 13) (fI 2) t2) (hI : fI 0 = none) : Met l yX6_back wz_X6_back_0_n ({ frames := 0, cells := 0, slots := 0, locals := 0 }) (PX [.ref (ad 0), .int 0] (dC, dI) vwCl (XT kc) (XC ad kc fr gnS wS iv lv ia la ot fI ++ ([] ++ (t1 ++ t2))) sz (fun _ => True)) (QX (XI ad kc fr gnS wS (fun iv2 nI9 => SR iv iv2 ∧ nI9 = fI) (fun r => r = -6)) (dC, dI) vwCl (XC ad kc fr gnS wS iv lv ia la ot fI ++ ([] ++ (t1 ++ t2))) sz) 0 0 (va_A (XC ad kc fr gnS wS iv lv ia la ot fI ++ ([] ++ (t1 ++ t2))) sz) := by
  refine Met_perm (Met_app (t := t1 ++ t2) (kx_back_0_n l dC dI sz ad kc fr gnS wS iv lv ia la ot fI hX hR hI) (fun _ _ h => h)) (List.Perm.refl _) (fun _ _ h => h) (fun V r hV => ?_)
  obtain ⟨V0, ⟨hp, iv2, lv2, ia2, la2, ot2, hs2, hR2, rfl⟩, rfl⟩ := hV
  exact ⟨_, ⟨hp, iv2, fI, ⟨hs2, rfl⟩, lv2, ia2, la2, ot2, [], t1, t2, hR2, (Or.inl ⟨hI, rfl⟩), i1, i2, rfl⟩, List.Perm.refl _⟩

theorem lx_back_0_s (l : Launch) (dC : Nat → ClassId) (dI : Nat → Nat → Nat) (sz : Nat) (ad : Nat → Nat) (kc : Nat → ClassId) (fr gnS wS : Nat → Option Nat) (iv : Nat → Int32) (lv : Nat → Int64) (ia : Nat → Nat → Int32) (la : Nat → Nat → Int64) (ot : Option Nat) (fI : Nat → Option Nat) (hX : FX ad fr gnS wS) (hR : XR iv ia) (ga : Nat → Nat) (gi : Nat → Int32) (gl : Nat → Int64) (gj : Nat → Nat → Int32) (gk : Nat → Nat → Int64) (hG : GRr gi gj) {t1 t2 : va_W} (i1 : IMg (kc 8) (kc 13) (fI 1) t1) (i2 : IMg (kc 8) (kc 13) (fI 2) t2) (hI : fI 0 = some (ga 0)) : Met l yX6_back wz_X6_back_0_s ({ frames := 3, cells := 0, slots := 0, locals := 86 }) (PX [.ref (ad 0), .int 0] (dC, dI) vwCl (XT kc) (XC ad kc fr gnS wS iv lv ia la ot fI ++ ((GC (kc 8) (kc 13) ga gi gl gj gk) ++ (t1 ++ t2))) sz (fun _ => True)) (QX (XI ad kc fr gnS wS (fun iv2 nI9 => SR iv iv2 ∧ nI9 = fI) (fun r => r = 0)) (dC, dI) vwCl (XC ad kc fr gnS wS iv lv ia la ot fI ++ ((GC (kc 8) (kc 13) ga gi gl gj gk) ++ (t1 ++ t2))) sz) 0 0 (va_A (XC ad kc fr gnS wS iv lv ia la ot fI ++ ((GC (kc 8) (kc 13) ga gi gl gj gk) ++ (t1 ++ t2))) sz) := by
  refine Met_perm (Met_app (t := t1 ++ t2) (kx_back_0_s l dC dI sz ad kc fr gnS wS iv lv ia la ot fI hX hR ga gi gl gj gk hG hI) (fun _ _ h => h)) (pm0 _ _ _ _) (fun _ _ h => h) (fun V r hV => ?_)
  obtain ⟨V0, ⟨hp, iv2, lv2, ia2, la2, gi2, gl2, gj2, gk2, hs2, hR2, hG2, rfl⟩, rfl⟩ := hV
  exact ⟨_, ⟨hp, iv2, fI, ⟨hs2, rfl⟩, lv2, ia2, la2, ot, GC (kc 8) (kc 13) ga gi2 gl2 gj2 gk2, t1, t2, hR2, (Or.inr ⟨ga, gi2, gl2, gj2, gk2, hI, rfl, hG2⟩), i1, i2, rfl⟩, pm0 _ _ _ _⟩

theorem lx_keep_1_n (l : Launch) (dC : Nat → ClassId) (dI : Nat → Nat → Nat) (sz : Nat) (ad : Nat → Nat) (kc : Nat → ClassId) (fr gnS wS : Nat → Option Nat) (iv : Nat → Int32) (lv : Nat → Int64) (ia : Nat → Nat → Int32) (la : Nat → Nat → Int64) (ot : Option Nat) (fI : Nat → Option Nat) (hX : FX ad fr gnS wS) (hR : XR iv ia) {t0 t2 : va_W} (i0 : IMg (kc 8) (kc 13) (fI 0) t0) (i2 : IMg (kc 8) (kc 13) (fI 2) t2) (hI : fI 1 = none) : Met l yX6_keep wz_X6_keep_1_n ({ frames := 3, cells := 9, slots := 349, locals := 86 }) (PX [.ref (ad 0), .int 1] (dC, dI) vwCl (XT kc) (XC ad kc fr gnS wS iv lv ia la ot fI ++ (t0 ++ ([] ++ t2))) sz Kx) (QX (XI ad kc fr gnS wS (fun iv2 nI9 => SR iv iv2 ∧ nI9 0 = fI 0 ∧ nI9 1 ≠ none ∧ nI9 2 = fI 2) (fun r => r = 0)) (dC, dI) vwCl (XC ad kc fr gnS wS iv lv ia la ot fI ++ (t0 ++ ([] ++ t2))) sz) 9 349 (va_A (XC ad kc fr gnS wS iv lv ia la ot fI ++ (t0 ++ ([] ++ t2))) sz) := by
  refine Met_perm (Met_app (t := t0 ++ t2) (kx_keep_1_n l dC dI sz ad kc fr gnS wS iv lv ia la ot fI hX hR hI) (fun _ _ h => h)) (List.Perm.refl _) (fun _ _ h => h) (fun V r hV => ?_)
  obtain ⟨V0, ⟨hp, nI9, ga, gi, gl, gj, gk, hn, hn0, hn2, hG, rfl⟩, rfl⟩ := hV
  exact ⟨_, ⟨hp, iv, nI9, ⟨⟨rfl, rfl, rfl, rfl, rfl, rfl, rfl, rfl, rfl, rfl, rfl, rfl⟩, hn0, (by rw [hn]; exact fun q9 => by cases q9), hn2⟩, lv, ia, la, ot, t0, GC (kc 8) (kc 13) ga gi gl gj gk, t2, hR, (by rw [hn0]; exact i0), (Or.inr ⟨ga, gi, gl, gj, gk, hn, rfl, hG⟩), (by rw [hn2]; exact i2), rfl⟩, pm1 _ _ _ _⟩

theorem lx_keep_1_s (l : Launch) (dC : Nat → ClassId) (dI : Nat → Nat → Nat) (sz : Nat) (ad : Nat → Nat) (kc : Nat → ClassId) (fr gnS wS : Nat → Option Nat) (iv : Nat → Int32) (lv : Nat → Int64) (ia : Nat → Nat → Int32) (la : Nat → Nat → Int64) (ot : Option Nat) (fI : Nat → Option Nat) (hX : FX ad fr gnS wS) (hR : XR iv ia) (ga : Nat → Nat) (gi : Nat → Int32) (gl : Nat → Int64) (gj : Nat → Nat → Int32) (gk : Nat → Nat → Int64) (hG : GRr gi gj) {t0 t2 : va_W} (i0 : IMg (kc 8) (kc 13) (fI 0) t0) (i2 : IMg (kc 8) (kc 13) (fI 2) t2) (hI : fI 1 = some (ga 0)) : Met l yX6_keep wz_X6_keep_1_s ({ frames := 3, cells := 0, slots := 0, locals := 86 }) (PX [.ref (ad 0), .int 1] (dC, dI) vwCl (XT kc) (XC ad kc fr gnS wS iv lv ia la ot fI ++ (t0 ++ ((GC (kc 8) (kc 13) ga gi gl gj gk) ++ t2))) sz (fun _ => True)) (QX (XI ad kc fr gnS wS (fun iv2 nI9 => SR iv iv2 ∧ nI9 = fI) (fun r => r = 0)) (dC, dI) vwCl (XC ad kc fr gnS wS iv lv ia la ot fI ++ (t0 ++ ((GC (kc 8) (kc 13) ga gi gl gj gk) ++ t2))) sz) 0 0 (va_A (XC ad kc fr gnS wS iv lv ia la ot fI ++ (t0 ++ ((GC (kc 8) (kc 13) ga gi gl gj gk) ++ t2))) sz) := by
  refine Met_perm (Met_app (t := t0 ++ t2) (kx_keep_1_s l dC dI sz ad kc fr gnS wS iv lv ia la ot fI hX hR ga gi gl gj gk hG hI) (fun _ _ h => h)) (pm1 _ _ _ _) (fun _ _ h => h) (fun V r hV => ?_)
  obtain ⟨V0, ⟨hp, iv2, lv2, ia2, la2, gi2, gl2, gj2, gk2, hs2, hR2, hG2, rfl⟩, rfl⟩ := hV
  exact ⟨_, ⟨hp, iv2, fI, ⟨hs2, rfl⟩, lv2, ia2, la2, ot, t0, GC (kc 8) (kc 13) ga gi2 gl2 gj2 gk2, t2, hR2, i0, (Or.inr ⟨ga, gi2, gl2, gj2, gk2, hI, rfl, hG2⟩), i2, rfl⟩, pm1 _ _ _ _⟩

theorem lx_back_1_n (l : Launch) (dC : Nat → ClassId) (dI : Nat → Nat → Nat) (sz : Nat) (ad : Nat → Nat) (kc : Nat → ClassId) (fr gnS wS : Nat → Option Nat) (iv : Nat → Int32) (lv : Nat → Int64) (ia : Nat → Nat → Int32) (la : Nat → Nat → Int64) (ot : Option Nat) (fI : Nat → Option Nat) (hX : FX ad fr gnS wS) (hR : XR iv ia) {t0 t2 : va_W} (i0 : IMg (kc 8) (kc 13) (fI 0) t0) (i2 : IMg (kc 8) (kc 13) (fI 2) t2) (hI : fI 1 = none) : Met l yX6_back wz_X6_back_1_n ({ frames := 0, cells := 0, slots := 0, locals := 0 }) (PX [.ref (ad 0), .int 1] (dC, dI) vwCl (XT kc) (XC ad kc fr gnS wS iv lv ia la ot fI ++ (t0 ++ ([] ++ t2))) sz (fun _ => True)) (QX (XI ad kc fr gnS wS (fun iv2 nI9 => SR iv iv2 ∧ nI9 = fI) (fun r => r = -6)) (dC, dI) vwCl (XC ad kc fr gnS wS iv lv ia la ot fI ++ (t0 ++ ([] ++ t2))) sz) 0 0 (va_A (XC ad kc fr gnS wS iv lv ia la ot fI ++ (t0 ++ ([] ++ t2))) sz) := by
  refine Met_perm (Met_app (t := t0 ++ t2) (kx_back_1_n l dC dI sz ad kc fr gnS wS iv lv ia la ot fI hX hR hI) (fun _ _ h => h)) (List.Perm.refl _) (fun _ _ h => h) (fun V r hV => ?_)
  obtain ⟨V0, ⟨hp, iv2, lv2, ia2, la2, ot2, hs2, hR2, rfl⟩, rfl⟩ := hV
  exact ⟨_, ⟨hp, iv2, fI, ⟨hs2, rfl⟩, lv2, ia2, la2, ot2, t0, [], t2, hR2, i0, (Or.inl ⟨hI, rfl⟩), i2, rfl⟩, List.Perm.refl _⟩

theorem lx_back_1_s (l : Launch) (dC : Nat → ClassId) (dI : Nat → Nat → Nat) (sz : Nat) (ad : Nat → Nat) (kc : Nat → ClassId) (fr gnS wS : Nat → Option Nat) (iv : Nat → Int32) (lv : Nat → Int64) (ia : Nat → Nat → Int32) (la : Nat → Nat → Int64) (ot : Option Nat) (fI : Nat → Option Nat) (hX : FX ad fr gnS wS) (hR : XR iv ia) (ga : Nat → Nat) (gi : Nat → Int32) (gl : Nat → Int64) (gj : Nat → Nat → Int32) (gk : Nat → Nat → Int64) (hG : GRr gi gj) {t0 t2 : va_W} (i0 : IMg (kc 8) (kc 13) (fI 0) t0) (i2 : IMg (kc 8) (kc 13) (fI 2) t2) (hI : fI 1 = some (ga 0)) : Met l yX6_back wz_X6_back_1_s ({ frames := 3, cells := 0, slots := 0, locals := 86 }) (PX [.ref (ad 0), .int 1] (dC, dI) vwCl (XT kc) (XC ad kc fr gnS wS iv lv ia la ot fI ++ (t0 ++ ((GC (kc 8) (kc 13) ga gi gl gj gk) ++ t2))) sz (fun _ => True)) (QX (XI ad kc fr gnS wS (fun iv2 nI9 => SR iv iv2 ∧ nI9 = fI) (fun r => r = 0)) (dC, dI) vwCl (XC ad kc fr gnS wS iv lv ia la ot fI ++ (t0 ++ ((GC (kc 8) (kc 13) ga gi gl gj gk) ++ t2))) sz) 0 0 (va_A (XC ad kc fr gnS wS iv lv ia la ot fI ++ (t0 ++ ((GC (kc 8) (kc 13) ga gi gl gj gk) ++ t2))) sz) := by
  refine Met_perm (Met_app (t := t0 ++ t2) (kx_back_1_s l dC dI sz ad kc fr gnS wS iv lv ia la ot fI hX hR ga gi gl gj gk hG hI) (fun _ _ h => h)) (pm1 _ _ _ _) (fun _ _ h => h) (fun V r hV => ?_)
  obtain ⟨V0, ⟨hp, iv2, lv2, ia2, la2, gi2, gl2, gj2, gk2, hs2, hR2, hG2, rfl⟩, rfl⟩ := hV
  exact ⟨_, ⟨hp, iv2, fI, ⟨hs2, rfl⟩, lv2, ia2, la2, ot, t0, GC (kc 8) (kc 13) ga gi2 gl2 gj2 gk2, t2, hR2, i0, (Or.inr ⟨ga, gi2, gl2, gj2, gk2, hI, rfl, hG2⟩), i2, rfl⟩, pm1 _ _ _ _⟩

theorem lx_keep_2_n (l : Launch) (dC : Nat → ClassId) (dI : Nat → Nat → Nat) (sz : Nat) (ad : Nat → Nat) (kc : Nat → ClassId) (fr gnS wS : Nat → Option Nat) (iv : Nat → Int32) (lv : Nat → Int64) (ia : Nat → Nat → Int32) (la : Nat → Nat → Int64) (ot : Option Nat) (fI : Nat → Option Nat) (hX : FX ad fr gnS wS) (hR : XR iv ia) {t0 t1 : va_W} (i0 : IMg (kc 8) (kc 13) (fI 0) t0) (i1 : IMg (kc 8) (kc 13) (fI 1) t1) (hI : fI 2 = none) : Met l yX6_keep wz_X6_keep_2_n ({ frames := 3, cells := 9, slots := 349, locals := 86 }) (PX [.ref (ad 0), .int 2] (dC, dI) vwCl (XT kc) (XC ad kc fr gnS wS iv lv ia la ot fI ++ (t0 ++ (t1 ++ []))) sz Kx) (QX (XI ad kc fr gnS wS (fun iv2 nI9 => SR iv iv2 ∧ nI9 0 = fI 0 ∧ nI9 1 = fI 1 ∧ nI9 2 ≠ none) (fun r => r = 0)) (dC, dI) vwCl (XC ad kc fr gnS wS iv lv ia la ot fI ++ (t0 ++ (t1 ++ []))) sz) 9 349 (va_A (XC ad kc fr gnS wS iv lv ia la ot fI ++ (t0 ++ (t1 ++ []))) sz) := by
  refine Met_perm (Met_app (t := t0 ++ t1) (kx_keep_2_n l dC dI sz ad kc fr gnS wS iv lv ia la ot fI hX hR hI) (fun _ _ h => h)) (by rw [List.append_nil]) (fun _ _ h => h) (fun V r hV => ?_)
  obtain ⟨V0, ⟨hp, nI9, ga, gi, gl, gj, gk, hn, hn0, hn1, hG, rfl⟩, rfl⟩ := hV
  exact ⟨_, ⟨hp, iv, nI9, ⟨⟨rfl, rfl, rfl, rfl, rfl, rfl, rfl, rfl, rfl, rfl, rfl, rfl⟩, hn0, hn1, (by rw [hn]; exact fun q9 => by cases q9)⟩, lv, ia, la, ot, t0, t1, GC (kc 8) (kc 13) ga gi gl gj gk, hR, (by rw [hn0]; exact i0), (by rw [hn1]; exact i1), (Or.inr ⟨ga, gi, gl, gj, gk, hn, rfl, hG⟩), rfl⟩, pm2 _ _ _ _⟩

theorem lx_keep_2_s (l : Launch) (dC : Nat → ClassId) (dI : Nat → Nat → Nat) (sz : Nat) (ad : Nat → Nat) (kc : Nat → ClassId) (fr gnS wS : Nat → Option Nat) (iv : Nat → Int32) (lv : Nat → Int64) (ia : Nat → Nat → Int32) (la : Nat → Nat → Int64) (ot : Option Nat) (fI : Nat → Option Nat) (hX : FX ad fr gnS wS) (hR : XR iv ia) (ga : Nat → Nat) (gi : Nat → Int32) (gl : Nat → Int64) (gj : Nat → Nat → Int32) (gk : Nat → Nat → Int64) (hG : GRr gi gj) {t0 t1 : va_W} (i0 : IMg (kc 8) (kc 13) (fI 0) t0) (i1 : IMg (kc 8) (kc 13) (fI 1) t1) (hI : fI 2 = some (ga 0)) : Met l yX6_keep wz_X6_keep_2_s ({ frames := 3, cells := 0, slots := 0, locals := 86 }) (PX [.ref (ad 0), .int 2] (dC, dI) vwCl (XT kc) (XC ad kc fr gnS wS iv lv ia la ot fI ++ (t0 ++ (t1 ++ (GC (kc 8) (kc 13) ga gi gl gj gk)))) sz (fun _ => True)) (QX (XI ad kc fr gnS wS (fun iv2 nI9 => SR iv iv2 ∧ nI9 = fI) (fun r => r = 0)) (dC, dI) vwCl (XC ad kc fr gnS wS iv lv ia la ot fI ++ (t0 ++ (t1 ++ (GC (kc 8) (kc 13) ga gi gl gj gk)))) sz) 0 0 (va_A (XC ad kc fr gnS wS iv lv ia la ot fI ++ (t0 ++ (t1 ++ (GC (kc 8) (kc 13) ga gi gl gj gk)))) sz) := by
  refine Met_perm (Met_app (t := t0 ++ t1) (kx_keep_2_s l dC dI sz ad kc fr gnS wS iv lv ia la ot fI hX hR ga gi gl gj gk hG hI) (fun _ _ h => h)) (pm2 _ _ _ _) (fun _ _ h => h) (fun V r hV => ?_)
  obtain ⟨V0, ⟨hp, iv2, lv2, ia2, la2, gi2, gl2, gj2, gk2, hs2, hR2, hG2, rfl⟩, rfl⟩ := hV
  exact ⟨_, ⟨hp, iv2, fI, ⟨hs2, rfl⟩, lv2, ia2, la2, ot, t0, t1, GC (kc 8) (kc 13) ga gi2 gl2 gj2 gk2, hR2, i0, i1, (Or.inr ⟨ga, gi2, gl2, gj2, gk2, hI, rfl, hG2⟩), rfl⟩, pm2 _ _ _ _⟩

theorem lx_back_2_n (l : Launch) (dC : Nat → ClassId) (dI : Nat → Nat → Nat) (sz : Nat) (ad : Nat → Nat) (kc : Nat → ClassId) (fr gnS wS : Nat → Option Nat) (iv : Nat → Int32) (lv : Nat → Int64) (ia : Nat → Nat → Int32) (la : Nat → Nat → Int64) (ot : Option Nat) (fI : Nat → Option Nat) (hX : FX ad fr gnS wS) (hR : XR iv ia) {t0 t1 : va_W} (i0 : IMg (kc 8) (kc 13) (fI 0) t0) (i1 : IMg (kc 8) (kc 13) (fI 1) t1) (hI : fI 2 = none) : Met l yX6_back wz_X6_back_2_n ({ frames := 0, cells := 0, slots := 0, locals := 0 }) (PX [.ref (ad 0), .int 2] (dC, dI) vwCl (XT kc) (XC ad kc fr gnS wS iv lv ia la ot fI ++ (t0 ++ (t1 ++ []))) sz (fun _ => True)) (QX (XI ad kc fr gnS wS (fun iv2 nI9 => SR iv iv2 ∧ nI9 = fI) (fun r => r = -6)) (dC, dI) vwCl (XC ad kc fr gnS wS iv lv ia la ot fI ++ (t0 ++ (t1 ++ []))) sz) 0 0 (va_A (XC ad kc fr gnS wS iv lv ia la ot fI ++ (t0 ++ (t1 ++ []))) sz) := by
  refine Met_perm (Met_app (t := t0 ++ t1) (kx_back_2_n l dC dI sz ad kc fr gnS wS iv lv ia la ot fI hX hR hI) (fun _ _ h => h)) (by rw [List.append_nil]) (fun _ _ h => h) (fun V r hV => ?_)
  obtain ⟨V0, ⟨hp, iv2, lv2, ia2, la2, ot2, hs2, hR2, rfl⟩, rfl⟩ := hV
  exact ⟨_, ⟨hp, iv2, fI, ⟨hs2, rfl⟩, lv2, ia2, la2, ot2, t0, t1, [], hR2, i0, i1, (Or.inl ⟨hI, rfl⟩), rfl⟩, by rw [List.append_nil]⟩

theorem lx_back_2_s (l : Launch) (dC : Nat → ClassId) (dI : Nat → Nat → Nat) (sz : Nat) (ad : Nat → Nat) (kc : Nat → ClassId) (fr gnS wS : Nat → Option Nat) (iv : Nat → Int32) (lv : Nat → Int64) (ia : Nat → Nat → Int32) (la : Nat → Nat → Int64) (ot : Option Nat) (fI : Nat → Option Nat) (hX : FX ad fr gnS wS) (hR : XR iv ia) (ga : Nat → Nat) (gi : Nat → Int32) (gl : Nat → Int64) (gj : Nat → Nat → Int32) (gk : Nat → Nat → Int64) (hG : GRr gi gj) {t0 t1 : va_W} (i0 : IMg (kc 8) (kc 13) (fI 0) t0) (i1 : IMg (kc 8) (kc 13) (fI 1) t1) (hI : fI 2 = some (ga 0)) : Met l yX6_back wz_X6_back_2_s ({ frames := 3, cells := 0, slots := 0, locals := 86 }) (PX [.ref (ad 0), .int 2] (dC, dI) vwCl (XT kc) (XC ad kc fr gnS wS iv lv ia la ot fI ++ (t0 ++ (t1 ++ (GC (kc 8) (kc 13) ga gi gl gj gk)))) sz (fun _ => True)) (QX (XI ad kc fr gnS wS (fun iv2 nI9 => SR iv iv2 ∧ nI9 = fI) (fun r => r = 0)) (dC, dI) vwCl (XC ad kc fr gnS wS iv lv ia la ot fI ++ (t0 ++ (t1 ++ (GC (kc 8) (kc 13) ga gi gl gj gk)))) sz) 0 0 (va_A (XC ad kc fr gnS wS iv lv ia la ot fI ++ (t0 ++ (t1 ++ (GC (kc 8) (kc 13) ga gi gl gj gk)))) sz) := by
  refine Met_perm (Met_app (t := t0 ++ t1) (kx_back_2_s l dC dI sz ad kc fr gnS wS iv lv ia la ot fI hX hR ga gi gl gj gk hG hI) (fun _ _ h => h)) (pm2 _ _ _ _) (fun _ _ h => h) (fun V r hV => ?_)
  obtain ⟨V0, ⟨hp, iv2, lv2, ia2, la2, gi2, gl2, gj2, gk2, hs2, hR2, hG2, rfl⟩, rfl⟩ := hV
  exact ⟨_, ⟨hp, iv2, fI, ⟨hs2, rfl⟩, lv2, ia2, la2, ot, t0, t1, GC (kc 8) (kc 13) ga gi2 gl2 gj2 gk2, hR2, i0, i1, (Or.inr ⟨ga, gi2, gl2, gj2, gk2, hI, rfl, hG2⟩), rfl⟩, pm2 _ _ _ _⟩

