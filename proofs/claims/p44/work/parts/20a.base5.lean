/-! sums; the reference's distances: what bounds them, what falls, and that they are determined -/
def sm (g : Nat → Nat) : Nat → Nat
  | 0 => 0
  | n + 1 => sm g n + g n
theorem sm_eq {g g2 : Nat → Nat} {n : Nat} (h : ∀ k, k < n → g2 k = g k) : sm g2 n = sm g n := by
  induction n with
  | zero => rfl
  | succ n ih =>
    show sm g2 n + g2 n = sm g n + g n
    rw [ih (fun k hk => h k (by omega)), h n (by omega)]
theorem sm_upd {g g2 : Nat → Nat} {b n : Nat} (hb : b < n) (h : ∀ k, k ≠ b → g2 k = g k) : sm g2 n + g b = sm g n + g2 b := by
  induction n with
  | zero => omega
  | succ n ih =>
    show sm g2 n + g2 n + g b = sm g n + g n + g2 b
    by_cases e : b = n
    · rw [sm_eq (g := g) (g2 := g2) (n := n) (fun k hk => h k (by omega)), e]
      omega
    · have h1 := ih (by omega)
      have h2 := h n (fun q => e q.symm)
      omega
theorem sm_le {g : Nat → Nat} {c n : Nat} (h : ∀ k, k < n → g k ≤ c) : sm g n ≤ c * n := by
  induction n with
  | zero => exact Nat.le_refl _
  | succ n ih =>
    show sm g n + g n ≤ c * (n + 1)
    have h1 := ih (fun k hk => h k (by omega))
    have h2 := h n (by omega)
    rw [Nat.mul_add, Nat.mul_one]
    omega
def fw (x : Int32) : Nat := if x = -1 then 26 else x.toInt.toNat
def fn1 (x : Int32) : Nat := if x = -1 then 1 else 0
def FM (f : Nat → Int32) : Nat := sm (fun k => fw (f k)) 25
def NC (f : Nat → Int32) : Nat := sm (fun k => fn1 (f k)) 25
theorem NC_le (f : Nat → Int32) : NC f ≤ 25 := by
  have h := sm_le (g := fun k => fn1 (f k)) (c := 1) (n := 25) (fun k _ => by show fn1 (f k) ≤ 1; unfold fn1; split <;> omega)
  unfold NC
  omega
/-- each distance is NONE, or at most as much as there are cells with one -/
def FI (f : Nat → Int32) : Prop := ∀ k, k < 25 → f k = -1 ∨ (0 ≤ (f k).toInt ∧ (f k).toInt + (NC f : Int) ≤ 25)
theorem FI.zero {f : Nat → Int32} (h : ∀ k, k < 25 → f k = -1 ∨ f k = 0) : FI f := fun k hk => by
  rcases h k hk with e | e
  · exact Or.inl e
  · refine Or.inr ?_
    have h0 : (0 : Int32).toInt = 0 := by decide
    have h1 := NC_le f
    rw [e, h0]
    omega
theorem FI.at {f : Nat → Int32} (h : FI f) {i v : Int32} (hi : vp_in i 25) (e : v = f i.toNatClampNeg) : -1 ≤ v.toInt ∧ v.toInt ≤ 25 := by
  rcases h _ (i_clamp hi) with q | q
  · have h0 : (-1 : Int32).toInt = -1 := by decide
    rw [e, q, h0]
    omega
  · rw [e]
    omega
theorem FI.set {f : Nat → Int32} (h : FI f) {a b : Nat} (ha : a < 25) (hb : b < 25) (h1 : ¬ (f a).toInt = -1) (h2 : (f b).toInt = -1 ∨ (f a).toInt + 1 < (f b).toInt) : FI (upd f b (f a + 1)) ∧ FM (upd f b (f a + 1)) < FM f := by
  have hm : (-1 : Int32).toInt = -1 := by decide
  have hA : 0 ≤ (f a).toInt ∧ (f a).toInt + (NC f : Int) ≤ 25 := by
    rcases h a ha with q | q
    · exact absurd (by rw [q]; exact hm) h1
    · exact q
  have hv : (f a + 1).toInt = (f a).toInt + 1 := i_add (a := f a) (b := 1) rfl (by decide) (by omega) (by omega)
  have hvn : ¬ f a + 1 = -1 := fun e => by rw [e, hm] at hv; omega
  rw [← hv] at h2
  generalize f a + 1 = v at hv hvn h2
  have en : ∀ k, k ≠ b → fn1 (upd f b v k) = fn1 (f k) := fun k hk => by rw [pk_un hk]
  have ew : ∀ k, k ≠ b → fw (upd f b v k) = fw (f k) := fun k hk => by rw [pk_un hk]
  have sn : NC (upd f b v) + fn1 (f b) = NC f + fn1 (upd f b v b) := sm_upd (g := fun k => fn1 (f k)) (g2 := fun k => fn1 (upd f b v k)) hb en
  have sw : FM (upd f b v) + fw (f b) = FM f + fw (upd f b v b) := sm_upd (g := fun k => fw (f k)) (g2 := fun k => fw (upd f b v k)) hb ew
  have vn : fn1 (upd f b v b) = 0 := by rw [pk_us]; unfold fn1; rw [if_neg hvn]
  have vw : fw (upd f b v b) = v.toInt.toNat := by rw [pk_us]; unfold fw; rw [if_neg hvn]
  rw [vn] at sn
  rw [vw] at sw
  rcases h2 with q | q
  · have q : f b = -1 := i_of (q.trans hm.symm)
    have bn : fn1 (f b) = 1 := by unfold fn1; rw [if_pos q]
    have bw : fw (f b) = 26 := by unfold fw; rw [if_pos q]
    rw [bn] at sn
    rw [bw] at sw
    refine ⟨fun k hk => ?_, by omega⟩
    by_cases e : k = b
    · subst e
      rw [pk_us]
      exact Or.inr (by omega)
    · rw [pk_un e]
      rcases h k hk with z | z
      · exact Or.inl z
      · exact Or.inr (by omega)
  · have q2 := q
    have hB : ¬ f b = -1 := fun e => by rw [e, hm] at q2; omega
    have bn : fn1 (f b) = 0 := by unfold fn1; rw [if_neg hB]
    have bw : fw (f b) = (f b).toInt.toNat := by unfold fw; rw [if_neg hB]
    rw [bn] at sn
    rw [bw] at sw
    refine ⟨fun k hk => ?_, by omega⟩
    by_cases e : k = b
    · subst e
      rw [pk_us]
      rcases h k hk with z | z
      · exact absurd z hB
      · exact Or.inr (by omega)
    · rw [pk_un e]
      rcases h k hk with z | z
      · exact Or.inl z
      · exact Or.inr (by omega)
/-- nears -/
def nr (f : Nat → Int32) (a b : Nat) : Nat → Int32 := if ¬ (f a).toInt = -1 ∧ ((f b).toInt = -1 ∨ (f a).toInt + 1 < (f b).toInt) then upd f b (f a + 1) else f
/-- what nears answers -/
def NRp (f f2 : Nat → Int32) (a b : Nat) (r : Int32) : Prop := (r = 0 ∧ f2 = f ∧ nr f a b = f) ∨ (r = 1 ∧ f2 = nr f a b ∧ FM f2 < FM f)
def ss (S F G : Nat → Int32) (o n : Nat) (f : Nat → Int32) : Nat → Int32 := if S (o + n) = 0 then nr (nr f (F n).toNatClampNeg (G n).toNatClampNeg) (G n).toNatClampNeg (F n).toNatClampNeg else f
def ps (S F G : Nat → Int32) (o : Nat) : Nat → (Nat → Int32) → (Nat → Int32)
  | 0, f => f
  | n + 1, f => ss S F G o n (ps S F G o n f)
def it {α : Type} (P : α → α) : Nat → α → α
  | 0, x => x
  | n + 1, x => P (it P n x)
theorem it_add {α : Type} (P : α → α) (n m : Nat) (x : α) : it P (n + m) x = it P m (it P n x) := by
  induction m with
  | zero => rfl
  | succ m ih => show P (it P (n + m) x) = P (it P m (it P n x)); rw [ih]
theorem it_fix {α : Type} {P : α → α} {x : α} (h : P x = x) (n : Nat) : it P n x = x := by
  induction n with
  | zero => rfl
  | succ n ih => show P (it P n x) = x; rw [ih, h]
def SPD (P : (Nat → Int32) → (Nat → Int32)) (f f2 : Nat → Int32) : Prop := (∃ n, f2 = it P n f) ∧ P f2 = f2
def AG (f g : Nat → Int32) : Prop := ∀ k, k < 25 → f k = g k
theorem AG.nr1 {f g : Nat → Int32} (h : AG f g) {a b : Nat} (ha : a < 25) (hb : b < 25) : AG (nr f a b) (nr g a b) := by
  unfold nr
  rw [h a ha, h b hb]
  by_cases c : ¬ (g a).toInt = -1 ∧ ((g b).toInt = -1 ∨ (g a).toInt + 1 < (g b).toInt)
  · rw [if_pos c, if_pos c]
    intro k hk
    by_cases e : k = b
    · subst e
      rw [pk_us, pk_us]
    · rw [pk_un e, pk_un e]
      exact h k hk
  · rw [if_neg c, if_neg c]
    exact h
theorem RG.c25 {f : Nat → Int32} {n : Nat} (h : RG f n 0 24) {k : Nat} (hk : k < n) : (f k).toNatClampNeg < 25 := by
  have h1 := h k hk
  have e : (f k).toNatClampNeg = (f k).toInt.toNat := rfl
  omega
theorem AG.ps1 {S F G : Nat → Int32} (hF : RG F 40 0 24) (hG : RG G 40 0 24) {o n : Nat} (hn : n ≤ 40) {f g : Nat → Int32} (h : AG f g) : AG (ps S F G o n f) (ps S F G o n g) := by
  induction n with
  | zero => exact h
  | succ n ih =>
    have h1 := ih (by omega)
    show AG (ss S F G o n (ps S F G o n f)) (ss S F G o n (ps S F G o n g))
    unfold ss
    by_cases c : S (o + n) = 0
    · rw [if_pos c, if_pos c]
      exact (h1.nr1 (hF.c25 (by omega)) (hG.c25 (by omega))).nr1 (hG.c25 (by omega)) (hF.c25 (by omega))
    · rw [if_neg c, if_neg c]
      exact h1
theorem AG.it1 {P : (Nat → Int32) → (Nat → Int32)} (hP : ∀ f g, AG f g → AG (P f) (P g)) {f g : Nat → Int32} (h : AG f g) (n : Nat) : AG (it P n f) (it P n g) := by
  induction n with
  | zero => exact h
  | succ n ih => exact hP _ _ ih
theorem AG.symm {f g : Nat → Int32} (h : AG f g) : AG g f := fun k hk => (h k hk).symm
theorem SPD.one {P : (Nat → Int32) → (Nat → Int32)} (hP : ∀ f g, AG f g → AG (P f) (P g)) {f g f2 g2 : Nat → Int32} (h : AG f g) {n m : Nat} (hnm : n ≤ m) (h1 : f2 = it P n f) (h2 : P f2 = f2) (h3 : g2 = it P m g) : AG f2 g2 := by
  have e : g2 = it P (m - n) (it P n g) := by rw [h3, ← it_add]; congr 1; omega
  have q : AG f2 (it P n g) := by rw [h1]; exact AG.it1 hP h n
  have q2 := AG.it1 hP q (m - n)
  rw [it_fix h2, ← e] at q2
  exact q2
theorem SPD.det {P : (Nat → Int32) → (Nat → Int32)} (hP : ∀ f g, AG f g → AG (P f) (P g)) {f g f2 g2 : Nat → Int32} (h : AG f g) (h1 : SPD P f f2) (h2 : SPD P g g2) : AG f2 g2 := by
  obtain ⟨⟨n, e1⟩, q1⟩ := h1
  obtain ⟨⟨m, e2⟩, q2⟩ := h2
  rcases Nat.le_total n m with c | c
  · exact SPD.one hP h c e1 q1 e2
  · exact (SPD.one hP h.symm c e2 q2 e1).symm
def IN (f : Nat → Int32) : Prop := ∀ k, k < 25 → f k = if k = 0 then 0 else -1
/-- all cells hang together -/
def WH (S F G : Nat → Int32) (o n M : Nat) : Prop := ∃ f f2 : Nat → Int32, IN f ∧ SPD (ps S F G o n) f f2 ∧ ∀ c, c < M → ¬ f2 c = -1
theorem WH.no {S F G : Nat → Int32} (hF : RG F 40 0 24) (hG : RG G 40 0 24) {o n M : Nat} (hn : n ≤ 40) (hM : M ≤ 25) {f f2 : Nat → Int32} (hi : IN f) (hs : SPD (ps S F G o n) f f2) {c : Nat} (hc : c < M) (h : f2 c = -1) : ¬ WH S F G o n M := by
  rintro ⟨g, g2, gi, gs, gc⟩
  have ag : AG f g := fun k hk => by rw [hi k hk, gi k hk]
  have q := SPD.det (fun f g h => AG.ps1 hF hG hn h) ag hs gs
  exact gc c hc (by rw [← q c (by omega)]; exact h)
/-- a night is lawful -/
def WY (S F G h : Nat → Int32) (n a b : Nat) : Prop := (S a).toInt = 1 ∧ (S b).toInt = 0 ∧ ((h 6).toInt = 1 → (F a).toInt = (F b).toInt ∨ (F a).toInt = (G b).toInt ∨ (G a).toInt = (F b).toInt ∨ (G a).toInt = (G b).toInt) ∧ WH (upd (upd S a 0) b 1) F G 0 n ((h 0).toInt * (h 1).toInt).toNat
noncomputable def cI (S F G h : Nat → Int32) (n a : Nat) : Nat → Nat
  | 0 => 0
  | b + 1 => cI S F G h n a b + @ite Nat (WY S F G h n a b) (Classical.propDecidable _) 1 0
noncomputable def cO (S F G h : Nat → Int32) (n : Nat) : Nat → Nat
  | 0 => 0
  | a + 1 => cO S F G h n a + cI S F G h n a n
theorem cI_le (S F G h : Nat → Int32) (n a b : Nat) : cI S F G h n a b ≤ b := by
  induction b with
  | zero => exact Nat.le_refl _
  | succ b ih =>
    show cI S F G h n a b + @ite Nat (WY S F G h n a b) (Classical.propDecidable _) 1 0 ≤ b + 1
    split <;> omega
theorem cO_le (S F G h : Nat → Int32) (n a : Nat) : cO S F G h n a ≤ a * n := by
  induction a with
  | zero => exact Nat.zero_le _
  | succ a ih =>
    show cO S F G h n a + cI S F G h n a n ≤ (a + 1) * n
    have h1 := cI_le S F G h n a n
    rw [Nat.add_mul, Nat.one_mul]
    omega
theorem cI_y {S F G h : Nat → Int32} {n a b : Nat} (q : WY S F G h n a b) : cI S F G h n a (b + 1) = cI S F G h n a b + 1 := by
  show cI S F G h n a b + @ite Nat (WY S F G h n a b) (Classical.propDecidable _) 1 0 = _
  rw [if_pos q]
theorem cI_n {S F G h : Nat → Int32} {n a b : Nat} (q : ¬ WY S F G h n a b) : cI S F G h n a (b + 1) = cI S F G h n a b := by
  show cI S F G h n a b + @ite Nat (WY S F G h n a b) (Classical.propDecidable _) 1 0 = _
  rw [if_neg q, Nat.add_zero]
theorem cI_0 {S F G h : Nat → Int32} {n a : Nat} (q : ¬ (S a).toInt = 1) (b : Nat) : cI S F G h n a b = 0 := by
  induction b with
  | zero => rfl
  | succ b ih => rw [cI_n (fun z => q z.1), ih]
/-- a move and the same move back -/
theorem upd_back {S : Nat → Int32} {a b : Nat} (ha : S a = 1) (hb : S b = 0) : upd (upd (upd (upd S a 0) b 1) b 0) a 1 = S := by
  funext k
  by_cases e : k = a
  · subst e
    rw [pk_us, ha]
  · rw [pk_un e]
    by_cases e2 : k = b
    · subst e2
      rw [pk_us, hb]
    · rw [pk_un e2, pk_un e2, pk_un e]
/-! what a maze has: 9 numbers each, of five mazes -/
def HI (f : Nat → Int32) : Prop := ∀ w, w < 5 → (0 ≤ (f (9 * w)).toInt ∧ (f (9 * w)).toInt ≤ 5) ∧ (0 ≤ (f (9 * w + 1)).toInt ∧ (f (9 * w + 1)).toInt ≤ 5) ∧ (0 ≤ (f (9 * w + 4)).toInt ∧ (f (9 * w + 4)).toInt ≤ 4) ∧ (0 ≤ (f (9 * w + 5)).toInt ∧ (f (9 * w + 5)).toInt ≤ 5) ∧ (0 ≤ (f (9 * w + 8)).toInt ∧ (f (9 * w + 8)).toInt ≤ 99) ∧ ((f (9 * w + 5)).toInt = 0 ∨ 1 ≤ (f (9 * w)).toInt)
theorem HI.r0 {f : Nat → Int32} (h : HI f) : (0 ≤ (f 0).toInt ∧ (f 0).toInt ≤ 5) ∧ (0 ≤ (f 1).toInt ∧ (f 1).toInt ≤ 5) ∧ (0 ≤ (f 4).toInt ∧ (f 4).toInt ≤ 4) ∧ (0 ≤ (f 5).toInt ∧ (f 5).toInt ≤ 5) ∧ (0 ≤ (f 8).toInt ∧ (f 8).toInt ≤ 99) ∧ ((f 5).toInt = 0 ∨ 1 ≤ (f 0).toInt) := h 0 (by decide)
theorem HI.r4 {f : Nat → Int32} (h : HI f) : (0 ≤ (f 36).toInt ∧ (f 36).toInt ≤ 5) ∧ (0 ≤ (f 37).toInt ∧ (f 37).toInt ≤ 5) ∧ (0 ≤ (f 40).toInt ∧ (f 40).toInt ≤ 4) ∧ (0 ≤ (f 41).toInt ∧ (f 41).toInt ≤ 5) ∧ (0 ≤ (f 44).toInt ∧ (f 44).toInt ≤ 99) ∧ ((f 41).toInt = 0 ∨ 1 ≤ (f 36).toInt) := h 4 (by decide)
theorem HI.upd1 {f : Nat → Int32} (h : HI f) {w j : Nat} (hj : j < 9) {x : Int32} {u : Int} (hx : x.toInt = u) (c0 : j = 0 → 1 ≤ u ∧ u ≤ 5) (c1 : j = 1 → 0 ≤ u ∧ u ≤ 5) (c4 : j = 4 → 0 ≤ u ∧ u ≤ 4) (c5 : j = 5 → 0 ≤ u ∧ u ≤ 5 ∧ 1 ≤ (f (9 * w)).toInt) (c8 : j = 8 → 0 ≤ u ∧ u ≤ 99) : HI (upd f (9 * w + j) x) := by
  intro v hv
  obtain ⟨b0, b1, b4, b5, b8, bx⟩ := h v hv
  have key : ∀ i, i < 9 → (upd f (9 * w + j) x (9 * v + i)).toInt = if v = w ∧ i = j then u else (f (9 * v + i)).toInt := by
    intro i hi
    by_cases e : v = w ∧ i = j
    · rw [if_pos e, e.1, e.2, pk_us, hx]
    · rw [if_neg e, pk_un (by omega)]
  have k0 := key 0 (by omega)
  rw [Nat.add_zero] at k0
  have k1 := key 1 (by omega)
  have k4 := key 4 (by omega)
  have k5 := key 5 (by omega)
  have k8 := key 8 (by omega)
  by_cases e : v = w
  · subst e
    rw [k0, k1, k4, k5, k8]
    refine ⟨?_, ?_, ?_, ?_, ?_, ?_⟩ <;> (split <;> first | assumption | skip)
    all_goals first | omega | skip
    all_goals (try split)
    all_goals omega
  · rw [if_neg (fun q => e q.1)] at k0 k1 k4 k5 k8
    rw [k0, k1, k4, k5, k8]
    exact ⟨b0, b1, b4, b5, b8, bx⟩
theorem HI.zero : HI (fun _ => 0) := fun w _ => by
  have e : (0 : Int32).toInt = 0 := by decide
  show (0 ≤ (0 : Int32).toInt ∧ (0 : Int32).toInt ≤ 5) ∧ (0 ≤ (0 : Int32).toInt ∧ (0 : Int32).toInt ≤ 5) ∧ (0 ≤ (0 : Int32).toInt ∧ (0 : Int32).toInt ≤ 4) ∧ (0 ≤ (0 : Int32).toInt ∧ (0 : Int32).toInt ≤ 5) ∧ (0 ≤ (0 : Int32).toInt ∧ (0 : Int32).toInt ≤ 99) ∧ ((0 : Int32).toInt = 0 ∨ 1 ≤ (0 : Int32).toInt)
  rw [e]
  omega
theorem HI.cp {f : Nat → Int32} (h : HI f) {a b : Nat} (ha : a < 5) (hb : b < 5) : HI (cpR f 9 a b 9) := by
  intro w hw
  by_cases e : w = b
  · subst e
    have key : ∀ i, i < 9 → cpR f 9 a w 9 (9 * w + i) = f (9 * a + i) := fun i hi => by unfold cpR; rw [if_pos (by omega)]; congr 1; omega
    have k0 := key 0 (by omega)
    rw [Nat.add_zero, Nat.add_zero] at k0
    rw [k0, key 1 (by omega), key 4 (by omega), key 5 (by omega), key 8 (by omega)]
    exact h a ha
  · have key : ∀ i, i < 9 → cpR f 9 a b 9 (9 * w + i) = f (9 * w + i) := fun i hi => by unfold cpR; rw [if_neg (by omega)]
    have k0 := key 0 (by omega)
    rw [Nat.add_zero] at k0
    rw [k0, key 1 (by omega), key 4 (by omega), key 5 (by omega), key 8 (by omega)]
    exact h w hw
theorem RG.cpR1 {f : Nat → Int32} {m n : Nat} {lo hi : Int} (h : RG f n lo hi) {a b k : Nat} (hk : k ≤ m) (ha : m * a + m ≤ n) : RG (cpR f m a b k) n lo hi := fun j hj => by
  unfold cpR
  by_cases c : m * b ≤ j ∧ j < m * b + k
  · rw [if_pos c]
    exact h _ (by omega)
  · rw [if_neg c]
    exact h j hj
/-- the READ maze cleared: all 0, but the letter's place -/
theorem HI.clear {f g : Nat → Int32} (h : HI f) (hg : ∀ k, k < 36 → g k = f k) (z : ∀ j, j < 9 → j ≠ 7 → g (36 + j) = 0) : HI g := by
  intro w hw
  have e0 : (0 : Int32).toInt = 0 := by decide
  by_cases e : w = 4
  · subst e
    rw [show 9 * 4 = 36 + 0 from rfl, show 36 + 0 + 1 = 36 + 1 from rfl, show 36 + 0 + 4 = 36 + 4 from rfl, show 36 + 0 + 5 = 36 + 5 from rfl, show 36 + 0 + 8 = 36 + 8 from rfl, z 0 (by omega) (by omega), z 1 (by omega) (by omega), z 4 (by omega) (by omega), z 5 (by omega) (by omega), z 8 (by omega) (by omega), e0]
    omega
  · rw [hg (9 * w) (by omega), hg (9 * w + 1) (by omega), hg (9 * w + 4) (by omega), hg (9 * w + 5) (by omega), hg (9 * w + 8) (by omega)]
    exact h w hw
/-! division -/
theorem i_divp {x y z : Int32} {u v : Int} (h : z = x / y) (hx : x.toInt = u) (hy : y.toInt = v) (h0 : 0 ≤ u) (h1 : 1 ≤ v) : z.toInt = u / v := by
  rw [h, Int32.toInt_div, hx, hy, Int.tdiv_eq_ediv_of_nonneg h0]
  have a1 : 0 ≤ u / v := Int.ediv_nonneg h0 (by omega)
  have a2 : u / v ≤ u := Int.ediv_le_self v h0
  have a3 := x.toInt_lt
  exact i_bm (by omega) (by omega)
theorem i_divpL {x y z : Int64} {u v : Int} (h : z = x / y) (hx : x.toInt = u) (hy : y.toInt = v) (h0 : 0 ≤ u) (h1 : 1 ≤ v) : z.toInt = u / v := by
  rw [h, Int64.toInt_div, hx, hy, Int.tdiv_eq_ediv_of_nonneg h0]
  have a1 : 0 ≤ u / v := Int.ediv_nonneg h0 (by omega)
  have a2 : u / v ≤ u := Int.ediv_le_self v h0
  have a3 := x.toInt_lt
  exact i_bmL (by omega) (by omega)
theorem i_remp {x y z : Int32} {u v : Int} (h : z = x - x / y * y) (hx : x.toInt = u) (hy : y.toInt = v) (h0 : 0 ≤ u) (h1 : 1 ≤ v) : z.toInt = u % v := by
  have hd := i_divp (z := x / y) rfl hx hy h0 h1
  have a0 : 0 ≤ u / v := Int.ediv_nonneg h0 (by omega)
  have a1 : 0 ≤ u / v * v := Int.mul_nonneg a0 (by omega)
  have a2 : u / v * v ≤ u := Int.ediv_mul_le u (by omega)
  have a3 := x.toInt_lt
  have hm : (x / y * y).toInt = u / v * v := i_mul hd hy (by omega) (by omega)
  rw [h, i_sub hx hm (by omega) (by omega), Int.emod_def, Int.mul_comm]
theorem i_rempL {x y z : Int64} {u v : Int} (h : z = x - x / y * y) (hx : x.toInt = u) (hy : y.toInt = v) (h0 : 0 ≤ u) (h1 : 1 ≤ v) : z.toInt = u % v := by
  have hd := i_divpL (z := x / y) rfl hx hy h0 h1
  have a0 : 0 ≤ u / v := Int.ediv_nonneg h0 (by omega)
  have a1 : 0 ≤ u / v * v := Int.mul_nonneg a0 (by omega)
  have a2 : u / v * v ≤ u := Int.ediv_mul_le u (by omega)
  have a3 := x.toInt_lt
  have hm : (x / y * y).toInt = u / v * v := by rw [Int64.toInt_mul, hd, hy]; exact i_bmL (by omega) (by omega)
  rw [h, i_subL hx hm (by omega) (by omega), Int.emod_def, Int.mul_comm]
theorem i_six {a : Int32} (h : 0 ≤ a.toInt) (h2 : a.toInt ≤ 5) : a = 0 ∨ a = 1 ∨ a = 2 ∨ a = 3 ∨ a = 4 ∨ a = 5 := by
  obtain ⟨j, hj, rfl⟩ := i_nat (n := 6) h (by omega)
  rcases (show j = 0 ∨ j = 1 ∨ j = 2 ∨ j = 3 ∨ j = 4 ∨ j = 5 by omega) with rfl | rfl | rfl | rfl | rfl | rfl <;> decide
/-- what is left of a place in its row; of NONE too -/
def rm (c B : Int) : Int := if 0 ≤ c then c % B else if B = 1 then 0 else -1
theorem i_rem {x y z : Int32} {u v : Int} (h : z = x - x / y * y) (hx : x.toInt = u) (hy : y.toInt = v) (h0 : -1 ≤ u) (h1 : 1 ≤ v) (h5 : v ≤ 5) : z.toInt = rm u v := by
  unfold rm
  by_cases c : 0 ≤ u
  · rw [if_pos c]
    exact i_remp h hx hy c h1
  · rw [if_neg c]
    have e : x = -1 := i_of (by have k9 : (-1 : Int32).toInt = -1 := (by decide); omega)
    rcases i_six (a := y) (by omega) (by omega) with q | q | q | q | q | q
    · exact absurd (by rw [q] at hy; rw [← hy]; decide) (show ¬ v = 0 by omega)
    all_goals (subst q; subst e; subst h; rw [← hy]; decide)
/-- the cell beside one -/
def bes (c y B M : Int) : Int := if y = 0 then (if 0 ≤ c - B then c - B else -1) else if y = 1 then (if rm c B < B - 1 then c + 1 else -1) else if y = 2 then (if c + B < M then c + B else -1) else if 0 < rm c B then c - 1 else -1

theorem i_mulL {a b : Int64} {u v : Int} (ha : a.toInt = u) (hb : b.toInt = v) (h1 : -9223372036854775808 ≤ u * v) (h2 : u * v < 9223372036854775808) : (a * b).toInt = u * v := by rw [Int64.toInt_mul, ha, hb]; exact i_bmL h1 h2
def Z0 (f : Nat → Int32) (n : Nat) : Prop := ∀ j, j < n → f j = -1 ∨ f j = 0
theorem i_sc {k k2 : Int32} {u : Int} (h : k2.toInt = u) (e : u = k.toInt + 1) (h0 : 0 ≤ k.toInt) : k2.toNatClampNeg = k.toNatClampNeg + 1 := by
  have e1 : k2.toNatClampNeg = k2.toInt.toNat := rfl
  have e2 : k.toNatClampNeg = k.toInt.toNat := rfl
  omega
theorem i_cn {k : Int32} {u : Int} (h : k.toInt = u) : k.toNatClampNeg = u.toNat := by
  have e1 : k.toNatClampNeg = k.toInt.toNat := rfl
  omega
theorem Z0.upd1 {f g : Nat → Int32} {k k2 v : Int32} (h : Z0 f k.toNatClampNeg) (e : g = upd f k.toNatClampNeg v) (hv : v = -1 ∨ v = 0) (hk : k2.toNatClampNeg = k.toNatClampNeg + 1) : Z0 g k2.toNatClampNeg := by
  intro j hj
  rw [e]
  by_cases c : j = k.toNatClampNeg
  · subst c
    rw [pk_us]
    exact hv
  · rw [pk_un c]
    exact h j (by omega)
theorem Z0.set {f g : Nat → Int32} {n i : Nat} (h : Z0 f n) (e : g = upd f i 0) : Z0 g n := by
  intro j hj
  rw [e]
  by_cases c : j = i
  · subst c
    rw [pk_us]
    exact Or.inr rfl
  · rw [pk_un c]
    exact h j hj
theorem Z0.fi {f : Nat → Int32} {k : Int32} {u : Int} (h : Z0 f k.toNatClampNeg) (hk : k.toInt = u) (h1 : 25 ≤ u) : FI f := FI.zero (fun j hj => h j (by rw [i_cn hk]; omega))
def IN1 (f : Nat → Int32) (n : Nat) : Prop := ∀ j, j < n → f j = if j = 0 then 0 else -1
theorem IN1.upd1 {f g : Nat → Int32} {k k2 v : Int32} (h : IN1 f k.toNatClampNeg) (e : g = upd f k.toNatClampNeg v) (hv : v = if k.toNatClampNeg = 0 then 0 else -1) (hk : k2.toNatClampNeg = k.toNatClampNeg + 1) : IN1 g k2.toNatClampNeg := by
  intro j hj
  rw [e]
  by_cases c : j = k.toNatClampNeg
  · subst c
    rw [pk_us]
    exact hv
  · rw [pk_un c]
    exact h j (by omega)
theorem IN1.in {f : Nat → Int32} {k : Int32} {u : Int} (h : IN1 f k.toNatClampNeg) (hk : k.toInt = u) (h1 : 25 ≤ u) : IN f := fun j hj => h j (by rw [i_cn hk]; omega)
theorem IN.fi {f : Nat → Int32} (h : IN f) : FI f := FI.zero (fun k hk => by rw [h k hk]; split; exact Or.inr rfl; exact Or.inl rfl)
def NN (f : Nat → Int32) (n : Nat) : Prop := ∀ j, j < n → ¬ f j = -1
theorem NN.up {f : Nat → Int32} {k k2 v : Int32} (h : NN f k.toNatClampNeg) (e : v = f k.toNatClampNeg) (hv : ¬ v = -1) (hk : k2.toNatClampNeg = k.toNatClampNeg + 1) : NN f k2.toNatClampNeg := by
  intro j hj
  by_cases c : j = k.toNatClampNeg
  · subst c
    rw [← e]
    exact hv
  · exact h j (by omega)
theorem HI.cm {f : Nat → Int32} (h : HI f) : 0 ≤ (f 0).toInt * (f 1).toInt ∧ (f 0).toInt * (f 1).toInt ≤ 25 ∧ (1 ≤ (f 0).toInt * (f 1).toInt → 1 ≤ (f 0).toInt) := by
  obtain ⟨h0, h1, -⟩ := h.r0
  have a : 0 ≤ (f 0).toInt * (f 1).toInt := Int.mul_nonneg h0.1 h1.1
  have b : (f 0).toInt * (f 1).toInt ≤ 5 * (f 1).toInt := Int.mul_le_mul_of_nonneg_right h0.2 h1.1
  refine ⟨a, by omega, fun q => ?_⟩
  rcases Int.lt_or_le (f 0).toInt 1 with c | c
  · have : (f 0).toInt = 0 := by omega
    rw [this, Int.zero_mul] at q
    omega
  · exact c
theorem HI.cm4 {f : Nat → Int32} (h : HI f) : 0 ≤ (f 36).toInt * (f 37).toInt ∧ (f 36).toInt * (f 37).toInt ≤ 25 := by
  obtain ⟨h0, h1, -⟩ := h.r4
  have a : 0 ≤ (f 36).toInt * (f 37).toInt := Int.mul_nonneg h0.1 h1.1
  have b : (f 36).toInt * (f 37).toInt ≤ 5 * (f 37).toInt := Int.mul_le_mul_of_nonneg_right h0.2 h1.1
  exact ⟨a, by omega⟩
theorem i_mulz {a b z : Int32} {u v : Int} (h : z = a * b) (ha : a.toInt = u) (hb : b.toInt = v) (h1 : 0 ≤ u * v) (h2 : u * v ≤ 25) : z.toInt = u * v := by
  rw [h]
  exact i_mul ha hb (by omega) (by omega)
/-- bits fall: v & (v - 1) -/
theorem i_andm {v w z : Int32} (hv : ¬ v = 0) (hw : w = v - 1) (hz : z = v &&& w) : z.toUInt32.toNat < v.toUInt32.toNat := by
  subst hw
  subst hz
  have h1 : (v &&& (v - 1)).toUInt32.toNat = v.toUInt32.toNat &&& (v - 1).toUInt32.toNat := by
    show (v &&& (v - 1)).toBitVec.toNat = v.toBitVec.toNat &&& (v - 1).toBitVec.toNat
    rw [Int32.toBitVec_and, BitVec.toNat_and]
  have h0 : v.toUInt32.toNat ≠ 0 := fun e => hv (by
    apply Int32.toBitVec_inj.mp
    apply BitVec.eq_of_toNat_eq
    exact e)
  have h2 : (v - 1).toUInt32.toNat = v.toUInt32.toNat - 1 := by
    show (v - 1).toBitVec.toNat = v.toBitVec.toNat - 1
    rw [Int32.toBitVec_sub]
    have h3 : v.toBitVec.toNat ≠ 0 := h0
    have h4 := v.toBitVec.isLt
    show (v.toBitVec - 1#32).toNat = _
    rw [BitVec.toNat_sub]
    have h5 : (1#32).toNat = 1 := by decide
    rw [h5]
    omega
  rw [h1, h2]
  have h6 := Nat.and_le_right (n := v.toUInt32.toNat) (m := v.toUInt32.toNat - 1)
  omega

/-- the READ maze's numbers are being cleared -/
def CL (f g : Nat → Int32) (n : Nat) : Prop := (∀ k, k < 36 → g k = f k) ∧ ∀ j, j < n → j ≠ 7 → g (36 + j) = 0
theorem CL.upd1 {f g g2 : Nat → Int32} {k k2 x v : Int32} (h : CL f g k.toNatClampNeg) (hx : x.toInt = 36 + k.toInt) (hk : 0 ≤ k.toInt) (e : g2 = upd g x.toNatClampNeg v) (hv : k.toInt ≠ 7 → v = 0) (hk2 : k2.toNatClampNeg = k.toNatClampNeg + 1) : CL f g2 k2.toNatClampNeg := by
  have e1 : x.toNatClampNeg = x.toInt.toNat := rfl
  have e2 : k.toNatClampNeg = k.toInt.toNat := rfl
  refine ⟨fun j hj => ?_, fun j hj h7 => ?_⟩
  · rw [e, pk_un (by omega)]
    exact h.1 j hj
  · rw [e]
    by_cases c : 36 + j = x.toNatClampNeg
    · rw [c, pk_us]
      exact hv (by omega)
    · rw [pk_un c]
      exact h.2 j (by omega) h7
theorem CL.hi {f g : Nat → Int32} {k : Int32} {u : Int} (h : CL f g k.toNatClampNeg) (hf : HI f) (hk : k.toInt = u) (h9 : 9 ≤ u) : HI g := HI.clear hf h.1 (fun j hj h7 => h.2 j (by rw [i_cn hk]; omega) h7)
/-- one more side of a pass -/
theorem ps_step {S F G f g g2 : Nat → Int32} {o : Nat} {k k2 x : Int32} (e : g = ps S F G o k.toNatClampNeg f) (hk : k2.toNatClampNeg = k.toNatClampNeg + 1) (hx : x.toNatClampNeg = o + k.toNatClampNeg) {v : Int32} (ev : v = S x.toNatClampNeg) (h : (v = 0 ∧ g2 = nr (nr g (F k.toNatClampNeg).toNatClampNeg (G k.toNatClampNeg).toNatClampNeg) (G k.toNatClampNeg).toNatClampNeg (F k.toNatClampNeg).toNatClampNeg) ∨ (¬ v = 0 ∧ g2 = g)) : g2 = ps S F G o k2.toNatClampNeg f := by
  rw [hk]
  show g2 = ss S F G o k.toNatClampNeg (ps S F G o k.toNatClampNeg f)
  rw [← e]
  unfold ss
  rw [← hx, ← ev]
  rcases h with ⟨h1, h2⟩ | ⟨h1, h2⟩
  · rw [if_pos h1]
    exact h2
  · rw [if_neg h1]
    exact h2

theorem sp_again {S F G f0 f1 f2 : Nat → Int32} {o : Nat} {k n : Int32} (hkn : k.toInt = n.toInt) (hps : f2 = ps S F G o k.toNatClampNeg f1) (hit : ∃ j, f1 = it (ps S F G o n.toNatClampNeg) j f0) : ∃ j, f2 = it (ps S F G o n.toNatClampNeg) j f0 := by
  obtain ⟨j, hj⟩ := hit
  have e : k = n := i_of hkn
  refine ⟨j + 1, ?_⟩
  rw [hps, e]
  show _ = ps S F G o n.toNatClampNeg (it (ps S F G o n.toNatClampNeg) j f0)
  rw [← hj]
theorem sp_fix {S F G f1 f2 : Nat → Int32} {o : Nat} {k n : Int32} (hkn : k.toInt = n.toInt) (hps : f2 = ps S F G o k.toNatClampNeg f1) (h : f2 = f1) : ps S F G o n.toNatClampNeg f2 = f2 := by
  have e : k = n := i_of hkn
  rw [← e, h, ← hps, h]

theorem bes_r {c y B M : Int} (h0 : -1 ≤ c) (h1 : c ≤ 24) (hB : 1 ≤ B) (hM : M ≤ 25) (h : y = 1 → bes c y B M ≤ 24) : -1 ≤ bes c y B M ∧ bes c y B M ≤ 24 := by
  by_cases e : y = 1
  · refine ⟨?_, h e⟩
    unfold bes
    (repeat' split) <;> omega
  · unfold bes rm
    (repeat' split) <;> omega
theorem i_rem41 {x y z : Int32} (e : z = x - x / y * y) (hy : y = 4) (h : x.toInt = 1) : z.toInt = 1 := by
  have q : x = 1 := i_of (by have k9 : (1 : Int32).toInt = 1 := (by decide); omega)
  subst q
  subst hy
  subst e
  decide

/-- there is a side between two cells -/
def SO (F G : Nat → Int32) (n : Nat) (a b : Int) : Prop := ∃ k, k < n ∧ (F k).toInt = a ∧ (G k).toInt = b
def NSO (F G : Nat → Int32) (n : Nat) (a b : Int) : Prop := ∀ k, k < n → ¬ ((F k).toInt = a ∧ (G k).toInt = b)
theorem NSO.up {F G : Nat → Int32} {a b : Int} {k k2 : Int32} (h : NSO F G k.toNatClampNeg a b) (q : ¬ ((F k.toNatClampNeg).toInt = a ∧ (G k.toNatClampNeg).toInt = b)) (hk : k2.toNatClampNeg = k.toNatClampNeg + 1) : NSO F G k2.toNatClampNeg a b := by
  intro j hj
  by_cases c : j = k.toNatClampNeg
  · subst c
    exact q
  · exact h j (by omega)
theorem NSO.no {F G : Nat → Int32} {a b : Int} {k n : Int32} (h : NSO F G k.toNatClampNeg a b) (hk : n.toInt ≤ k.toInt) : ¬ SO F G n.toNatClampNeg a b := by
  rintro ⟨j, hj, q1, q2⟩
  have e1 : k.toNatClampNeg = k.toInt.toNat := rfl
  have e2 : n.toNatClampNeg = n.toInt.toNat := rfl
  exact h j (by omega) ⟨q1, q2⟩
def SA (F G : Nat → Int32) (n : Nat) (c o : Int) : Prop := o ≠ -1 ∧ ((o < c ∧ SO F G n o c) ∨ (¬ o < c ∧ SO F G n c o))
theorem SA.of1 {F G : Nat → Int32} {n : Nat} {c o b r sd : Int} (ho : o = b) (hn : o ≠ -1) (lt : o < c) (h : (r = -1 ∧ ¬ SO F G n o c) ∨ (0 ≤ r ∧ r < sd ∧ 0 ≤ o ∧ o ≤ 24 ∧ 0 ≤ c ∧ c ≤ 24 ∧ SO F G n o c)) : (r = -1 ∧ ¬ SA F G n c b) ∨ (0 ≤ r ∧ r < sd ∧ 0 ≤ c ∧ 0 ≤ b ∧ b ≤ 24 ∧ SA F G n c b) := by
  subst ho
  rcases h with ⟨h1, h2⟩ | ⟨h1, h2, h3, h4, h5, h6, h7⟩
  · refine Or.inl ⟨h1, fun q => ?_⟩
    rcases q.2 with q2 | q2
    · exact h2 q2.2
    · exact q2.1 lt
  · exact Or.inr ⟨h1, h2, h5, h3, h4, hn, Or.inl ⟨lt, h7⟩⟩
theorem SA.of2 {F G : Nat → Int32} {n : Nat} {c o b r sd : Int} (ho : o = b) (hn : o ≠ -1) (lt : ¬ o < c) (h : (r = -1 ∧ ¬ SO F G n c o) ∨ (0 ≤ r ∧ r < sd ∧ 0 ≤ c ∧ c ≤ 24 ∧ 0 ≤ o ∧ o ≤ 24 ∧ SO F G n c o)) : (r = -1 ∧ ¬ SA F G n c b) ∨ (0 ≤ r ∧ r < sd ∧ 0 ≤ c ∧ 0 ≤ b ∧ b ≤ 24 ∧ SA F G n c b) := by
  subst ho
  rcases h with ⟨h1, h2⟩ | ⟨h1, h2, h3, h4, h5, h6, h7⟩
  · refine Or.inl ⟨h1, fun q => ?_⟩
    rcases q.2 with q2 | q2
    · exact lt q2.1
    · exact h2 q2.2
  · exact Or.inr ⟨h1, h2, h3, h5, h6, hn, Or.inr ⟨lt, h7⟩⟩

