/-! numbers as integers, so that omega can speak of them -/
theorem i_lt {a b : Int32} {u v : Int} (ha : a.toInt = u) (hb : b.toInt = v) (h : a < b) : u < v := by rw [← ha, ← hb]; exact Int32.lt_iff_toInt_lt.mp h
theorem i_le {a b : Int32} {u v : Int} (ha : a.toInt = u) (hb : b.toInt = v) (h : a ≤ b) : u ≤ v := by rw [← ha, ← hb]; exact Int32.le_iff_toInt_le.mp h
theorem i_nlt {a b : Int32} {u v : Int} (ha : a.toInt = u) (hb : b.toInt = v) (h : ¬ a < b) : v ≤ u := by rw [← ha, ← hb]; exact Int.not_lt.mp (fun q => h (Int32.lt_iff_toInt_lt.mpr q))
theorem i_nle {a b : Int32} {u v : Int} (ha : a.toInt = u) (hb : b.toInt = v) (h : ¬ a ≤ b) : v < u := by rw [← ha, ← hb]; exact Int.not_le.mp (fun q => h (Int32.le_iff_toInt_le.mpr q))
theorem i_eq {a b : Int32} {u v : Int} (ha : a.toInt = u) (hb : b.toInt = v) (h : a = b) : u = v := by rw [← ha, ← hb, h]
theorem i_ne {a b : Int32} {u v : Int} (ha : a.toInt = u) (hb : b.toInt = v) (h : ¬ a = b) : u ≠ v := by rw [← ha, ← hb]; exact fun q => h (Int32.toInt_inj.mp q)
theorem i_ltL {a b : Int64} {u v : Int} (ha : a.toInt = u) (hb : b.toInt = v) (h : a < b) : u < v := by rw [← ha, ← hb]; exact Int64.lt_iff_toInt_lt.mp h
theorem i_leL {a b : Int64} {u v : Int} (ha : a.toInt = u) (hb : b.toInt = v) (h : a ≤ b) : u ≤ v := by rw [← ha, ← hb]; exact Int64.le_iff_toInt_le.mp h
theorem i_nltL {a b : Int64} {u v : Int} (ha : a.toInt = u) (hb : b.toInt = v) (h : ¬ a < b) : v ≤ u := by rw [← ha, ← hb]; exact Int.not_lt.mp (fun q => h (Int64.lt_iff_toInt_lt.mpr q))
theorem i_nleL {a b : Int64} {u v : Int} (ha : a.toInt = u) (hb : b.toInt = v) (h : ¬ a ≤ b) : v < u := by rw [← ha, ← hb]; exact Int.not_le.mp (fun q => h (Int64.le_iff_toInt_le.mpr q))
theorem i_eqL {a b : Int64} {u v : Int} (ha : a.toInt = u) (hb : b.toInt = v) (h : a = b) : u = v := by rw [← ha, ← hb, h]
theorem i_neL {a b : Int64} {u v : Int} (ha : a.toInt = u) (hb : b.toInt = v) (h : ¬ a = b) : u ≠ v := by rw [← ha, ← hb]; exact fun q => h (Int64.toInt_inj.mp q)
theorem i_wide {a : Int32} {u : Int} (ha : a.toInt = u) : a.toInt64.toInt = u := by rw [← ha]; exact Int32.toInt_toInt64 a
theorem i_bm {z : Int} (h1 : -2147483648 ≤ z) (h2 : z < 2147483648) : z.bmod (2 ^ 32) = z := by
  rw [Int.bmod_def]; split <;> omega
theorem i_bmL {z : Int} (h1 : -9223372036854775808 ≤ z) (h2 : z < 9223372036854775808) : z.bmod (2 ^ 64) = z := by
  rw [Int.bmod_def]; split <;> omega
theorem i_add {a b : Int32} {u v : Int} (ha : a.toInt = u) (hb : b.toInt = v) (h1 : -2147483648 ≤ u + v) (h2 : u + v < 2147483648) : (a + b).toInt = u + v := by rw [Int32.toInt_add, ha, hb]; exact i_bm h1 h2
theorem i_sub {a b : Int32} {u v : Int} (ha : a.toInt = u) (hb : b.toInt = v) (h1 : -2147483648 ≤ u - v) (h2 : u - v < 2147483648) : (a - b).toInt = u - v := by rw [Int32.toInt_sub, ha, hb]; exact i_bm h1 h2
theorem i_mul {a b : Int32} {u v : Int} (ha : a.toInt = u) (hb : b.toInt = v) (h1 : -2147483648 ≤ u * v) (h2 : u * v < 2147483648) : (a * b).toInt = u * v := by rw [Int32.toInt_mul, ha, hb]; exact i_bm h1 h2
theorem i_addL {a b : Int64} {u v : Int} (ha : a.toInt = u) (hb : b.toInt = v) (h1 : -9223372036854775808 ≤ u + v) (h2 : u + v < 9223372036854775808) : (a + b).toInt = u + v := by rw [Int64.toInt_add, ha, hb]; exact i_bmL h1 h2
theorem i_subL {a b : Int64} {u v : Int} (ha : a.toInt = u) (hb : b.toInt = v) (h1 : -9223372036854775808 ≤ u - v) (h2 : u - v < 9223372036854775808) : (a - b).toInt = u - v := by rw [Int64.toInt_sub, ha, hb]; exact i_bmL h1 h2
theorem i_in {a : Int32} {u : Int} {n : Nat} (ha : a.toInt = u) (h1 : 0 ≤ u) (h2 : u < (n : Int)) : vp_in a n := vp_in_iff.mpr ⟨by rw [ha]; exact h1, by rw [ha]; exact h2⟩
theorem i_clo {a : Int32} {u lo : Int} (ha : a.toInt = u) (h : u < lo) : a.toInt < lo := by rw [ha]; exact h
theorem i_chi {a : Int32} {u hi : Int} (ha : a.toInt = u) (h : hi < u) : hi < a.toInt := by rw [ha]; exact h
theorem i_sw {a : Int32} {u lo hi : Int} (_ : a.toInt = u) : u < lo ∨ hi < u ∨ (lo ≤ u ∧ u ≤ hi) := by omega
theorem i_bool {r : Int32} {C : Prop} [Decidable C] (h : r = if C then 1 else 0) : (r = 1 ∧ C) ∨ (r = 0 ∧ ¬ C) := by
  by_cases c : C
  · exact Or.inl ⟨by rw [h, if_pos c], c⟩
  · exact Or.inr ⟨by rw [h, if_neg c], c⟩
theorem i_nat {a : Int32} {n : Nat} (h1 : 0 ≤ a.toInt) (h2 : a.toInt < (n : Int)) : ∃ j : Nat, j < n ∧ a = nI j := by
  have hz : ¬ a < 0 := fun q => by
    have q2 := i_lt (a := a) (b := 0) rfl (by decide : (0 : Int32).toInt = 0) q
    omega
  obtain ⟨j, hj, e⟩ := nI_of hz
  subst e
  refine ⟨j, ?_, rfl⟩
  rw [nI_toInt hj] at h2
  omega
theorem i_of {a : Int32} {k : Int32} (h : a.toInt = k.toInt) : a = k := Int32.toInt_inj.mp h
theorem i_nilP {D : va_G} {cl : List vw_C} {H : Heap} : va_P D cl [] H := fun k q h => by simp at h
theorem i_nilD {A : Nat → Prop} : va_D A [] := ⟨fun i j p q h => by simp at h, fun k q h => by simp at h⟩
theorem i_inner (c : ClassId) (K : Nat) : Jvm.Free.Multi.innerC c K (defaultValue .int) = vp_cell c (K, .inl (fun _ => 0)) := by
  rw [vp_cell_i, ← arrV_new]; rfl
section LPW
variable {p : Program} {l : Launch} {e : Env} {R : Room} {s : State} {m : MethodId} {args : Array Value} {below : List Frame} {meth : Method} {c : Code} {cells slots : Nat} {Q : State → Prop}
/-- a loop's head: an invariant and a measure that falls -/
theorem lp_W {σ : Type} {pc : Nat} {stk : List Value} (I : σ → Heap → List Loc → Array Slot → Prop) (μ : σ → Nat)
    (step : ∀ (a : σ) (H : Heap) (locs : List Loc) (ls : Array Slot), I a H locs ls → (∀ (b : σ) (H : Heap) (locs : List Loc) (ls : Array Slot), I b H locs ls → μ b < μ a → W p l e R s m args below meth c H locs cells slots Q (F0 m pc ls stk)) → W p l e R s m args below meth c H locs cells slots Q (F0 m pc ls stk))
    (a : σ) {H : Heap} {locs : List Loc} {ls : Array Slot} (h : I a H locs ls) : W p l e R s m args below meth c H locs cells slots Q (F0 m pc ls stk) := by
  have key : ∀ (n : Nat) (a : σ) (H : Heap) (locs : List Loc) (ls : Array Slot), μ a < n → I a H locs ls → W p l e R s m args below meth c H locs cells slots Q (F0 m pc ls stk) := by
    intro n
    induction n with
    | zero => intro a H locs ls h; omega
    | succ n ih => intro a H locs ls hn hI; exact step a H locs ls hI (fun b H locs ls hb hlt => ih b H locs ls (by omega) hb)
  exact key (μ a + 1) a H locs ls (by omega) h
end LPW
/-- what the tables say of private constructors and of arrays of references, at any later state too -/
def Kx (U : State) : Prop := va_Nw (.methodLinkNest RX6 25 yX4_init "HedgeMaze") U ∧ va_Nw (.methodLinkNest RX4 11 yX0_init "HedgeMaze") U ∧ va_Nw (.methodLinkNest RX0 11 yX3_init "HedgeMaze") U ∧ va_Nw (.methodLinkNest RX6 32 yX0_init "HedgeMaze") U ∧ va_Nw (.methodLinkNest RX6 49 yX1_init "HedgeMaze") U ∧ va_Nw (.methodLinkNest RX6 56 yX2_init "HedgeMaze") U ∧ va_Nw (.methodLinkNest RX6 65 yX5_init "HedgeMaze") U ∧ va_AO RX0 U ∧ va_AO RX5 U ∧ va_AOA .int U
theorem Kx.same {u U : State} (h : u.vm = U.vm) (k : Kx u) : Kx U := by
  obtain ⟨a, b, c, d, e, f, g, x, y, z⟩ := k
  have hv : u.vm.Alike U.vm := by rw [h]; exact Vm.Alike.refl _
  exact ⟨va_Nw.same rfl h a, va_Nw.same rfl h b, va_Nw.same rfl h c, va_Nw.same rfl h d, va_Nw.same rfl h e, va_Nw.same rfl h f, va_Nw.same rfl h g, va_AO.moved hv x, va_AO.moved hv y, va_AOA.moved hv z⟩
theorem Kx.warm {s U : State} (h : s.WarmedH U.vm) (k : Kx s) : Kx U := by
  obtain ⟨a, b, c, d, e, f, g, x, y, z⟩ := k
  exact ⟨va_Nw.warmM h a, va_Nw.warmM h b, va_Nw.warmM h c, va_Nw.warmM h d, va_Nw.warmM h e, va_Nw.warmM h f, va_Nw.warmM h g, va_AO.moved h.alike x, va_AO.moved h.alike y, va_AOA.moved h.alike z⟩
theorem i_three {a : Int32} (h : 0 ≤ a.toInt) (h2 : a.toInt ≤ 2) : a = 0 ∨ a = 1 ∨ a = 2 := by
  obtain ⟨j, hj, rfl⟩ := i_nat (n := 3) h (by omega)
  rcases (show j = 0 ∨ j = 1 ∨ j = 2 by omega) with rfl | rfl | rfl <;> decide
theorem i_four {a : Int32} (h : 0 ≤ a.toInt) (h2 : a.toInt ≤ 3) : a = 0 ∨ a = 1 ∨ a = 2 ∨ a = 3 := by
  obtain ⟨j, hj, rfl⟩ := i_nat (n := 4) h (by omega)
  rcases (show j = 0 ∨ j = 1 ∨ j = 2 ∨ j = 3 by omega) with rfl | rfl | rfl | rfl <;> decide
/-- part a of a row of parts of m numbers, copied to part b, k of them -/
def cpR (f : Nat → Int32) (m a b k : Nat) : Nat → Int32 := fun j => if m * b ≤ j ∧ j < m * b + k then f (m * a + (j - m * b)) else f j
theorem cpR_0 (f : Nat → Int32) (m a b : Nat) : cpR f m a b 0 = f := by
  funext j
  unfold cpR
  rw [if_neg (by omega)]
theorem cpR_step {f : Nat → Int32} {m a b k : Nat} (hab : a ≠ b) (hk : k < m) : upd (cpR f m a b k) (m * b + k) (cpR f m a b k (m * a + k)) = cpR f m a b (k + 1) := by
  have h1 : ¬ (m * b ≤ m * a + k ∧ m * a + k < m * b + k) := by
    rcases Nat.lt_or_gt_of_ne hab with q | q
    · have : m * (a + 1) ≤ m * b := Nat.mul_le_mul_left m q
      rw [Nat.mul_add, Nat.mul_one] at this
      omega
    · have : m * (b + 1) ≤ m * a := Nat.mul_le_mul_left m q
      rw [Nat.mul_add, Nat.mul_one] at this
      omega
  have h2 : cpR f m a b k (m * a + k) = f (m * a + k) := by unfold cpR; rw [if_neg h1]
  rw [h2]
  funext j
  by_cases e : j = m * b + k
  · subst e
    rw [pk_us]
    unfold cpR
    rw [if_pos (by omega)]
    congr 1
    omega
  · rw [pk_un e]
    unfold cpR
    by_cases g : m * b ≤ j ∧ j < m * b + k
    · rw [if_pos g, if_pos (by omega)]
    · rw [if_neg g, if_neg (by omega)]
theorem cpR_at (m : Nat) {b : Nat} (h : b < 5) : m * b + m ≤ 5 * m := by
  have : m * (b + 1) ≤ m * 5 := Nat.mul_le_mul_left m h
  rw [Nat.mul_add, Nat.mul_one, Nat.mul_comm m 5] at this
  exact this
/-! ranges of rows; more of numbers -/
def RG (f : Nat → Int32) (n : Nat) (lo hi : Int) : Prop := ∀ k, k < n → lo ≤ (f k).toInt ∧ (f k).toInt ≤ hi
theorem i_clamp {i : Int32} {n : Nat} (h : vp_in i n) : i.toNatClampNeg < n := Nat.not_le.mp fun q => h (Or.inr q)
theorem RG.at {f : Nat → Int32} {n : Nat} {lo hi : Int} (h : RG f n lo hi) {i v : Int32} (hi2 : vp_in i n) (ev : v = f i.toNatClampNeg) : lo ≤ v.toInt ∧ v.toInt ≤ hi := by rw [ev]; exact h _ (i_clamp hi2)
theorem RG.upd {f : Nat → Int32} {n : Nat} {lo hi : Int} (h : RG f n lo hi) (i : Nat) {x : Int32} {u : Int} (hx : x.toInt = u) (h1 : lo ≤ u) (h2 : u ≤ hi) : RG (upd f i x) n lo hi := fun k hk => by
  by_cases e : k = i
  · subst e
    rw [pk_us, hx]
    exact ⟨h1, h2⟩
  · rw [pk_un e]
    exact h k hk
theorem RG.zero {n : Nat} {lo hi : Int} (h1 : lo ≤ 0) (h2 : 0 ≤ hi) : RG (fun _ => 0) n lo hi := fun _ _ => by
  have e : (0 : Int32).toInt = 0 := by decide
  rw [e]; exact ⟨h1, h2⟩
theorem RG.cpy {f g : Nat → Int32} {n0 n1 : Nat} {lo hi : Int} (hf : RG f n0 lo hi) (hg : RG g n1 lo hi) {sp dp n : Nat} (h : sp + n ≤ n0) : RG (va_cpy f g sp dp n) n1 lo hi := fun k hk => by
  by_cases c : dp ≤ k ∧ k < dp + n
  · rw [pk_cpy_in c.1 c.2]
    exact hf _ (by omega)
  · rw [pk_cpy_out (by omega)]
    exact hg k hk
theorem i_l2i {a : Int64} {u : Int} (ha : a.toInt = u) (h1 : -2147483648 ≤ u) (h2 : u < 2147483648) : a.toInt32.toInt = u := by
  rw [Int64.toInt_toInt32, ha]; exact i_bm h1 h2
theorem i_ne0 {a : Int32} {u : Int} (ha : a.toInt = u) (h : u ≠ 0) : ¬ a = 0 := fun e => h (by rw [← ha, e]; decide)
theorem i_ne0L {a : Int64} {u : Int} (ha : a.toInt = u) (h : u ≠ 0) : ¬ a = 0 := fun e => h (by rw [← ha, e]; decide)
theorem i_nz {r : Int32} (h : r = 0 ∨ r = 1) : narrow .boolean (.int r) = .int r := by rcases h with rfl | rfl <;> decide
theorem i_fz {r : Int32} (h : r = 0 ∨ r = 1) : fits .boolean (.int r) = true := by rcases h with rfl | rfl <;> decide
theorem i_min {x y z : Int32} (h : z = if y < x then y else x) : z.toInt ≤ x.toInt ∧ z.toInt ≤ y.toInt ∧ (z.toInt = x.toInt ∨ z.toInt = y.toInt) := by
  subst h
  by_cases c : y < x
  · rw [if_pos c]
    have := i_lt (a := y) (b := x) rfl rfl c
    omega
  · rw [if_neg c]
    have := i_nlt (a := y) (b := x) rfl rfl c
    omega
theorem i_minz {x y z : Int32} {u v : Int} (hx : x.toInt = u) (hy : y.toInt = v) (h : z = if y < x then y else x) : z.toInt ≤ u ∧ z.toInt ≤ v ∧ (z.toInt = u ∨ z.toInt = v) := by
  rw [← hx, ← hy]; exact i_min h
theorem i_mul5 {a b z : Int32} (h : z = a * b) (ha : 0 ≤ a.toInt ∧ a.toInt ≤ 5) (hb : 0 ≤ b.toInt ∧ b.toInt ≤ 5) : 0 ≤ z.toInt ∧ z.toInt ≤ 5 * b.toInt ∧ z.toInt ≤ 25 := by
  subst h
  have h1 : 0 ≤ a.toInt * b.toInt := Int.mul_nonneg ha.1 hb.1
  have h2 : a.toInt * b.toInt ≤ 5 * b.toInt := Int.mul_le_mul_of_nonneg_right ha.2 hb.1
  rw [i_mul (a := a) (b := b) rfl rfl (by omega) (by omega)]
  omega
section ALDA
variable {p : Program} {l : Launch} {e : Env} {R : Room} {s : State} {m : MethodId} {args : Array Value} {below : List Frame} {meth : Method} {c : Code} {H : Heap} {locs : List Loc} {cells slots : Nat} {Q : State → Prop}
variable {cc : ByteArray} {pc : Nat} {ls : Array Slot} {rest : List Value} {D : va_G} {cl : List vw_C} {a : Nat} {tys : List (ClassId × FieldType)} {ws : va_W}
/-- a row of an array of rows -/
theorem va_aldA (hexec : p.tables.exec = Jvm.exec) (hb : c.code = cc) (hK : va_K D cl tys s) (hP : va_P D cl ws H) (q0 t0 : Nat) {cA : ClassId} {t : FieldType} {n : Nat} {f : Nat → Option Nat} (ha : ws[q0]? = some (a, .inl (cA, n, .inr (.inr (.inr (.inr f)))))) (ht : tys[t0]? = some (cA, .array t)) {i : Int32} (hin : vp_in i n) (hdg : decode cc pc = .ok (.aaload, 1))
    (kk : W p l e R s m args below meth c H locs cells slots Q (F0 m (pc + 1) ls (va_rf (f i.toNatClampNeg) :: rest))) : W p l e R s m args below meth c H locs cells slots Q (F0 m pc ls (.int i :: .ref a :: rest)) := by
  have hlt : i.toNatClampNeg < n := Nat.not_le.mp fun q => hin (Or.inr q)
  exact W.aald (v := va_rf (f i.toNatClampNeg)) (ty := .array t) hexec hb (hP q0 _ ha) ((hK.2 t0 _ ht).1 n (fun j => va_rf (f j))) rfl (fun q => by cases q) (by show ¬ (i < 0 ∨ (arrV _ _ _).slots.size ≤ _); rw [arrV_size]; exact hin) (by show (arrV _ _ _).slots[_]? = _; rw [arrV_read _ _ hlt]) rfl rfl hdg kk
end ALDA
theorem i_and127 {x y : Int32} (h : x = y &&& 127) : 0 ≤ x.toInt ∧ x.toInt ≤ 127 := by
  obtain ⟨j, hj, e⟩ := pk_andE y (m := 127) 7 (by decide)
  rw [h, e, nI_toInt (by omega)]
  omega
theorem i_five {a : Int32} (h : 0 ≤ a.toInt) (h2 : a.toInt ≤ 4) : a = 0 ∨ a = 1 ∨ a = 2 ∨ a = 3 ∨ a = 4 := by
  obtain ⟨j, hj, rfl⟩ := i_nat (n := 5) h (by omega)
  rcases (show j = 0 ∨ j = 1 ∨ j = 2 ∨ j = 3 ∨ j = 4 by omega) with rfl | rfl | rfl | rfl | rfl <;> decide
theorem i_nn {n : Int32} {u : Int} (h : n.toInt = u) (h0 : 0 ≤ u) : ¬ n < 0 := fun q => by
  have := i_lt (a := n) (b := 0) h (by decide : (0 : Int32).toInt = 0) q
  omega
theorem i_cp {n : Int32} {u : Int} {k : Nat} (h : n.toInt = u) (h0 : 0 ≤ u) (h5 : u ≤ (k : Int)) : (0 : Int32).toNatClampNeg + n.toNatClampNeg ≤ k := by
  have e0 : (0 : Int32).toNatClampNeg = 0 := by decide
  have e1 : (n.toNatClampNeg : Int) = n.toInt := by
    have : n.toNatClampNeg = n.toInt.toNat := rfl
    omega
  omega

