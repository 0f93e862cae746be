/-! the texts of the reader's words: String constants, by their places in the class's table -/
def sks : List Nat := [111, 127, 132, 137, 142, 147, 152, 158, 163, 168, 182, 184, 216, 218]
def stx (k : Nat) : String := if k = 111 then "wall" else if k = 127 then "hedge" else if k = 132 then "gate" else if k = 137 then "guest" else if k = 142 then "letter" else if k = 147 then "law" else if k = 152 then "maze" else if k = 158 then "wide" else if k = 163 then "long" else if k = 168 then "at" else if k = 182 then "east" else if k = 184 then "south" else if k = 216 then "far" else "near"
/-- two statics and the texts, none of them in A -/
def sx (ad av nn : Nat → Nat) (A : Nat → Prop) (U : State) : Prop :=
  va_Z "java/lang/String" "COMPACT_STRINGS" "Z" (.int 1) A U U.heap ∧ (∃ g : Option Nat, va_Z "jdk/internal/util/Preconditions" "SIOOBE_FORMATTER" "Ljava/util/function/BiFunction;" (va_rf g) A U U.heap) ∧
  ∀ k, k ∈ sks → nn k ≤ 6 ∧ vk_R RX4 k (stx k) (ad k) U ∧ va_O "java/lang/String" (ad k) A U U.heap ∧ va_OF "java/lang/String" "coder" "B" (.int 0) (ad k) A U U.heap ∧ va_OF "java/lang/String" "value" "[B" (.ref (av k)) (ad k) A U U.heap ∧ ∃ f : Nat → Int32, va_T .byte (av k) (nn k) (fun j => .int (f j)) A U U.heap
theorem sx.same {ad av nn : Nat → Nat} {A : Nat → Prop} {u U : State} (hv : U.vm = u.vm) (hh : U.heap = u.heap) (h : sx ad av nn A u) : sx ad av nn A U := by
  have ha : u.vm.Alike U.vm := by rw [hv]; exact Vm.Alike.refl _
  obtain ⟨h1, ⟨g, h2⟩, h3⟩ := h
  unfold sx
  rw [hh]
  refine ⟨h1.moved ha, ⟨g, h2.moved ha⟩, fun k hk => ?_⟩
  obtain ⟨a1, a2, a3, a4, a5, f, a6⟩ := h3 k hk
  exact ⟨a1, a2.same hv, a3.moved ha, a4.moved ha, a5.moved ha, f, a6.moved ha⟩
theorem sx.into {ad av nn : Nat → Nat} {A B : Nat → Prop} {s U : State} {H : Heap} {locs : List Loc} (h : sx ad av nn A s) (hS : va_S A s.heap H locs) (hU : U.heap = H) (hW : s.WarmedH U.vm) (hF : ∀ q, B q → A q) : sx ad av nn B U := by
  have ha : s.vm.Alike U.vm := hW.alike
  obtain ⟨h1, ⟨g, h2⟩, h3⟩ := h
  unfold sx
  rw [hU]
  refine ⟨((h1.kept hS.2.1).narrow hF).moved ha, ⟨g, ((h2.kept hS.2.1).narrow hF).moved ha⟩, fun k hk => ?_⟩
  obtain ⟨a1, a2, a3, a4, a5, f, a6⟩ := h3 k hk
  exact ⟨a1, a2.warm hW, ((a3.kept hS.2.1).narrow hF).moved ha, ((a4.kept hS.2.1).narrow hF).moved ha, ((a5.kept hS.2.1).narrow hF).moved ha, f, ((a6.kept hS.2.1).narrow hF).moved ha⟩
theorem sx.recv {ad av nn : Nat → Nat} {A : Nat → Prop} {s : State} {H : Heap} {locs : List Loc} {k : Nat} (h : sx ad av nn A s) (hk : k ∈ sks) (hS : va_S A s.heap H locs) : ∃ cell : Cell, H[ad k]? = some cell ∧ cell.vm.isStatics = false ∧ s.vm.findClass RJ0 = some cell.cls := by
  obtain ⟨cell, h1, h2, h3, -⟩ := (h.2.2 k hk).2.2.1.kept hS.2.1
  exact ⟨cell, h1, h2, h3⟩
theorem sx.len {ad av nn : Nat → Nat} {A : Nat → Prop} {s : State} {k : Nat} (h : sx ad av nn A s) (hk : k ∈ sks) : nn k ≤ 6 := (h.2.2 k hk).1
theorem sx.R {ad av nn : Nat → Nat} {A : Nat → Prop} {s : State} {k : Nat} (h : sx ad av nn A s) (hk : k ∈ sks) : vk_R RX4 k (stx k) (ad k) s := (h.2.2 k hk).2.1
theorem sx.C {ad av nn : Nat → Nat} {A : Nat → Prop} {s : State} {k : Nat} (h : sx ad av nn A s) (hk : k ∈ sks) : va_OF "java/lang/String" "coder" "B" (.int 0) (ad k) A s s.heap := (h.2.2 k hk).2.2.2.1
theorem sx.V {ad av nn : Nat → Nat} {A : Nat → Prop} {s : State} {k : Nat} (h : sx ad av nn A s) (hk : k ∈ sks) : va_OF "java/lang/String" "value" "[B" (.ref (av k)) (ad k) A s s.heap := (h.2.2 k hk).2.2.2.2.1
theorem sx.T {ad av nn : Nat → Nat} {A : Nat → Prop} {s : State} {k : Nat} (h : sx ad av nn A s) (hk : k ∈ sks) : ∃ f : Nat → Int32, va_T .byte (av k) (nn k) (fun j => .int (f j)) A s s.heap := (h.2.2 k hk).2.2.2.2.2
theorem i_ofn {n : Nat} (h : n ≤ 6) : (Int32.ofNat n).toInt = (n : Int) := by
  rcases (show n = 0 ∨ n = 1 ∨ n = 2 ∨ n = 3 ∨ n = 4 ∨ n = 5 ∨ n = 6 by omega) with rfl | rfl | rfl | rfl | rfl | rfl | rfl <;> decide
theorem i_shr0 {n : Nat} (h : n ≤ 6) {v : Int32} (e : v = Int32.ofNat n >>> ((0 : Int32) &&& 31)) : v.toInt = (n : Int) := by
  subst e
  rcases (show n = 0 ∨ n = 1 ∨ n = 2 ∨ n = 3 ∨ n = 4 ∨ n = 5 ∨ n = 6 by omega) with rfl | rfl | rfl | rfl | rfl | rfl | rfl <;> decide
theorem i_char {b y x : Int32} (hy : y = b &&& 255) (e : x = (y.toUInt32 % 65536).toInt32) : narrow .char (.int x) = .int x := by
  rw [e, hy, sc_c2]
  exact sc_nar b
/-- a product of a width and a row -/
theorem i_mul54 {a b z : Int32} (h : z = a * b) (ha : 0 ≤ a.toInt ∧ a.toInt ≤ 5) (hb : 0 ≤ b.toInt ∧ b.toInt ≤ 4) : 0 ≤ z.toInt ∧ z.toInt ≤ 20 := by
  have := i_mul5 h ha ⟨hb.1, by omega⟩
  omega
theorem i_cp2 {a n : Int32} {u v : Int} {k : Nat} (ha : a.toInt = u) (h : n.toInt = v) (h1 : 0 ≤ u) (h0 : 0 ≤ v) (h5 : u + v ≤ (k : Int)) : a.toNatClampNeg + n.toNatClampNeg ≤ k := by
  have e0 : a.toNatClampNeg = a.toInt.toNat := rfl
  have e1 : n.toNatClampNeg = n.toInt.toNat := rfl
  omega

