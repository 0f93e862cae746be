theorem nw_at {s : State} {args : Array Value} (h : (Jvm.Cond.and given_1 narrow_1).before args s = true) {c : Cond} (n : Nat) (hc : (flatC narrow_1)[n]? = some c) : c.before args s = true := flat_of_before _ h c (List.mem_append_right (flatC given_1) (List.mem_of_getElem? hc))
theorem sx_one {s : State} {args : Array Value} {A : Nat → Prop} (hA : ∀ a : Nat, a < s.heap.size → ¬ A a) {k n : Nat} {tx : String} {f : Nat → Int32} (hn : n ≤ 6) (h0 : (Cond.stringRef RX4 k tx).before args s = true) (hex : (Cond.exactly (.string RX4 k) "java/lang/String").before args s = true) (hco : (Cond.eq (.field (.string RX4 k) "java/lang/String" "coder" "B") (.int 0)).before args s = true) (har : (Cond.arrayOf (.field (.string RX4 k) "java/lang/String" "value" "[B") .byte).before args s = true) (hle : (Cond.eq (.length (.field (.string RX4 k) "java/lang/String" "value" "[B")) (.int (Int32.ofNat n))).before args s = true) (hel : ∀ j : Nat, j < n → (Cond.eq (.elem (.field (.string RX4 k) "java/lang/String" "value" "[B") (.int (Int32.ofNat j))) (.int (f j))).before args s = true) : ∃ a v : Nat, vk_R RX4 k tx a s ∧ va_O "java/lang/String" a A s s.heap ∧ va_OF "java/lang/String" "coder" "B" (.int 0) a A s s.heap ∧ va_OF "java/lang/String" "value" "[B" (.ref v) a A s s.heap ∧ va_T .byte v n (fun j => .int (f j)) A s s.heap := by
  obtain ⟨a, c, cA, kA, q1, q2, q3, q4, q5, q6, -⟩ := Cond.exactly_spec (args := args) (first := s) (o := none) (s := s) (idx := []) (t := .string RX4 k) (cls := "java/lang/String") hex
  obtain ⟨t, ht, hT⟩ := va_Tof (f := fun j => .int (f j)) (A := A) (by omega) har (va_eqt hle) (fun j hj => va_eqt (hel j hj)) hA
  exact ⟨a, t, vk_R.of h0 q1, ⟨cA, q3, q5, by rw [q6]; exact q2, hA a (Array.getElem?_eq_some_iff.mp q3).1⟩, vk_OFof q1 (va_eqt hco) hA, vk_OFof q1 ht hA, hT⟩
set_option maxRecDepth 20000 in
theorem sx_111 {s : State} {args : Array Value} {A : Nat → Prop} (hA : ∀ a : Nat, a < s.heap.size → ¬ A a) (ht : ∀ w ∈ lw_tbl, w.before args s = true) (h : (Jvm.Cond.and given_1 narrow_1).before args s = true) : ∃ a v : Nat, vk_R RX4 111 (stx 111) a s ∧ va_O "java/lang/String" a A s s.heap ∧ va_OF "java/lang/String" "coder" "B" (.int 0) a A s s.heap ∧ va_OF "java/lang/String" "value" "[B" (.ref v) a A s s.heap ∧ va_T .byte v 4 (fun j => .int ((fun j : Nat => (if j = 0 then 119 else if j = 1 then 97 else if j = 2 then 108 else if j = 3 then 108 else 0 : Int32)) j)) A s s.heap := sx_one hA (k := 111) (n := 4) (tx := stx 111) (f := fun j : Nat => (if j = 0 then 119 else if j = 1 then 97 else if j = 2 then 108 else if j = 3 then 108 else 0 : Int32)) (by decide) (show (Cond.stringRef RX4 111 "wall").before args s = true from ht _ (lwm_2 (List.mem_of_getElem? (i := 180) rfl))) (nw_at h 50 rfl) (nw_at h 51 rfl) (nw_at h 52 rfl) (nw_at h 53 rfl) (fun j hj => by
    rcases (show j = 0 ∨ j = 1 ∨ j = 2 ∨ j = 3 by omega) with rfl | rfl | rfl | rfl
    · exact nw_at h 54 rfl
    · exact nw_at h 55 rfl
    · exact nw_at h 56 rfl
    · exact nw_at h 57 rfl)
set_option maxRecDepth 20000 in
theorem sx_127 {s : State} {args : Array Value} {A : Nat → Prop} (hA : ∀ a : Nat, a < s.heap.size → ¬ A a) (ht : ∀ w ∈ lw_tbl, w.before args s = true) (h : (Jvm.Cond.and given_1 narrow_1).before args s = true) : ∃ a v : Nat, vk_R RX4 127 (stx 127) a s ∧ va_O "java/lang/String" a A s s.heap ∧ va_OF "java/lang/String" "coder" "B" (.int 0) a A s s.heap ∧ va_OF "java/lang/String" "value" "[B" (.ref v) a A s s.heap ∧ va_T .byte v 5 (fun j => .int ((fun j : Nat => (if j = 0 then 104 else if j = 1 then 101 else if j = 2 then 100 else if j = 3 then 103 else if j = 4 then 101 else 0 : Int32)) j)) A s s.heap := sx_one hA (k := 127) (n := 5) (tx := stx 127) (f := fun j : Nat => (if j = 0 then 104 else if j = 1 then 101 else if j = 2 then 100 else if j = 3 then 103 else if j = 4 then 101 else 0 : Int32)) (by decide) (show (Cond.stringRef RX4 127 "hedge").before args s = true from ht _ (lwm_2 (List.mem_of_getElem? (i := 224) rfl))) (nw_at h 99 rfl) (nw_at h 100 rfl) (nw_at h 101 rfl) (nw_at h 102 rfl) (fun j hj => by
    rcases (show j = 0 ∨ j = 1 ∨ j = 2 ∨ j = 3 ∨ j = 4 by omega) with rfl | rfl | rfl | rfl | rfl
    · exact nw_at h 103 rfl
    · exact nw_at h 104 rfl
    · exact nw_at h 105 rfl
    · exact nw_at h 106 rfl
    · exact nw_at h 107 rfl)
set_option maxRecDepth 20000 in
theorem sx_132 {s : State} {args : Array Value} {A : Nat → Prop} (hA : ∀ a : Nat, a < s.heap.size → ¬ A a) (ht : ∀ w ∈ lw_tbl, w.before args s = true) (h : (Jvm.Cond.and given_1 narrow_1).before args s = true) : ∃ a v : Nat, vk_R RX4 132 (stx 132) a s ∧ va_O "java/lang/String" a A s s.heap ∧ va_OF "java/lang/String" "coder" "B" (.int 0) a A s s.heap ∧ va_OF "java/lang/String" "value" "[B" (.ref v) a A s s.heap ∧ va_T .byte v 4 (fun j => .int ((fun j : Nat => (if j = 0 then 103 else if j = 1 then 97 else if j = 2 then 116 else if j = 3 then 101 else 0 : Int32)) j)) A s s.heap := sx_one hA (k := 132) (n := 4) (tx := stx 132) (f := fun j : Nat => (if j = 0 then 103 else if j = 1 then 97 else if j = 2 then 116 else if j = 3 then 101 else 0 : Int32)) (by decide) (show (Cond.stringRef RX4 132 "gate").before args s = true from ht _ (lwm_2 (List.mem_of_getElem? (i := 225) rfl))) (nw_at h 115 rfl) (nw_at h 116 rfl) (nw_at h 117 rfl) (nw_at h 118 rfl) (fun j hj => by
    rcases (show j = 0 ∨ j = 1 ∨ j = 2 ∨ j = 3 by omega) with rfl | rfl | rfl | rfl
    · exact nw_at h 119 rfl
    · exact nw_at h 120 rfl
    · exact nw_at h 121 rfl
    · exact nw_at h 122 rfl)
set_option maxRecDepth 20000 in
theorem sx_137 {s : State} {args : Array Value} {A : Nat → Prop} (hA : ∀ a : Nat, a < s.heap.size → ¬ A a) (ht : ∀ w ∈ lw_tbl, w.before args s = true) (h : (Jvm.Cond.and given_1 narrow_1).before args s = true) : ∃ a v : Nat, vk_R RX4 137 (stx 137) a s ∧ va_O "java/lang/String" a A s s.heap ∧ va_OF "java/lang/String" "coder" "B" (.int 0) a A s s.heap ∧ va_OF "java/lang/String" "value" "[B" (.ref v) a A s s.heap ∧ va_T .byte v 5 (fun j => .int ((fun j : Nat => (if j = 0 then 103 else if j = 1 then 117 else if j = 2 then 101 else if j = 3 then 115 else if j = 4 then 116 else 0 : Int32)) j)) A s s.heap := sx_one hA (k := 137) (n := 5) (tx := stx 137) (f := fun j : Nat => (if j = 0 then 103 else if j = 1 then 117 else if j = 2 then 101 else if j = 3 then 115 else if j = 4 then 116 else 0 : Int32)) (by decide) (show (Cond.stringRef RX4 137 "guest").before args s = true from ht _ (lwm_2 (List.mem_of_getElem? (i := 234) rfl))) (nw_at h 131 rfl) (nw_at h 132 rfl) (nw_at h 133 rfl) (nw_at h 134 rfl) (fun j hj => by
    rcases (show j = 0 ∨ j = 1 ∨ j = 2 ∨ j = 3 ∨ j = 4 by omega) with rfl | rfl | rfl | rfl | rfl
    · exact nw_at h 135 rfl
    · exact nw_at h 136 rfl
    · exact nw_at h 137 rfl
    · exact nw_at h 138 rfl
    · exact nw_at h 139 rfl)
set_option maxRecDepth 20000 in
theorem sx_142 {s : State} {args : Array Value} {A : Nat → Prop} (hA : ∀ a : Nat, a < s.heap.size → ¬ A a) (ht : ∀ w ∈ lw_tbl, w.before args s = true) (h : (Jvm.Cond.and given_1 narrow_1).before args s = true) : ∃ a v : Nat, vk_R RX4 142 (stx 142) a s ∧ va_O "java/lang/String" a A s s.heap ∧ va_OF "java/lang/String" "coder" "B" (.int 0) a A s s.heap ∧ va_OF "java/lang/String" "value" "[B" (.ref v) a A s s.heap ∧ va_T .byte v 6 (fun j => .int ((fun j : Nat => (if j = 0 then 108 else if j = 1 then 101 else if j = 2 then 116 else if j = 3 then 116 else if j = 4 then 101 else if j = 5 then 114 else 0 : Int32)) j)) A s s.heap := sx_one hA (k := 142) (n := 6) (tx := stx 142) (f := fun j : Nat => (if j = 0 then 108 else if j = 1 then 101 else if j = 2 then 116 else if j = 3 then 116 else if j = 4 then 101 else if j = 5 then 114 else 0 : Int32)) (by decide) (show (Cond.stringRef RX4 142 "letter").before args s = true from ht _ (lwm_2 (List.mem_of_getElem? (i := 239) rfl))) (nw_at h 149 rfl) (nw_at h 150 rfl) (nw_at h 151 rfl) (nw_at h 152 rfl) (fun j hj => by
    rcases (show j = 0 ∨ j = 1 ∨ j = 2 ∨ j = 3 ∨ j = 4 ∨ j = 5 by omega) with rfl | rfl | rfl | rfl | rfl | rfl
    · exact nw_at h 153 rfl
    · exact nw_at h 154 rfl
    · exact nw_at h 155 rfl
    · exact nw_at h 156 rfl
    · exact nw_at h 157 rfl
    · exact nw_at h 158 rfl)
set_option maxRecDepth 20000 in
theorem sx_147 {s : State} {args : Array Value} {A : Nat → Prop} (hA : ∀ a : Nat, a < s.heap.size → ¬ A a) (ht : ∀ w ∈ lw_tbl, w.before args s = true) (h : (Jvm.Cond.and given_1 narrow_1).before args s = true) : ∃ a v : Nat, vk_R RX4 147 (stx 147) a s ∧ va_O "java/lang/String" a A s s.heap ∧ va_OF "java/lang/String" "coder" "B" (.int 0) a A s s.heap ∧ va_OF "java/lang/String" "value" "[B" (.ref v) a A s s.heap ∧ va_T .byte v 3 (fun j => .int ((fun j : Nat => (if j = 0 then 108 else if j = 1 then 97 else if j = 2 then 119 else 0 : Int32)) j)) A s s.heap := sx_one hA (k := 147) (n := 3) (tx := stx 147) (f := fun j : Nat => (if j = 0 then 108 else if j = 1 then 97 else if j = 2 then 119 else 0 : Int32)) (by decide) (show (Cond.stringRef RX4 147 "law").before args s = true from ht _ (lwm_3 (List.mem_of_getElem? (i := 4) rfl))) (nw_at h 169 rfl) (nw_at h 170 rfl) (nw_at h 171 rfl) (nw_at h 172 rfl) (fun j hj => by
    rcases (show j = 0 ∨ j = 1 ∨ j = 2 by omega) with rfl | rfl | rfl
    · exact nw_at h 173 rfl
    · exact nw_at h 174 rfl
    · exact nw_at h 175 rfl)
set_option maxRecDepth 20000 in
theorem sx_152 {s : State} {args : Array Value} {A : Nat → Prop} (hA : ∀ a : Nat, a < s.heap.size → ¬ A a) (ht : ∀ w ∈ lw_tbl, w.before args s = true) (h : (Jvm.Cond.and given_1 narrow_1).before args s = true) : ∃ a v : Nat, vk_R RX4 152 (stx 152) a s ∧ va_O "java/lang/String" a A s s.heap ∧ va_OF "java/lang/String" "coder" "B" (.int 0) a A s s.heap ∧ va_OF "java/lang/String" "value" "[B" (.ref v) a A s s.heap ∧ va_T .byte v 4 (fun j => .int ((fun j : Nat => (if j = 0 then 109 else if j = 1 then 97 else if j = 2 then 122 else if j = 3 then 101 else 0 : Int32)) j)) A s s.heap := sx_one hA (k := 152) (n := 4) (tx := stx 152) (f := fun j : Nat => (if j = 0 then 109 else if j = 1 then 97 else if j = 2 then 122 else if j = 3 then 101 else 0 : Int32)) (by decide) (show (Cond.stringRef RX4 152 "maze").before args s = true from ht _ (lwm_2 (List.mem_of_getElem? (i := 108) rfl))) (nw_at h 23 rfl) (nw_at h 24 rfl) (nw_at h 25 rfl) (nw_at h 26 rfl) (fun j hj => by
    rcases (show j = 0 ∨ j = 1 ∨ j = 2 ∨ j = 3 by omega) with rfl | rfl | rfl | rfl
    · exact nw_at h 27 rfl
    · exact nw_at h 28 rfl
    · exact nw_at h 29 rfl
    · exact nw_at h 30 rfl)
set_option maxRecDepth 20000 in
theorem sx_158 {s : State} {args : Array Value} {A : Nat → Prop} (hA : ∀ a : Nat, a < s.heap.size → ¬ A a) (ht : ∀ w ∈ lw_tbl, w.before args s = true) (h : (Jvm.Cond.and given_1 narrow_1).before args s = true) : ∃ a v : Nat, vk_R RX4 158 (stx 158) a s ∧ va_O "java/lang/String" a A s s.heap ∧ va_OF "java/lang/String" "coder" "B" (.int 0) a A s s.heap ∧ va_OF "java/lang/String" "value" "[B" (.ref v) a A s s.heap ∧ va_T .byte v 4 (fun j => .int ((fun j : Nat => (if j = 0 then 119 else if j = 1 then 105 else if j = 2 then 100 else if j = 3 then 101 else 0 : Int32)) j)) A s s.heap := sx_one hA (k := 158) (n := 4) (tx := stx 158) (f := fun j : Nat => (if j = 0 then 119 else if j = 1 then 105 else if j = 2 then 100 else if j = 3 then 101 else 0 : Int32)) (by decide) (show (Cond.stringRef RX4 158 "wide").before args s = true from ht _ (lwm_2 (List.mem_of_getElem? (i := 169) rfl))) (nw_at h 31 rfl) (nw_at h 32 rfl) (nw_at h 33 rfl) (nw_at h 34 rfl) (fun j hj => by
    rcases (show j = 0 ∨ j = 1 ∨ j = 2 ∨ j = 3 by omega) with rfl | rfl | rfl | rfl
    · exact nw_at h 35 rfl
    · exact nw_at h 36 rfl
    · exact nw_at h 37 rfl
    · exact nw_at h 38 rfl)
set_option maxRecDepth 20000 in
theorem sx_163 {s : State} {args : Array Value} {A : Nat → Prop} (hA : ∀ a : Nat, a < s.heap.size → ¬ A a) (ht : ∀ w ∈ lw_tbl, w.before args s = true) (h : (Jvm.Cond.and given_1 narrow_1).before args s = true) : ∃ a v : Nat, vk_R RX4 163 (stx 163) a s ∧ va_O "java/lang/String" a A s s.heap ∧ va_OF "java/lang/String" "coder" "B" (.int 0) a A s s.heap ∧ va_OF "java/lang/String" "value" "[B" (.ref v) a A s s.heap ∧ va_T .byte v 4 (fun j => .int ((fun j : Nat => (if j = 0 then 108 else if j = 1 then 111 else if j = 2 then 110 else if j = 3 then 103 else 0 : Int32)) j)) A s s.heap := sx_one hA (k := 163) (n := 4) (tx := stx 163) (f := fun j : Nat => (if j = 0 then 108 else if j = 1 then 111 else if j = 2 then 110 else if j = 3 then 103 else 0 : Int32)) (by decide) (show (Cond.stringRef RX4 163 "long").before args s = true from ht _ (lwm_2 (List.mem_of_getElem? (i := 178) rfl))) (nw_at h 40 rfl) (nw_at h 41 rfl) (nw_at h 42 rfl) (nw_at h 43 rfl) (fun j hj => by
    rcases (show j = 0 ∨ j = 1 ∨ j = 2 ∨ j = 3 by omega) with rfl | rfl | rfl | rfl
    · exact nw_at h 44 rfl
    · exact nw_at h 45 rfl
    · exact nw_at h 46 rfl
    · exact nw_at h 47 rfl)
set_option maxRecDepth 20000 in
theorem sx_168 {s : State} {args : Array Value} {A : Nat → Prop} (hA : ∀ a : Nat, a < s.heap.size → ¬ A a) (ht : ∀ w ∈ lw_tbl, w.before args s = true) (h : (Jvm.Cond.and given_1 narrow_1).before args s = true) : ∃ a v : Nat, vk_R RX4 168 (stx 168) a s ∧ va_O "java/lang/String" a A s s.heap ∧ va_OF "java/lang/String" "coder" "B" (.int 0) a A s s.heap ∧ va_OF "java/lang/String" "value" "[B" (.ref v) a A s s.heap ∧ va_T .byte v 2 (fun j => .int ((fun j : Nat => (if j = 0 then 97 else if j = 1 then 116 else 0 : Int32)) j)) A s s.heap := sx_one hA (k := 168) (n := 2) (tx := stx 168) (f := fun j : Nat => (if j = 0 then 97 else if j = 1 then 116 else 0 : Int32)) (by decide) (show (Cond.stringRef RX4 168 "at").before args s = true from ht _ (lwm_2 (List.mem_of_getElem? (i := 199) rfl))) (nw_at h 61 rfl) (nw_at h 62 rfl) (nw_at h 63 rfl) (nw_at h 64 rfl) (fun j hj => by
    rcases (show j = 0 ∨ j = 1 by omega) with rfl | rfl
    · exact nw_at h 65 rfl
    · exact nw_at h 66 rfl)
set_option maxRecDepth 20000 in
theorem sx_182 {s : State} {args : Array Value} {A : Nat → Prop} (hA : ∀ a : Nat, a < s.heap.size → ¬ A a) (ht : ∀ w ∈ lw_tbl, w.before args s = true) (h : (Jvm.Cond.and given_1 narrow_1).before args s = true) : ∃ a v : Nat, vk_R RX4 182 (stx 182) a s ∧ va_O "java/lang/String" a A s s.heap ∧ va_OF "java/lang/String" "coder" "B" (.int 0) a A s s.heap ∧ va_OF "java/lang/String" "value" "[B" (.ref v) a A s s.heap ∧ va_T .byte v 4 (fun j => .int ((fun j : Nat => (if j = 0 then 101 else if j = 1 then 97 else if j = 2 then 115 else if j = 3 then 116 else 0 : Int32)) j)) A s s.heap := sx_one hA (k := 182) (n := 4) (tx := stx 182) (f := fun j : Nat => (if j = 0 then 101 else if j = 1 then 97 else if j = 2 then 115 else if j = 3 then 116 else 0 : Int32)) (by decide) (show (Cond.stringRef RX4 182 "east").before args s = true from ht _ (lwm_2 (List.mem_of_getElem? (i := 200) rfl))) (nw_at h 71 rfl) (nw_at h 72 rfl) (nw_at h 73 rfl) (nw_at h 74 rfl) (fun j hj => by
    rcases (show j = 0 ∨ j = 1 ∨ j = 2 ∨ j = 3 by omega) with rfl | rfl | rfl | rfl
    · exact nw_at h 75 rfl
    · exact nw_at h 76 rfl
    · exact nw_at h 77 rfl
    · exact nw_at h 78 rfl)
set_option maxRecDepth 20000 in
theorem sx_184 {s : State} {args : Array Value} {A : Nat → Prop} (hA : ∀ a : Nat, a < s.heap.size → ¬ A a) (ht : ∀ w ∈ lw_tbl, w.before args s = true) (h : (Jvm.Cond.and given_1 narrow_1).before args s = true) : ∃ a v : Nat, vk_R RX4 184 (stx 184) a s ∧ va_O "java/lang/String" a A s s.heap ∧ va_OF "java/lang/String" "coder" "B" (.int 0) a A s s.heap ∧ va_OF "java/lang/String" "value" "[B" (.ref v) a A s s.heap ∧ va_T .byte v 5 (fun j => .int ((fun j : Nat => (if j = 0 then 115 else if j = 1 then 111 else if j = 2 then 117 else if j = 3 then 116 else if j = 4 then 104 else 0 : Int32)) j)) A s s.heap := sx_one hA (k := 184) (n := 5) (tx := stx 184) (f := fun j : Nat => (if j = 0 then 115 else if j = 1 then 111 else if j = 2 then 117 else if j = 3 then 116 else if j = 4 then 104 else 0 : Int32)) (by decide) (show (Cond.stringRef RX4 184 "south").before args s = true from ht _ (lwm_2 (List.mem_of_getElem? (i := 201) rfl))) (nw_at h 84 rfl) (nw_at h 85 rfl) (nw_at h 86 rfl) (nw_at h 87 rfl) (fun j hj => by
    rcases (show j = 0 ∨ j = 1 ∨ j = 2 ∨ j = 3 ∨ j = 4 by omega) with rfl | rfl | rfl | rfl | rfl
    · exact nw_at h 88 rfl
    · exact nw_at h 89 rfl
    · exact nw_at h 90 rfl
    · exact nw_at h 91 rfl
    · exact nw_at h 92 rfl)
set_option maxRecDepth 20000 in
theorem sx_216 {s : State} {args : Array Value} {A : Nat → Prop} (hA : ∀ a : Nat, a < s.heap.size → ¬ A a) (ht : ∀ w ∈ lw_tbl, w.before args s = true) (h : (Jvm.Cond.and given_1 narrow_1).before args s = true) : ∃ a v : Nat, vk_R RX4 216 (stx 216) a s ∧ va_O "java/lang/String" a A s s.heap ∧ va_OF "java/lang/String" "coder" "B" (.int 0) a A s s.heap ∧ va_OF "java/lang/String" "value" "[B" (.ref v) a A s s.heap ∧ va_T .byte v 3 (fun j => .int ((fun j : Nat => (if j = 0 then 102 else if j = 1 then 97 else if j = 2 then 114 else 0 : Int32)) j)) A s s.heap := sx_one hA (k := 216) (n := 3) (tx := stx 216) (f := fun j : Nat => (if j = 0 then 102 else if j = 1 then 97 else if j = 2 then 114 else 0 : Int32)) (by decide) (show (Cond.stringRef RX4 216 "far").before args s = true from ht _ (lwm_3 (List.mem_of_getElem? (i := 9) rfl))) (nw_at h 187 rfl) (nw_at h 188 rfl) (nw_at h 189 rfl) (nw_at h 190 rfl) (fun j hj => by
    rcases (show j = 0 ∨ j = 1 ∨ j = 2 by omega) with rfl | rfl | rfl
    · exact nw_at h 191 rfl
    · exact nw_at h 192 rfl
    · exact nw_at h 193 rfl)
set_option maxRecDepth 20000 in
theorem sx_218 {s : State} {args : Array Value} {A : Nat → Prop} (hA : ∀ a : Nat, a < s.heap.size → ¬ A a) (ht : ∀ w ∈ lw_tbl, w.before args s = true) (h : (Jvm.Cond.and given_1 narrow_1).before args s = true) : ∃ a v : Nat, vk_R RX4 218 (stx 218) a s ∧ va_O "java/lang/String" a A s s.heap ∧ va_OF "java/lang/String" "coder" "B" (.int 0) a A s s.heap ∧ va_OF "java/lang/String" "value" "[B" (.ref v) a A s s.heap ∧ va_T .byte v 4 (fun j => .int ((fun j : Nat => (if j = 0 then 110 else if j = 1 then 101 else if j = 2 then 97 else if j = 3 then 114 else 0 : Int32)) j)) A s s.heap := sx_one hA (k := 218) (n := 4) (tx := stx 218) (f := fun j : Nat => (if j = 0 then 110 else if j = 1 then 101 else if j = 2 then 97 else if j = 3 then 114 else 0 : Int32)) (by decide) (show (Cond.stringRef RX4 218 "near").before args s = true from ht _ (lwm_3 (List.mem_of_getElem? (i := 10) rfl))) (nw_at h 206 rfl) (nw_at h 207 rfl) (nw_at h 208 rfl) (nw_at h 209 rfl) (fun j hj => by
    rcases (show j = 0 ∨ j = 1 ∨ j = 2 ∨ j = 3 by omega) with rfl | rfl | rfl | rfl
    · exact nw_at h 210 rfl
    · exact nw_at h 211 rfl
    · exact nw_at h 212 rfl
    · exact nw_at h 213 rfl)
theorem law_sx {s : State} {args : Array Value} {A : Nat → Prop} (hA : ∀ a : Nat, a < s.heap.size → ¬ A a) (ht : ∀ w ∈ lw_tbl, w.before args s = true) (h : (Jvm.Cond.and given_1 narrow_1).before args s = true) : ∃ sa sv sn : Nat → Nat, sx sa sv sn A s := by
  obtain ⟨a111, v111, g111⟩ := sx_111 hA ht h
  obtain ⟨a127, v127, g127⟩ := sx_127 hA ht h
  obtain ⟨a132, v132, g132⟩ := sx_132 hA ht h
  obtain ⟨a137, v137, g137⟩ := sx_137 hA ht h
  obtain ⟨a142, v142, g142⟩ := sx_142 hA ht h
  obtain ⟨a147, v147, g147⟩ := sx_147 hA ht h
  obtain ⟨a152, v152, g152⟩ := sx_152 hA ht h
  obtain ⟨a158, v158, g158⟩ := sx_158 hA ht h
  obtain ⟨a163, v163, g163⟩ := sx_163 hA ht h
  obtain ⟨a168, v168, g168⟩ := sx_168 hA ht h
  obtain ⟨a182, v182, g182⟩ := sx_182 hA ht h
  obtain ⟨a184, v184, g184⟩ := sx_184 hA ht h
  obtain ⟨a216, v216, g216⟩ := sx_216 hA ht h
  obtain ⟨a218, v218, g218⟩ := sx_218 hA ht h
  have hz1 : va_Z "java/lang/String" "COMPACT_STRINGS" "Z" (.int 1) A s s.heap := va_Zof (ht _ (lwm_2 (List.mem_of_getElem? (i := 126) rfl))) (ht _ (lwm_1 (List.mem_of_getElem? (i := 11) rfl))) (va_eqt (nw_at h 2 rfl)) hA
  obtain ⟨v, hv, hvr⟩ := Cond.isRef_spec (t := .static "jdk/internal/util/Preconditions" "SIOOBE_FORMATTER" "Ljava/util/function/BiFunction;") (args := args) (first := s) (o := none) (s := s) (idx := []) (nw_at h 3 rfl)
  have hz2 : ∃ g : Option Nat, va_Z "jdk/internal/util/Preconditions" "SIOOBE_FORMATTER" "Ljava/util/function/BiFunction;" (va_rf g) A s s.heap := by
    have hz := va_Zof (v := v) (ht _ (lwm_2 (List.mem_of_getElem? (i := 142) rfl))) (ht _ (lwm_1 (List.mem_of_getElem? (i := 13) rfl))) hv hA
    cases v with
    | ref g => exact ⟨some g, hz⟩
    | null => exact ⟨none, hz⟩
    | _ => simp [Value.isRef] at hvr
  refine ⟨fun k => if k = 111 then a111 else if k = 127 then a127 else if k = 132 then a132 else if k = 137 then a137 else if k = 142 then a142 else if k = 147 then a147 else if k = 152 then a152 else if k = 158 then a158 else if k = 163 then a163 else if k = 168 then a168 else if k = 182 then a182 else if k = 184 then a184 else if k = 216 then a216 else a218, fun k => if k = 111 then v111 else if k = 127 then v127 else if k = 132 then v132 else if k = 137 then v137 else if k = 142 then v142 else if k = 147 then v147 else if k = 152 then v152 else if k = 158 then v158 else if k = 163 then v163 else if k = 168 then v168 else if k = 182 then v182 else if k = 184 then v184 else if k = 216 then v216 else v218, fun k => if k = 111 then 4 else if k = 127 then 5 else if k = 132 then 4 else if k = 137 then 5 else if k = 142 then 6 else if k = 147 then 3 else if k = 152 then 4 else if k = 158 then 4 else if k = 163 then 4 else if k = 168 then 2 else if k = 182 then 4 else if k = 184 then 5 else if k = 216 then 3 else 4, hz1, hz2, fun k hk => ?_⟩
  have hk2 : k = 111 ∨ k = 127 ∨ k = 132 ∨ k = 137 ∨ k = 142 ∨ k = 147 ∨ k = 152 ∨ k = 158 ∨ k = 163 ∨ k = 168 ∨ k = 182 ∨ k = 184 ∨ k = 216 ∨ k = 218 := by simpa [sks] using hk
  rcases hk2 with rfl | rfl | rfl | rfl | rfl | rfl | rfl | rfl | rfl | rfl | rfl | rfl | rfl | rfl
  · exact ⟨by decide, g111.1, g111.2.1, g111.2.2.1, g111.2.2.2.1, _, g111.2.2.2.2⟩
  · exact ⟨by decide, g127.1, g127.2.1, g127.2.2.1, g127.2.2.2.1, _, g127.2.2.2.2⟩
  · exact ⟨by decide, g132.1, g132.2.1, g132.2.2.1, g132.2.2.2.1, _, g132.2.2.2.2⟩
  · exact ⟨by decide, g137.1, g137.2.1, g137.2.2.1, g137.2.2.2.1, _, g137.2.2.2.2⟩
  · exact ⟨by decide, g142.1, g142.2.1, g142.2.2.1, g142.2.2.2.1, _, g142.2.2.2.2⟩
  · exact ⟨by decide, g147.1, g147.2.1, g147.2.2.1, g147.2.2.2.1, _, g147.2.2.2.2⟩
  · exact ⟨by decide, g152.1, g152.2.1, g152.2.2.1, g152.2.2.2.1, _, g152.2.2.2.2⟩
  · exact ⟨by decide, g158.1, g158.2.1, g158.2.2.1, g158.2.2.2.1, _, g158.2.2.2.2⟩
  · exact ⟨by decide, g163.1, g163.2.1, g163.2.2.1, g163.2.2.2.1, _, g163.2.2.2.2⟩
  · exact ⟨by decide, g168.1, g168.2.1, g168.2.2.1, g168.2.2.2.1, _, g168.2.2.2.2⟩
  · exact ⟨by decide, g182.1, g182.2.1, g182.2.2.1, g182.2.2.2.1, _, g182.2.2.2.2⟩
  · exact ⟨by decide, g184.1, g184.2.1, g184.2.2.1, g184.2.2.2.1, _, g184.2.2.2.2⟩
  · exact ⟨by decide, g216.1, g216.2.1, g216.2.2.1, g216.2.2.2.1, _, g216.2.2.2.2⟩
  · exact ⟨by decide, g218.1, g218.2.1, g218.2.2.1, g218.2.2.2.1, _, g218.2.2.2.2⟩
