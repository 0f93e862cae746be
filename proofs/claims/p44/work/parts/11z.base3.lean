theorem i_12 {a : Int32} (h : 1 ≤ a.toInt) (h2 : a.toInt ≤ 2) : a = 1 ∨ a = 2 := by
  obtain ⟨j, hj, rfl⟩ := i_nat (a := a) (n := 3) (by omega) (by omega)
  rw [nI_toInt (by omega)] at h
  rcases (show j = 1 ∨ j = 2 by omega) with rfl | rfl <;> decide
theorem i_123 {a : Int32} (h : 1 ≤ a.toInt) (h2 : a.toInt ≤ 3) : a = 1 ∨ a = 2 ∨ a = 3 := by
  obtain ⟨j, hj, rfl⟩ := i_nat (a := a) (n := 4) (by omega) (by omega)
  rw [nI_toInt (by omega)] at h
  rcases (show j = 1 ∨ j = 2 ∨ j = 3 by omega) with rfl | rfl | rfl <;> decide
theorem i_rng (x : Int32) : -2147483648 ≤ x.toInt ∧ x.toInt < 2147483648 := ⟨x.le_toInt, x.toInt_lt⟩

