/-! ===== small numbers as sets of bits ===== -/
theorem wL1 : ∀ s D : Fin 128, (qand (s : Nat) (D : Nat) = 0 ↔ ∀ i : Fin 7, qand (qshr (s : Nat) (i : Nat)) 1 = 1 → qand (qshr (D : Nat) (i : Nat)) 1 ≠ 1) := by decide +kernel
theorem wL2 : ∀ s O : Fin 128, (qand (s : Nat) (qxor (O : Nat) (-1)) = 0 ↔ ∀ i : Fin 7, qand (qshr (s : Nat) (i : Nat)) 1 = 1 → qand (qshr (O : Nat) (i : Nat)) 1 = 1) ∧ (qand (s : Nat) (qxor (O : Nat) (-1)) = 0 → (s : Nat) ≤ (O : Nat)) := by decide +kernel
theorem wL3 : ∀ n : Fin 8, ∀ D : Fin 128, (0 ≤ qand (qshl 1 (n : Nat) - 1) (qxor (D : Nat) (-1)) ∧ qand (qshl 1 (n : Nat) - 1) (qxor (D : Nat) (-1)) < 2 ^ (n : Nat)) ∧ ∀ i : Fin 7, (qand (qshr (qand (qshl 1 (n : Nat) - 1) (qxor (D : Nat) (-1))) (i : Nat)) 1 = 1 ↔ (i : Nat) < (n : Nat) ∧ qand (qshr (D : Nat) (i : Nat)) 1 ≠ 1) := by decide +kernel
theorem wL5 : ∀ s : Fin 128, ∀ i : Fin 7, (qand (qshr (s : Nat) (i : Nat)) 1 = 0 ∨ qand (qshr (s : Nat) (i : Nat)) 1 = 1) ∧ (qand (qshr (s : Nat) (i : Nat)) 1 = 1 ↔ Nat.testBit s i = true) := by decide +kernel
theorem wL6 : ∀ n : Fin 8, qshl 1 (n : Nat) = 2 ^ (n : Nat) := by decide +kernel
