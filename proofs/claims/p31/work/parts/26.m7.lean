/-! THE MEANING, 7: the two states side by side; what is saved -/
/-- a line: machines, tick, planned stops; rows; stops -/
abbrev LN : Type := (Nat × Nat × Nat) × SL × SL
def CA (L : SL) (A : LN) : Prop := CL A.1.1 A.1.2.1 A.1.2.2 L A.2.1 A.2.2
def WR (n : Nat) (R : SL) : Prop := ∀ m, m < n → 1 ≤ (R m 1).toInt ∧ (R m 1).toInt ≤ (R m 0).toInt ∧ (R m 0).toInt ≤ 20 ∧ 0 ≤ (R m 4).toInt ∧ (R m 4).toInt ≤ 40
def WS (p : Nat) (S : SL) : Prop := ∀ k, k < p → 1 ≤ (S k 1).toInt ∧ (S k 1).toInt ≤ 10000 ∧ 1 ≤ (S k 2).toInt ∧ (S k 2).toInt ≤ 200
def WF (A : LN) : Prop := A.1.1 ≤ 8 ∧ A.1.2.1 ≤ 10000 ∧ A.1.2.2 ≤ 40 ∧ WR A.1.1 A.2.1 ∧ FN A.1.1 A.2.1 ∧ WS A.1.2.2 A.2.2 ∧ TN A.1.1 A.1.2.1 A.2.1
/-- where the saved line j lies -/
def plc (v w j : Nat) : Nat := (w + 4 - (v - 1 - j)) % 4
theorem n_mod4 {a : Nat} (ha : a < 100) : nI a - nI a / 4 * 4 = nI (a % 4) := by
  rw [show nI a / 4 = nI (a / 4) from pk_div (d := 4) (by omega) (by omega) (by omega), show nI (a / 4) * 4 = nI (a / 4 * 4) from pk_mul _ 4, pk_sub (by omega), show a - a / 4 * 4 = a % 4 by omega]
