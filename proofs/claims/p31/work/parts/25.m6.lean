/-! THE MEANING, 6: the reference's other methods on its line -/
theorem lt_n {α β : Type} (a : α) (f : α → β) : lt_ a f = f a := id rfl
theorem gd_n {α : Type} (x : Option α) : gd true x = x := id rfl
/-! one turn of the planned stops behind the other -/
theorem lim_le (R : SL) : ∀ k, limS R k ≤ k
  | 0 => Nat.le_refl 0
  | k + 1 => by
    have := lim_le R k
    show (if idl R (limS R k) ≤ idl R (k + 1) then limS R k else k + 1) ≤ k + 1
    split <;> omega
/-! the reference: blocks are copied -/
