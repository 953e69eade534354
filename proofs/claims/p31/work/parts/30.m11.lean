/-! THE MEANING, 11: call against call: what is told -/
theorem c_what (x : Int32) {K : Nat} (hK : K < 100) : (∃ w, x = nI w ∧ w ≤ K ∧ (0 ≤ x ∧ x ≤ nI K) ∧ f_X5_needWhat x (nI (K + 1)) = some (Sum.inl ())) ∨ ((¬ (0 ≤ x ∧ x ≤ nI K)) ∧ f_X5_needWhat x (nI (K + 1)) = some (Sum.inr 1)) := by
  unfold f_X5_needWhat f_X5_needWhat_b9
  by_cases g : 0 ≤ x ∧ x ≤ nI K
  · obtain ⟨w, e, hw⟩ := i_rng (by omega) g
    refine Or.inl ⟨w, e, hw, g, ?_⟩
    rw [if_neg (i_nlt g.1), e, if_pos (nI_lt (by omega) (by omega))]
  · refine Or.inr ⟨g, ?_⟩
    by_cases g0 : x < 0
    · rw [if_pos g0]
    · rw [if_neg g0, if_neg (fun z => g ⟨i_le g0, by
        obtain ⟨w, e, hw⟩ := i_nat (by omega) g0 z
        rw [e]
        exact nI_le (by omega) (by omega)⟩)]
/-! the text -/
