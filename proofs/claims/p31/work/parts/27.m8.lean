/-! THE MEANING, 8: call against call: the settings -/
abbrev bI (P : Prop) [Decidable P] : Int32 := if P then 1 else 0
theorem bI_t {P : Prop} [Decidable P] (h : P) : bI P = 1 := if_pos h
theorem bI_f {P : Prop} [Decidable P] (h : ¬ P) : bI P = 0 := if_neg h
theorem bI_B (P : Prop) [Decidable P] : isB (bI P) = true := by
  by_cases h : P
  · rw [bI_t h]; rfl
  · rw [bI_f h]; rfl
theorem bI0t {P : Prop} [Decidable P] (h : P) : (bI P = 0) = False := by
  rw [bI_t h]
  exact i10
theorem bI0f {P : Prop} [Decidable P] (h : ¬ P) : (bI P = 0) = True := by
  rw [bI_f h]
  exact i00
theorem is_in (x a b : Int32) : f_X5_isIn x a b = some (bI (a ≤ x ∧ x ≤ b)) := by
  unfold f_X5_isIn f_X5_isIn_b14
  by_cases h1 : x < a
  · rw [if_pos h1, bI_f (show ¬ (a ≤ x ∧ x ≤ b) from fun q => i_nle h1 q.1)]
  · rw [if_neg h1]
    by_cases h2 : b < x
    · rw [if_pos h2, bI_f (show ¬ (a ≤ x ∧ x ≤ b) from fun q => i_nle h2 q.2)]
    · rw [if_neg h2, bI_t (show a ≤ x ∧ x ≤ b from ⟨i_le h1, i_le h2⟩)]
abbrev cyc (a b : Int32) : Prop := (1 ≤ a ∧ a ≤ 20) ∧ (1 ≤ b ∧ b ≤ a)
abbrev mrk (a b : Int32) : Prop := (0 ≤ b ∧ b ≤ 40) ∧ (0 ≤ a ∧ a ≤ b)
theorem c_cycs (a b : Int32) : f_X5_areCycles a b = some (bI (cyc a b)) := by
  unfold f_X5_areCycles f_X5_areCycles_b23
  rw [is_in, bd_s, is_in, bd_s]
  by_cases h1 : 1 ≤ a ∧ a ≤ 20
  · by_cases h2 : 1 ≤ b ∧ b ≤ a
    · simp only [bI0t h1, bI0t h2, if_false]
      rw [bI_t (show cyc a b from ⟨h1, h2⟩)]
    · simp only [bI0t h1, bI0f h2, if_false, if_true]
      rw [bI_f (show ¬ cyc a b from fun z => h2 z.2)]
  · simp only [bI0f h1, if_true]
    rw [bI_f (show ¬ cyc a b from fun z => h1 z.1)]
/-- the first place of an index below k -/
theorem i_nat {x : Int32} {n : Nat} (hn : n < 2147483648) (h0 : ¬ x < 0) (h1 : x < nI n) : ∃ m, x = nI m ∧ m < n := by
  obtain ⟨u, hu, e⟩ := nI_of h0
  refine ⟨u, e, ?_⟩
  rw [e] at h1
  exact (nI_ltI (by omega) (by omega)).mp h1
theorem c_need {L : Nat → SL} {n : Nat} (hn : n ≤ 8) (h : L 0 0 2 = nI n) (x : Int32) : (∃ m, x = nI m ∧ m < n ∧ f_X5_needMachine L x = some (Sum.inl ())) ∨ ((¬ ∃ m, x = nI m ∧ m < n) ∧ f_X5_needMachine L x = some (Sum.inr 3)) := by
  unfold f_X5_needMachine f_X5_needMachine_b15
  rw [lt_n, h]
  by_cases h0 : x < 0
  · refine Or.inr ⟨?_, if_pos h0⟩
    rintro ⟨m, rfl, hm⟩
    have := (nI_ltI (a := m) (b := 0) (by omega) (by omega)).mp h0
    omega
  · by_cases h1 : x < nI n
    · obtain ⟨m, e, hm⟩ := i_nat (by omega) h0 h1
      exact Or.inl ⟨m, e, hm, by rw [if_neg h0, if_pos h1]⟩
    · refine Or.inr ⟨?_, by rw [if_neg h0, if_neg h1]⟩
      rintro ⟨m, rfl, hm⟩
      exact h1 (nI_lt hm (by omega))
theorem m_isM {n : Nat} (hn : n ≤ 8) (x : Int32) : (0 ≤ x ∧ x ≤ nI n - 1) ↔ ∃ m, x = nI m ∧ m < n := by
  constructor
  · rintro ⟨h0, h1⟩
    have h0' : ¬ x < 0 := fun q => i_nle q h0
    by_cases hz : n = 0
    · subst hz
      exact absurd (i_lele h0 h1) (by decide)
    · have h2 : x < nI n := by
        rw [show nI n - 1 = nI (n - 1) from pk_sub (b := 1) (by omega)] at h1
        exact i_lt (fun q => by
          have := (nI_leI (a := n) (b := n - 1) (by omega) (by omega)).mp (i_lele q h1)
          omega)
      exact i_nat (by omega) h0' h2
  · rintro ⟨m, rfl, hm⟩
    rw [show nI n - 1 = nI (n - 1) from pk_sub (b := 1) (by omega)]
    exact ⟨nI_le (a := 0) (by omega) (by omega), nI_le (by omega) (by omega)⟩
theorem va_0 (Ls : Nat → SL) (L : SL) : va_up Ls 0 L 0 = L := va_up_self _ _ _
theorem WF_join {n t p : Nat} {R S : SL} {a b c : Int32} (h : WF ((n, t, p), R, S)) (hn : n < 8) (hc : cyc a b) (hk : 0 ≤ c ∧ c ≤ 40) : WF ((n + 1, t, p), joinS R n a b c, S) := by
  obtain ⟨h1, h2, h3, h4, h5, h6, h7⟩ := h
  obtain ⟨⟨a1, a2⟩, b1, b2⟩ := hc
  obtain ⟨k1, k2⟩ := hk
  rw [Int32.le_iff_toInt_le] at a1 a2 b1 b2 k1 k2
  have q20 : (20 : Int32).toInt = 20 := rfl
  have q40 : (40 : Int32).toInt = 40 := rfl
  rw [i_1] at a1 b1
  rw [i_0] at k1
  rw [q20] at a2
  rw [q40] at k2
  have hj : ∀ m q, m ≠ n → joinS R n a b c m q = R m q := by
    intro m q hm
    unfold joinS empS
    rw [if_neg (by omega)]
    simp only [up2_ap]
    grind
  have hi : joinS R n a b c n 0 = a ∧ joinS R n a b c n 1 = b ∧ joinS R n a b c n 4 = c ∧ joinS R n a b c n 5 = 0 ∧ joinS R n a b c n 10 = 0 ∧ joinS R n a b c n 11 = 0 := by
    unfold joinS empS emv
    simp only [up2_ap]
    grind
  refine ⟨by show n + 1 ≤ 8; omega, h2, h3, fun m hm => ?_, fun m hm => ?_, h6, fun m hm => ?_⟩
  · show 1 ≤ (joinS R n a b c m 1).toInt ∧ (joinS R n a b c m 1).toInt ≤ (joinS R n a b c m 0).toInt ∧ (joinS R n a b c m 0).toInt ≤ 20 ∧ 0 ≤ (joinS R n a b c m 4).toInt ∧ (joinS R n a b c m 4).toInt ≤ 40
    by_cases e : m = n
    · subst e
      rw [hi.1, hi.2.1, hi.2.2.1]
      omega
    · rw [hj _ _ e, hj _ _ e, hj _ _ e]
      exact h4 m (show m < n by have : m < n + 1 := hm; omega)
  · show 0 ≤ (joinS R n a b c m 5).toInt ∧ (joinS R n a b c m 5).toInt ≤ 40 ∧ (joinS R n a b c m 4).toInt ≤ 40
    by_cases e : m = n
    · subst e
      rw [hi.2.2.1, hi.2.2.2.1, i_0]
      omega
    · rw [hj _ _ e, hj _ _ e]
      exact h5 m (show m < n by have : m < n + 1 := hm; omega)
  · show BI t (joinS R n a b c) m
    unfold BI
    by_cases e : m = n
    · subst e
      rw [hi.2.2.2.2.1, hi.2.2.2.2.2, i_0]
      omega
    · rw [hj _ _ e, hj _ _ e]
      exact h7 m (show m < n by have : m < n + 1 := hm; omega)
