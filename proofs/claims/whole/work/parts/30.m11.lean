/-! THE MEANING, 11: call against call: what is told -/
def R0 (cod : Nat → Nat) (Ls : Nat → SL) (Hs T : SL) (fC : Option (Sum Int32 Nat)) (fM : Option (Int32 × SL)) : Prop :=
  ∃ (b : Int32) (M' : SL), fM = some (b, M') ∧ SS Ls Hs T M' ∧ ((M' 0 4 = 0 ∧ fC = some (Sum.inl b)) ∨ ∃ k : Nat, (k = 1 ∨ k = 2 ∧ ¬ cod 2 = cod 1 ∨ k = 3 ∧ cod 3 = 2 ∧ cod 1 = 3) ∧ fC = some (Sum.inr (cod k)) ∧ M' 0 4 = nI k)
def R00 (Ls : Nat → SL) (Hs T : SL) (fC : Option Int32) (fM : Option (Int32 × SL)) : Prop := ∃ (b : Int32) (M' : SL), fM = some (b, M') ∧ fC = some b ∧ SS Ls Hs T M'
theorem ML.ref {n t p : Nat} {M R S : SL} (h : ML n t p M R S) (x : Int32) : ML n t p (up2 M 0 4 x) R S := by
  have e : up2 M 0 4 x 1 = M 1 := up2_row (by omega)
  refine ⟨by rw [e]; exact h.1, by rw [e]; exact h.2.1, by rw [e]; exact h.2.2.1, fun m c hm hc => by rw [e]; exact h.2.2.2.1 m c hm hc, fun k w hk hw => by rw [e]; exact h.2.2.2.2 k w hk hw⟩
theorem s_size {Ls : Nat → SL} {Hs T M : SL} (h : SS Ls Hs T M) (x : Int32) : R00 Ls Hs T (f_X5_size Ls x) (f_X6_size M x) := by
  have h' := h
  obtain ⟨⟨⟨n, t, p⟩, R, S⟩, hA, cA, mA, hF⟩ := h
  have c0 : CL n t p (Ls 0) R S := cA
  have m0 : ML n t p M R S := mA
  have m1 := m0.ref 0
  unfold f_X5_size f_X6_size
  simp only [lt_n]
  rw [c0.1, c0.2.2.1, m1.1, m1.2.2.1]
  by_cases g : x = 0
  · rw [if_pos g, if_pos g]
    exact ⟨_, _, rfl, rfl, h'.ref 0⟩
  · rw [if_neg g, if_neg g]
    exact ⟨_, _, rfl, rfl, h'.ref 0⟩
theorem s_now {Ls : Nat → SL} {Hs T M : SL} (h : SS Ls Hs T M) : R00 Ls Hs T (f_X5_now Ls) (f_X6_now M) := by
  have h' := h
  obtain ⟨⟨⟨n, t, p⟩, R, S⟩, hA, cA, mA, hF⟩ := h
  have c0 : CL n t p (Ls 0) R S := cA
  have m0 : ML n t p M R S := mA
  have m1 := m0.ref 0
  unfold f_X5_now f_X6_now
  simp only [lt_n]
  rw [c0.2.1, m1.2.1]
  exact ⟨_, _, rfl, rfl, h'.ref 0⟩
theorem s_output {Ls : Nat → SL} {Hs T M : SL} (h : SS Ls Hs T M) : R00 Ls Hs T (f_X5_output Ls) (f_X6_output M) := by
  have h' := h
  obtain ⟨⟨⟨n, t, p⟩, R, S⟩, hA, cA, mA, hF⟩ := h
  have m0 : ML n t p M R S := mA
  have m1 := m0.ref 0
  unfold f_X5_output f_X6_output
  simp only [lt_n]
  rw [c_outs hA.1 cA, bd_s, m_made hA.1 m1.1 m1.2.2.2.1, bd_s]
  exact ⟨_, _, rfl, rfl, h'.ref 0⟩
theorem s_inside {Ls : Nat → SL} {Hs T M : SL} (h : SS Ls Hs T M) : R00 Ls Hs T (f_X5_inside Ls) (f_X6_inside M) := by
  have h' := h
  obtain ⟨⟨⟨n, t, p⟩, R, S⟩, hA, cA, mA, hF⟩ := h
  have m0 : ML n t p M R S := mA
  have m1 := m0.ref 0
  unfold f_X5_inside f_X6_inside
  simp only [lt_n]
  rw [c_ins hA.1 cA, bd_s, m_ins hA.1 m1, bd_s]
  exact ⟨_, _, rfl, rfl, h'.ref 0⟩
theorem c_what (x : Int32) {K : Nat} (hK : K < 100) : (∃ w, x = nI w ∧ w ≤ K ∧ (0 ≤ x ∧ x ≤ nI K) ∧ f_X5_needWhat x (nI (K + 1)) = some (Sum.inl ())) ∨ ((¬ (0 ≤ x ∧ x ≤ nI K)) ∧ f_X5_needWhat x (nI (K + 1)) = some (Sum.inr 1)) := by
  unfold f_X5_needWhat f_X5_needWhat_b9
  by_cases g : 0 ≤ x ∧ x ≤ nI K
  · obtain ⟨w, e, hw⟩ := i_rng (by omega) g
    refine Or.inl ⟨w, e, hw, g, ?_⟩
    rw [if_neg (i_nlt g.1), e, if_pos (nI_lt (by omega) (by omega))]
  · refine Or.inr ⟨g, ?_⟩
    by_cases g0 : x < 0
    · rw [if_pos g0]
    · rw [if_neg g0, if_neg (fun z => g ⟨i_le g0, by
        obtain ⟨w, e, hw⟩ := i_nat (by omega) g0 z
        rw [e]
        exact nI_le (by omega) (by omega)⟩)]
theorem s_setting {Ls : Nat → SL} {Hs T M : SL} (h : SS Ls Hs T M) (x1 x2 : Int32) : R0 codB Ls Hs T (f_X5_setting Ls x1 x2) (f_X6_setting M x1 x2) := by
  have h' := h
  obtain ⟨⟨⟨n, t, p⟩, R, S⟩, hA, cA, mA, hF⟩ := h
  have hn : n ≤ 8 := hA.1
  have c0 : CL n t p (Ls 0) R S := cA
  have m0 : ML n t p M R S := mA
  have m1 := m0.ref 0
  unfold f_X5_setting f_X6_setting f_X6_setting_b27
  rw [m_need hn m0.1]
  simp only [lt_n, bd_s, m_ref0, m_ref1, m_ref2, bd2_s, m_in, i00, i10, if_true, if_false]
  rcases c_need hn c0.1 x1 with ⟨m, rfl, hm, e⟩ | ⟨hno, e⟩
  · rw [e, bd_s]
    simp only [sx, bI0t ((m_isM hn (nI m)).mpr ⟨m, rfl, hm⟩), not_false_eq_true, if_true]
    rcases c_what x2 (K := 4) (by omega) with ⟨w, rfl, hw, g, e2⟩ | ⟨g, e2⟩
    · rw [show f_X5_needWhat (nI w) 5 = some (Sum.inl ()) from e2, bd_s, m_of, bd_s, nI_add, Int32.zero_add]
      simp only [sx, bI0t (show 0 ≤ nI w ∧ nI w ≤ 4 from g), if_false]
      rw [n_chk (by omega) (by omega), gd_n, n_chk (by omega) (by omega), gd_n, n_chk (by omega) (by omega), gd_n, nI_clamp (by omega), nI_clamp (by omega), nI_clamp (by omega), c0.2.2.2.1 m w hm (by omega), m1.2.2.2.1 m w hm (by omega)]
      exact ⟨_, _, rfl, h'.ref 0, Or.inl ⟨up2_s _ _ _ _, rfl⟩⟩
    · rw [show f_X5_needWhat x2 5 = some (Sum.inr 1) from e2, bd_s]
      simp only [sx, bI0f (show ¬ (0 ≤ x2 ∧ x2 ≤ 4) from g), if_true]
      exact ⟨_, _, rfl, h'.ref 2, Or.inr ⟨2, Or.inr (Or.inl ⟨rfl, by decide⟩), rfl, up2_s _ _ _ _⟩⟩
  · rw [e, bd_s]
    simp only [sx, bI0f (fun z => hno ((m_isM hn x1).mp z)), not_true_eq_false, if_false]
    exact ⟨_, _, rfl, h'.ref 1, Or.inr ⟨1, Or.inl rfl, rfl, up2_s _ _ _ _⟩⟩
theorem s_machine {Ls : Nat → SL} {Hs T M : SL} (h : SS Ls Hs T M) (x1 x2 : Int32) : R0 codB Ls Hs T (f_X5_machine Ls x1 x2) (f_X6_machine M x1 x2) := by
  have h' := h
  obtain ⟨⟨⟨n, t, p⟩, R, S⟩, hA, cA, mA, hF⟩ := h
  have hn : n ≤ 8 := hA.1
  have c0 : CL n t p (Ls 0) R S := cA
  have m0 : ML n t p M R S := mA
  have m1 := m0.ref 0
  unfold f_X5_machine f_X6_machine f_X6_machine_b27 f_X6_tellMachine
  rw [m_need hn m0.1]
  simp only [lt_n, bd_s, m_ref0, m_ref1, m_ref2, bd2_s, m_in, i00, i10, if_true, if_false]
  rcases c_need hn c0.1 x1 with ⟨m, rfl, hm, e⟩ | ⟨hno, e⟩
  · rw [e, bd_s]
    simp only [sx, bI0t ((m_isM hn (nI m)).mpr ⟨m, rfl, hm⟩), not_false_eq_true, if_true]
    rcases c_what x2 (K := 3) (by omega) with ⟨w, rfl, hw, g, e2⟩ | ⟨g, e2⟩
    · rw [show f_X5_needWhat (nI w) 4 = some (Sum.inl ()) from e2, bd_s, m_of, bd_s, show nI (3 + 16 * m) + 5 = nI (3 + 16 * m + 5) from nI_add _ 5, nI_add, show 5 + nI w = nI (5 + w) from nI_add 5 w]
      simp only [sx, bI0t (show 0 ≤ nI w ∧ nI w ≤ 3 from g), if_false]
      rw [n_chk (by omega) (by omega), gd_n, n_chk (by omega) (by omega), gd_n, n_chk (by omega) (by omega), gd_n, nI_clamp (by omega), nI_clamp (by omega), nI_clamp (by omega), c0.2.2.2.1 m (5 + w) hm (by omega), show 3 + 16 * m + 5 + w = 3 + 16 * m + (5 + w) by omega, m1.2.2.2.1 m (5 + w) hm (by omega), bd_s]
      exact ⟨_, _, rfl, h'.ref 0, Or.inl ⟨up2_s _ _ _ _, rfl⟩⟩
    · rw [show f_X5_needWhat x2 4 = some (Sum.inr 1) from e2, bd_s]
      simp only [sx, bI0f (show ¬ (0 ≤ x2 ∧ x2 ≤ 3) from g), if_true]
      exact ⟨_, _, rfl, h'.ref 2, Or.inr ⟨2, Or.inr (Or.inl ⟨rfl, by decide⟩), rfl, up2_s _ _ _ _⟩⟩
  · rw [e, bd_s]
    simp only [sx, bI0f (fun z => hno ((m_isM hn x1).mp z)), not_true_eq_false, if_false]
    exact ⟨_, _, rfl, h'.ref 1, Or.inr ⟨1, Or.inl rfl, rfl, up2_s _ _ _ _⟩⟩
theorem s_count {Ls : Nat → SL} {Hs T M : SL} (h : SS Ls Hs T M) (x1 x2 : Int32) : R0 codB Ls Hs T (f_X5_count Ls x1 x2) (f_X6_count M x1 x2) := by
  have h' := h
  obtain ⟨⟨⟨n, t, p⟩, R, S⟩, hA, cA, mA, hF⟩ := h
  have hn : n ≤ 8 := hA.1
  have c0 : CL n t p (Ls 0) R S := cA
  have m0 : ML n t p M R S := mA
  have m1 := m0.ref 0
  unfold f_X5_count f_X6_count f_X6_count_b27
  rw [m_need hn m0.1]
  simp only [lt_n, bd_s, m_ref0, m_ref1, m_ref2, bd2_s, m_in, i00, i10, if_true, if_false]
  rcases c_need hn c0.1 x1 with ⟨m, rfl, hm, e⟩ | ⟨hno, e⟩
  · rw [e, bd_s]
    simp only [sx, bI0t ((m_isM hn (nI m)).mpr ⟨m, rfl, hm⟩), not_false_eq_true, if_true]
    rcases c_what x2 (K := 5) (by omega) with ⟨w, rfl, hw, g, e2⟩ | ⟨g, e2⟩
    · rw [show f_X5_needWhat (nI w) 6 = some (Sum.inl ()) from e2, bd_s, m_of, bd_s, show nI (3 + 16 * m) + 9 = nI (3 + 16 * m + 9) from nI_add _ 9, nI_add, show 9 + nI w = nI (9 + w) from nI_add 9 w]
      simp only [sx, bI0t (show 0 ≤ nI w ∧ nI w ≤ 5 from g), if_false]
      rw [n_chk (by omega) (by omega), gd_n, n_chk (by omega) (by omega), gd_n, n_chk (by omega) (by omega), gd_n, nI_clamp (by omega), nI_clamp (by omega), nI_clamp (by omega), c0.2.2.2.1 m (9 + w) hm (by omega), show 3 + 16 * m + 9 + w = 3 + 16 * m + (9 + w) by omega, m1.2.2.2.1 m (9 + w) hm (by omega)]
      exact ⟨_, _, rfl, h'.ref 0, Or.inl ⟨up2_s _ _ _ _, rfl⟩⟩
    · rw [show f_X5_needWhat x2 6 = some (Sum.inr 1) from e2, bd_s]
      simp only [sx, bI0f (show ¬ (0 ≤ x2 ∧ x2 ≤ 5) from g), if_true]
      exact ⟨_, _, rfl, h'.ref 2, Or.inr ⟨2, Or.inr (Or.inl ⟨rfl, by decide⟩), rfl, up2_s _ _ _ _⟩⟩
  · rw [e, bd_s]
    simp only [sx, bI0f (fun z => hno ((m_isM hn x1).mp z)), not_true_eq_false, if_false]
    exact ⟨_, _, rfl, h'.ref 1, Or.inr ⟨1, Or.inl rfl, rfl, up2_s _ _ _ _⟩⟩
theorem s_limiting {Ls : Nat → SL} {Hs T M : SL} (h : SS Ls Hs T M) : R0 (fun _ => 2) Ls Hs T (f_X5_limiting Ls) (f_X6_limiting M) := by
  have h' := h
  obtain ⟨⟨⟨n, t, p⟩, R, S⟩, hA, cA, mA, hF⟩ := h
  have hn : n ≤ 8 := hA.1
  have c0 : CL n t p (Ls 0) R S := cA
  have m0 : ML n t p M R S := mA
  have m1 := m0.ref 0
  have hF2 : n < fuel := by unfold fuel; omega
  unfold f_X5_limiting f_X6_limiting f_X6_limiting_b15 f_X5_needMachines
  generalize fuel = F at hF2 ⊢
  simp only [lt_n, m_ref0, m_ref1, bd2_s, i00, i10, if_true, if_false]
  rw [c0.1, m0.1]
  by_cases g2 : n = 0
  · simp only [show ((1 : Int32) ≤ nI n) = False from eq_false (by rw [g2]; decide), show (nI n = 0) = True from eq_true (by rw [g2]; rfl), if_false, not_true_eq_false, bd_s, sx]
    exact ⟨_, _, rfl, h'.ref 1, Or.inr ⟨1, Or.inl rfl, rfl, up2_s _ _ _ _⟩⟩
  · simp only [show ((1 : Int32) ≤ nI n) = True from eq_true (nI_le (a := 1) (b := n) (by omega) (by omega)), show (nI n = 0) = False from eq_false (fun z => g2 ((nI_eq (a := n) (b := 0) (by omega) (by omega)).mp z)), if_true, not_false_eq_true, bd_s, sx]
    rw [c_lim hn (by omega) c0 (TN_zero (n := n) (t := t) hA.2.2.2.2.2.2 (by omega) hA.2.1), bd_s]
    have e := m_limL hn m1.1 m1.2.2.2.1 (n - 1) 0 F (by omega) (by omega)
    exact ⟨_, _, e, h'.ref 0, Or.inl ⟨up2_s _ _ _ _, rfl⟩⟩
theorem s_stop {Ls : Nat → SL} {Hs T M : SL} (h : SS Ls Hs T M) (x1 x2 : Int32) : R0 codB Ls Hs T (f_X5_stop Ls x1 x2) (f_X6_stop M x1 x2) := by
  have h' := h
  obtain ⟨⟨⟨n, t, p⟩, R, S⟩, hA, cA, mA, hF⟩ := h
  have hp : p ≤ 40 := hA.2.2.1
  have c0 : CL n t p (Ls 0) R S := cA
  have m0 : ML n t p M R S := mA
  have m1 := m0.ref 0
  unfold f_X5_stop f_X6_stop f_X6_stop_b35 f_X5_stop_b18
  simp only [lt_n, bd_s, m_ref0, m_ref1, m_ref2, bd2_s, m_in, i00, i10, if_true, if_false]
  rw [c0.2.2.1, m0.2.2.1]
  have key : (∃ k, x1 = nI k ∧ k < p ∧ (0 ≤ x1 ∧ x1 ≤ nI p - 1)) ∨ ((¬ (0 ≤ x1 ∧ x1 ≤ nI p - 1)) ∧ (x1 < 0 ∨ ¬ x1 < nI p)) := by
    by_cases g0 : x1 < 0
    · exact Or.inr ⟨fun z => i_nle g0 z.1, Or.inl g0⟩
    · by_cases g1 : x1 < nI p
      · obtain ⟨k, e, hk⟩ := i_nat (by omega) g0 g1
        refine Or.inl ⟨k, e, hk, i_le g0, ?_⟩
        rw [e, show nI p - 1 = nI (p - 1) from pk_sub (b := 1) (by omega)]
        exact nI_le (by omega) (by omega)
      · refine Or.inr ⟨fun z => ?_, Or.inr g1⟩
        by_cases hz : p = 0
        · subst hz
          exact absurd (i_lele z.1 z.2) (by decide)
        · have z2 := z.2
          rw [show nI p - 1 = nI (p - 1) from pk_sub (b := 1) (by omega)] at z2
          have := (nI_leI (a := p) (b := p - 1) (by omega) (by omega)).mp (i_lele (i_le g1) z2)
          omega
  rcases key with ⟨k, rfl, hk, g⟩ | ⟨g, g2⟩
  · simp only [bI0t g, not_false_eq_true, if_true, if_neg (i_nlt g.1), if_pos (nI_lt hk (show p < 2 ^ 31 by omega))]
    rcases c_what x2 (K := 2) (by omega) with ⟨w, rfl, hw, g3, e2⟩ | ⟨g3, e2⟩
    · rw [show f_X5_needWhat (nI w) 3 = some (Sum.inl ()) from e2, bd_s, show 3 * nI k = nI (3 * k) from pk_mul 3 k, show 131 + nI (3 * k) = nI (131 + 3 * k) from nI_add 131 _, nI_add]
      simp only [sx, bI0t (show 0 ≤ nI w ∧ nI w ≤ 2 from g3), if_false]
      rw [n_chk (by omega) (by omega), gd_n, nI_clamp (by omega), m1.2.2.2.2 k w hk (by omega)]
      have hv : f_X4_value (Ls 0) (nI k) (nI w) = some (S k w) := by
        obtain ⟨s0, s1, s2⟩ := c0.2.2.2.2 k hk
        unfold f_X4_value
        simp only [lt_n]
        rw [n_chk (by omega) (by omega), gd_n, gd_n, gd_n, nI_clamp (by omega), s0, s1, s2]
        obtain rfl | rfl | rfl : w = 0 ∨ w = 1 ∨ w = 2 := by omega
        · rw [if_neg (fun z => z rfl)]
        · rw [if_pos (show ¬ nI 1 = 0 by decide), if_neg (fun z => z rfl)]
        · rw [if_pos (show ¬ nI 2 = 0 by decide), if_pos (show ¬ nI 2 = 1 by decide)]
      rw [hv, bd_s]
      exact ⟨_, _, rfl, h'.ref 0, Or.inl ⟨up2_s _ _ _ _, rfl⟩⟩
    · rw [show f_X5_needWhat x2 3 = some (Sum.inr 1) from e2, bd_s]
      simp only [sx, bI0f (show ¬ (0 ≤ x2 ∧ x2 ≤ 2) from g3), if_true]
      exact ⟨_, _, rfl, h'.ref 2, Or.inr ⟨2, Or.inr (Or.inl ⟨rfl, by decide⟩), rfl, up2_s _ _ _ _⟩⟩
  · simp only [bI0f g, not_true_eq_false, if_false]
    refine ⟨_, _, rfl, h'.ref 1, Or.inr ⟨1, Or.inl rfl, ?_, up2_s _ _ _ _⟩⟩
    by_cases g0 : x1 < 0
    · rw [if_pos g0]; rfl
    · rw [if_neg g0, if_neg (g2.resolve_left g0)]; rfl
/-! the text -/
def RT (Ls : Nat → SL) (Hs : SL) (fC : Option (Sum (Int32 × SL) Nat)) (fM : Option (Int32 × SL)) (T : SL) : Prop :=
  ∃ (b : Int32) (M' : SL), fM = some (b, M') ∧ ((M' 0 4 = 0 ∧ ∃ T' : SL, fC = some (Sum.inl (b, T')) ∧ SS Ls Hs T' M') ∨ ∃ k : Nat, (k = 1 ∨ k = 2 ∧ ¬ (2 : Nat) = 1 ∨ False) ∧ fC = some (Sum.inr k) ∧ M' 0 4 = nI k ∧ SS Ls Hs T M')
theorem s_append {Ls : Nat → SL} {Hs T M : SL} (h : SS Ls Hs T M) (x : Int32) : RT Ls Hs (f_X5_append T x) (f_X6_append M x) T := by
  have h' := h
  obtain ⟨A, hA, cA, mA, B, v, w, len, hv, hw, hl, hH, b1, b2, b3⟩ := h
  have b2' : up2 M 0 4 0 0 6 = nI len := by rw [up2_q (by omega)]; exact b2
  unfold f_X5_append f_X6_append f_X6_append_b29 f_X3_put
  simp only [lt_n, bd_s, m_ref0, m_ref1, m_ref2, bd2_s, m_in, is_in, i00, i10, if_true, if_false]
  rw [b1, b2, b2']
  by_cases g1 : 0 ≤ x ∧ x ≤ 127
  · simp only [bI0t g1, not_false_eq_true, if_true]
    by_cases g2 : len < 120
    · simp only [show (nI len < 120) = True from eq_true (nI_lt (a := len) (b := 120) g2 (by omega)), show (nI len = 120) = False from eq_false (fun z => absurd ((nI_eq (a := len) (b := 120) (by omega) (by omega)).mp z) (by omega)), show ((120 : Int32) ≤ nI len) = False from eq_false (nI_ge (a := len) (b := 120) (by omega) (by omega)), if_true, if_false, not_false_eq_true]
      rw [n_chk (by omega) (by omega), gd_n, gd_n, nI_clamp (by omega), show up2 T 1 len x 0 1 = T 0 1 from up2_q (by omega), b1, nI_1, bd_s, up2_s, show up2 (up2 M 0 4 0) 4 len x 0 6 = up2 M 0 4 0 0 6 from up2_q (by omega), b2', nI_1, up2_s]
      refine ⟨_, _, rfl, Or.inl ⟨?_, _, rfl, A, hA, cA, ?_, B, v, w, len + 1, hv, hw, by omega, ⟨hH.1, hH.2.1, ?_, fun j hj => ?_⟩, up2_s _ _ _ _, up2_s _ _ _ _, fun i hi => ?_⟩⟩
      · rw [up2_q (by omega), up2_q (by omega), up2_s]
      · rw [up2_row (by omega), up2_row (by omega), up2_row (by omega)]; exact mA
      · rw [up2_q (by omega), up2_q (by omega), up2_q (by omega)]; exact hH.2.2.1
      · rw [up2_row (by omega), up2_row (by omega), up2_row (by omega)]; exact hH.2.2.2 j hj
      · have eT : up2 (up2 T 1 len x) 0 1 (nI (len + 1)) 1 i = up2 T 1 len x 1 i := up2_q (by omega)
        have eM : up2 (up2 (up2 M 0 4 0) 4 len x) 0 6 (nI (len + 1)) 4 i = up2 (up2 M 0 4 0) 4 len x 4 i := up2_q (by omega)
        rw [eT, eM]
        by_cases z : i = len
        · rw [z, up2_s, up2_s]
        · rw [up2_q (by omega), up2_q (by omega), up2_q (by omega)]
          exact b3 i (by omega)
    · simp only [show (nI len < 120) = False from eq_false (by rw [show len = 120 by omega]; decide), show (nI len = 120) = True from eq_true (by rw [show len = 120 by omega]; rfl), if_false, not_true_eq_false]
      exact ⟨_, _, rfl, Or.inr ⟨2, Or.inr (Or.inl ⟨rfl, by decide⟩), rfl, up2_s _ _ _ _, h'.ref _⟩⟩
  · simp only [bI0f g1, not_true_eq_false, if_false]
    exact ⟨_, _, rfl, Or.inr ⟨1, Or.inl rfl, rfl, up2_s _ _ _ _, h'.ref _⟩⟩
theorem s_clearText {Ls : Nat → SL} {Hs T M : SL} (h : SS Ls Hs T M) : ∃ (b : Int32) (T' M' : SL), f_X6_clearText M = some (b, M') ∧ f_X5_clearText T = some (b, T') ∧ SS Ls Hs T' M' := by
  obtain ⟨A, hA, cA, mA, B, v, w, len, hv, hw, hl, hH, b1, b2, b3⟩ := h
  unfold f_X5_clearText f_X6_clearText
  simp only [lt_n]
  rw [b1, show up2 M 0 4 0 0 6 = M 0 6 from up2_q (by omega), b2]
  refine ⟨_, _, _, rfl, rfl, A, hA, cA, ?_, B, v, w, 0, hv, hw, by omega, ⟨hH.1, hH.2.1, ?_, fun j hj => ?_⟩, up2_s _ _ _ _, up2_s _ _ _ _, fun i hi => absurd hi (by omega)⟩
  · rw [up2_row (by omega), up2_row (by omega)]; exact mA
  · rw [up2_q (by omega), up2_q (by omega)]; exact hH.2.2.1
  · rw [up2_row (by omega), up2_row (by omega)]; exact hH.2.2.2 j hj
