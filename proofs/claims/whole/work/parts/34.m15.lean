/-! THE MEANING, 15: what if -/
theorem all_up (n : Nat) (R : SL) (m : Nat) (c : Int32) : allS n (up2 R m 4 c) = up2 (allS n R) m 4 c := by
  funext k q
  rw [up2_ap]
  unfold allS
  rw [up2_ap]
  by_cases g : k = m ∧ q = 4
  · rw [if_pos g, if_neg (by omega), if_pos g]
  · rw [if_neg g, if_neg g]
/-- what the line makes in T ticks from the beginning, with another capacity: its rows, its output -/
def rowW (n p : Nat) (R S : SL) (m : Nat) (c : Int32) (T : Nat) : SL := pasS n p S T 0 (allS n (up2 R m 4 c))
def mdW (n p : Nat) (R S : SL) (m : Nat) (c : Int32) (T : Nat) : Int32 := outR n (rowW n p R S m c T)
theorem c_try {n t p m T : Nat} {Ls : Nat → SL} {R S : SL} {c : Int32} (hW : WF ((n, t, p), R, S)) (hm : m < n) (hT : T ≤ 2000) (h : CL n t p (Ls 0) R S) : ∃ Ls' : Nat → SL, f_X5_tryCapacity Ls (nI m) c (nI T) = some (mdW n p R S m c T, Ls') ∧ (∀ q, q ≠ 1 → Ls' q = Ls q) ∧ CL n T p (Ls' 1) (rowW n p R S m c T) S := by
  have hn : n ≤ 8 := hW.1
  have hp : p ≤ 40 := hW.2.2.1
  obtain ⟨L1, e1, d1, d2⟩ := c_copy (i := 0) (j := 1) (by omega) hn hp h
  obtain ⟨L2, e2, d3⟩ := c_new hn d1
  have d4 := d3.put (m := m) (c := 4) (by omega) c
  rw [← all_up] at d4
  obtain ⟨L3, e3, d5⟩ := c_pas (n := n) (t := 0) (p := p) (T := T) (S := S) hn (by omega) hp (by omega) (by omega) d4
  rw [Nat.zero_add] at d5
  unfold f_X5_tryCapacity
  simp only [lt_n]
  rw [e1, bd_s, e2, bd_s, n_chk (by omega) (by omega), gd_n, nI_clamp (by omega), va_up_self, va_up_self, e3, bd_s, va_up_self, c_outs hn d5, bd_s]
  exact ⟨_, rfl, fun q hq => by rw [va_up_ne _ _ hq, va_up_ne _ _ hq, va_up_ne _ _ hq]; exact d2 q hq, by rw [va_up_self]; exact d5⟩
theorem m_mad {n t p m T : Nat} {M R S : SL} {c : Int32} (hW : WF ((n, t, p), R, S)) (hc : 0 ≤ c ∧ c ≤ 40) (hm : m < n) (hT : T ≤ 2000) (h : ML n t p M R S) : ∃ M' : SL, f_X6_madeWith M (nI m) c (nI T) = some (mdW n p R S m c T, M') ∧ (∀ q, q < 251 → M' 1 q = M 1 q) ∧ ∀ k, k ≠ 1 → k ≠ 3 → k ≠ 5 → M' k = M k := by
  have hn : n ≤ 8 := hW.1
  have hp : p ≤ 40 := hW.2.2.1
  obtain ⟨M1, e1, k1, d1⟩ := m_keeps M
  have h1 : ML n t p M1 R S := by
    have z : M1 1 = M 1 := k1 1 (by omega)
    refine ⟨by rw [z]; exact h.1, by rw [z]; exact h.2.1, by rw [z]; exact h.2.2.1, fun m c hm hc => by rw [z]; exact h.2.2.2.1 m c hm hc, fun k w hk hw => by rw [z]; exact h.2.2.2.2 k w hk hw⟩
  have h2 := h1.put (m := m) (c := 4) (by omega) (by omega) c
  obtain ⟨M2, e2, h3, k2⟩ := m_emp hn hp h2
  have hFN : FN n (allS n (up2 R m 4 c)) := FN_all (WF_cap hW hc).2.2.2.2.1
  obtain ⟨M3, e3, h4, k3⟩ := m_goes (T := T) hn (by omega) hp (by omega) h3 hFN
  obtain ⟨M4, e4, k4, d4⟩ := m_back M3
  have h0 : outR n (allS n (up2 R m 4 c)) = 0 := by
    unfold outR
    rw [if_neg (by omega)]
    unfold allS
    rw [if_pos (by omega)]
    rfl
  have k13 : ∀ k, k ≠ 1 → k ≠ 3 → k ≠ 5 → M4 k = M k := fun k g1 g3 g5 => (k4 k g1).trans ((k3 k g1 g5).trans ((k2 k g1).trans ((up2_row g1).trans (k1 k g3))))
  refine ⟨M4, ?_, fun q hq => ?_, k13⟩
  · unfold f_X6_madeWith
    simp only [lt_n]
    rw [e1, bd_s, m_of, bd_s, show nI (3 + 16 * m) + 4 = nI (3 + 16 * m + 4) from nI_add _ 4, n_chk (by omega) (by omega), gd_n, nI_clamp (by omega), e2, bd_s, e3, bd2_s, e4, bd_s, h0, Int32.sub_zero]
    rfl
  · rw [d4 q hq, k3 3 (by omega) (by omega), k2 3 (by omega), up2_row (by omega), d1 q hq]
def RL (cod : Nat → Nat) (Ls : Nat → SL) (Hs T : SL) (fC : Option (Sum (Int32 × (Nat → SL)) Nat)) (fM : Option (Int32 × SL)) : Prop :=
  ∃ (b : Int32) (M' : SL), fM = some (b, M') ∧ ((M' 0 4 = 0 ∧ ∃ (Ls' : Nat → SL), fC = some (Sum.inl (b, Ls')) ∧ SS Ls' Hs T M') ∨ ∃ k : Nat, (k = 1 ∨ k = 2 ∨ k = 3) ∧ fC = some (Sum.inr (cod k)) ∧ M' 0 4 = nI k ∧ SS Ls Hs T M')
theorem SS.try_ {Ls Ls' : Nat → SL} {Hs T M M' : SL} {A : LN} (hA : WF A) (cA : CA (Ls 0) A) (mA : MA (M 1) A) (hF : AF Ls Hs T M) (kL : ∀ q, q ≠ 1 → Ls' q = Ls q) (k1 : ∀ q, q < 251 → M' 1 q = M 1 q) (k2 : ∀ k, k ≠ 1 → k ≠ 3 → k ≠ 5 → M' k = M k) : SS Ls' Hs T M' :=
  ⟨A, hA, by rw [kL 0 (by omega)]; exact cA, MB.congr hA.1 hA.2.2.1 mA k1, (hF.cls (fun q hq => kL q (by omega))).mod (k2 2 (by omega) (by omega) (by omega)) (k2 4 (by omega) (by omega) (by omega)) (by rw [k2 0 (by omega) (by omega) (by omega)]) (by rw [k2 0 (by omega) (by omega) (by omega)])⟩
theorem c_hor (x K : Int32) : f_X5_needHorizon x K = some (if 1 ≤ x ∧ x ≤ K then Sum.inl () else Sum.inr 1) := by
  unfold f_X5_needHorizon
  rw [is_in, bd_s]
  by_cases g : 1 ≤ x ∧ x ≤ K
  · rw [bI_t g, if_pos g, if_pos (by decide)]
  · rw [bI_f g, if_neg g, if_neg (fun z => z rfl)]
theorem m_tks (x : Int32) : f_X6_areTicks x = some (bI (1 ≤ x ∧ x ≤ 2000)) := by
  unfold f_X6_areTicks
  rw [m_in, bd_s, bI_B]
  rfl
theorem s_outputWith {Ls : Nat → SL} {Hs T M : SL} (h : SS Ls Hs T M) (x1 x2 x3 : Int32) : RL codB Ls Hs T (f_X5_outputWith Ls x1 x2 x3) (f_X6_outputWith M x1 x2 x3) := by
  have h' := h
  obtain ⟨⟨⟨n, t, p⟩, R, S⟩, hA, cA, mA, hF⟩ := h
  have hn : n ≤ 8 := hA.1
  have c0 : CL n t p (Ls 0) R S := cA
  have m0 : ML n t p M R S := mA
  unfold f_X5_outputWith f_X6_outputWith f_X6_outputWith_b31 f_X6_outputWith_b32
  rw [m_need hn m0.1]
  simp only [lt_n, bd_s, m_ref0, m_ref1, m_ref2, bd2_s, is_in, m_capa, c_hor, m_tks, i00, i10, if_true, if_false]
  rcases c_need hn c0.1 x1 with ⟨m, rfl, hm, e⟩ | ⟨hno, e⟩
  · rw [e, bd_s]
    simp only [sx, bI0t ((m_isM hn (nI m)).mpr ⟨m, rfl, hm⟩), not_false_eq_true, if_true]
    by_cases g1 : 0 ≤ x2 ∧ x2 ≤ 40
    · by_cases g2 : 1 ≤ x3 ∧ x3 ≤ 2000
      · simp only [bI0t g1, bI0t g2, if_pos g2, not_false_eq_true, if_true, if_false]
        obtain ⟨T1, rfl, ht1, ht2⟩ := i_rngA (A := 1) (K := 2000) (by omega) (by omega) g2
        obtain ⟨Ls', e1, kL, -⟩ := c_try (c := x2) hA hm ht2 c0
        obtain ⟨M', e2, k1, k2⟩ := m_mad hA g1 hm ht2 (m0.ref 0)
        rw [e1, e2, bd2_s, bd2_s]
        exact ⟨_, M', rfl, Or.inl ⟨by rw [k2 0 (by omega) (by omega) (by omega), up2_s], Ls', rfl, SS.try_ hA cA (M := up2 M 0 4 0) (by rw [up2_row (by omega)]; exact mA) (hF.ref 0) kL k1 k2⟩⟩
      · simp only [bI0t g1, bI0f g2, if_neg g2, not_false_eq_true, if_true, if_false]
        exact ⟨_, _, rfl, Or.inr ⟨2, Or.inr (Or.inl rfl), rfl, up2_s _ _ _ _, h'.ref _⟩⟩
    · simp only [bI0f g1, not_true_eq_false, if_true, if_false]
      exact ⟨_, _, rfl, Or.inr ⟨2, Or.inr (Or.inl rfl), rfl, up2_s _ _ _ _, h'.ref _⟩⟩
  · rw [e, bd_s]
    simp only [sx, bI0f (fun z => hno ((m_isM hn x1).mp z)), not_true_eq_false, if_false]
    exact ⟨_, _, rfl, Or.inr ⟨1, Or.inl rfl, rfl, up2_s _ _ _ _, h'.ref _⟩⟩
/-! the division: never no number -/
theorem i2d_fin' (v : Int32) : FP.Core.DFin (FP.i2d v) := FP.Core.i2d_fin v
