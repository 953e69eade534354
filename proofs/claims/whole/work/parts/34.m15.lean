/-! THE MEANING, 15: what if -/
theorem all_up (n : Nat) (R : SL) (m : Nat) (c : Int32) : allS n (up2 R m 4 c) = up2 (allS n R) m 4 c := by
  funext k q
  rw [up2_ap]
  unfold allS
  rw [up2_ap]
  by_cases g : k = m ∧ q = 4
  · rw [if_pos g, if_neg (by omega), if_pos g]
  · rw [if_neg g, if_neg g]
/-- what the line makes in T ticks from the beginning, with another capacity: its rows, its output -/
def rowW (n p : Nat) (R S : SL) (m : Nat) (c : Int32) (T : Nat) : SL := pasS n p S T 0 (allS n (up2 R m 4 c))
def mdW (n p : Nat) (R S : SL) (m : Nat) (c : Int32) (T : Nat) : Int32 := outR n (rowW n p R S m c T)
theorem c_try {n t p m T : Nat} {Ls : Nat → SL} {R S : SL} {c : Int32} (hW : WF ((n, t, p), R, S)) (hm : m < n) (hT : T ≤ 2000) (h : CL n t p (Ls 0) R S) : ∃ Ls' : Nat → SL, f_X5_tryCapacity Ls (nI m) c (nI T) = some (mdW n p R S m c T, Ls') ∧ (∀ q, q ≠ 1 → Ls' q = Ls q) ∧ CL n T p (Ls' 1) (rowW n p R S m c T) S := by
  have hn : n ≤ 8 := hW.1
  have hp : p ≤ 40 := hW.2.2.1
  obtain ⟨L1, e1, d1, d2⟩ := c_copy (i := 0) (j := 1) (by omega) hn hp h
  obtain ⟨L2, e2, d3⟩ := c_new hn d1
  have d4 := d3.put (m := m) (c := 4) (by omega) c
  rw [← all_up] at d4
  obtain ⟨L3, e3, d5⟩ := c_pas (n := n) (t := 0) (p := p) (T := T) (S := S) hn (by omega) hp (by omega) (by omega) d4
  rw [Nat.zero_add] at d5
  unfold f_X5_tryCapacity
  simp only [lt_n]
  rw [e1, bd_s, e2, bd_s, n_chk (by omega) (by omega), gd_n, nI_clamp (by omega), va_up_self, va_up_self, e3, bd_s, va_up_self, c_outs hn d5, bd_s]
  exact ⟨_, rfl, fun q hq => by rw [va_up_ne _ _ hq, va_up_ne _ _ hq, va_up_ne _ _ hq]; exact d2 q hq, by rw [va_up_self]; exact d5⟩
theorem m_mad {n t p m T : Nat} {M R S : SL} {c : Int32} (hW : WF ((n, t, p), R, S)) (hc : 0 ≤ c ∧ c ≤ 40) (hm : m < n) (hT : T ≤ 2000) (h : ML n t p M R S) : ∃ M' : SL, f_X6_madeWith M (nI m) c (nI T) = some (mdW n p R S m c T, M') ∧ (∀ q, q < 251 → M' 1 q = M 1 q) ∧ ∀ k, k ≠ 1 → k ≠ 3 → k ≠ 5 → M' k = M k := by
  have hn : n ≤ 8 := hW.1
  have hp : p ≤ 40 := hW.2.2.1
  obtain ⟨M1, e1, k1, d1⟩ := m_keeps M
  have h1 : ML n t p M1 R S := by
    have z : M1 1 = M 1 := k1 1 (by omega)
    refine ⟨by rw [z]; exact h.1, by rw [z]; exact h.2.1, by rw [z]; exact h.2.2.1, fun m c hm hc => by rw [z]; exact h.2.2.2.1 m c hm hc, fun k w hk hw => by rw [z]; exact h.2.2.2.2 k w hk hw⟩
  have h2 := h1.put (m := m) (c := 4) (by omega) (by omega) c
  obtain ⟨M2, e2, h3, k2⟩ := m_emp hn hp h2
  have hFN : FN n (allS n (up2 R m 4 c)) := FN_all (WF_cap hW hc).2.2.2.2.1
  obtain ⟨M3, e3, h4, k3⟩ := m_goes (T := T) hn (by omega) hp (by omega) h3 hFN
  obtain ⟨M4, e4, k4, d4⟩ := m_back M3
  have h0 : outR n (allS n (up2 R m 4 c)) = 0 := by
    unfold outR
    rw [if_neg (by omega)]
    unfold allS
    rw [if_pos (by omega)]
    rfl
  have k13 : ∀ k, k ≠ 1 → k ≠ 3 → k ≠ 5 → M4 k = M k := fun k g1 g3 g5 => (k4 k g1).trans ((k3 k g1 g5).trans ((k2 k g1).trans ((up2_row g1).trans (k1 k g3))))
  refine ⟨M4, ?_, fun q hq => ?_, k13⟩
  · unfold f_X6_madeWith
    simp only [lt_n]
    rw [e1, bd_s, m_of, bd_s, show nI (3 + 16 * m) + 4 = nI (3 + 16 * m + 4) from nI_add _ 4, n_chk (by omega) (by omega), gd_n, nI_clamp (by omega), e2, bd_s, e3, bd2_s, e4, bd_s, h0, Int32.sub_zero]
    rfl
  · rw [d4 q hq, k3 3 (by omega) (by omega), k2 3 (by omega), up2_row (by omega), d1 q hq]
def RQ (cod : Nat → Nat) (Ls : Nat → SL) (Hs T : SL) (fC : Option (Sum (Int32 × (Nat → SL)) Nat)) (fM : Option (Int32 × SL)) : Prop :=
  ∃ (b : Int32) (M' : SL), fM = some (b, M') ∧ ((M' 0 4 = 0 ∧ ∃ (Ls' : Nat → SL), fC = some (Sum.inl (b, Ls')) ∧ SS Ls' Hs T M') ∨ ∃ k : Nat, (k = 1 ∨ k = 2 ∧ ¬ cod 2 = cod 1 ∨ k = 3 ∧ cod 3 = 2 ∧ cod 1 = 3) ∧ fC = some (Sum.inr (cod k)) ∧ M' 0 4 = nI k ∧ SS Ls Hs T M')
theorem SS.try_ {Ls Ls' : Nat → SL} {Hs T M M' : SL} {A : LN} (hA : WF A) (cA : CA (Ls 0) A) (mA : MA (M 1) A) (hF : AF Ls Hs T M) (kL : ∀ q, q ≠ 1 → Ls' q = Ls q) (k1 : ∀ q, q < 251 → M' 1 q = M 1 q) (k2 : ∀ k, k ≠ 1 → k ≠ 3 → k ≠ 5 → M' k = M k) : SS Ls' Hs T M' :=
  ⟨A, hA, by rw [kL 0 (by omega)]; exact cA, MB.congr hA.1 hA.2.2.1 mA k1, (hF.cls (fun q hq => kL q (by omega))).mod (k2 2 (by omega) (by omega) (by omega)) (k2 4 (by omega) (by omega) (by omega)) (by rw [k2 0 (by omega) (by omega) (by omega)]) (by rw [k2 0 (by omega) (by omega) (by omega)])⟩
theorem c_hor (x K : Int32) : f_X5_needHorizon x K = some (if 1 ≤ x ∧ x ≤ K then Sum.inl () else Sum.inr 1) := by
  unfold f_X5_needHorizon
  rw [is_in, bd_s]
  by_cases g : 1 ≤ x ∧ x ≤ K
  · rw [bI_t g, if_pos g, if_pos (by decide)]
  · rw [bI_f g, if_neg g, if_neg (fun z => z rfl)]
theorem m_tks (x : Int32) : f_X6_areTicks x = some (bI (1 ≤ x ∧ x ≤ 2000)) := by
  unfold f_X6_areTicks
  rw [m_in, bd_s, bI_B]
  rfl
theorem s_outputWith {Ls : Nat → SL} {Hs T M : SL} (h : SS Ls Hs T M) (x1 x2 x3 : Int32) : RQ codB Ls Hs T (f_X5_outputWith Ls x1 x2 x3) (f_X6_outputWith M x1 x2 x3) := by
  have h' := h
  obtain ⟨⟨⟨n, t, p⟩, R, S⟩, hA, cA, mA, hF⟩ := h
  have hn : n ≤ 8 := hA.1
  have c0 : CL n t p (Ls 0) R S := cA
  have m0 : ML n t p M R S := mA
  unfold f_X5_outputWith f_X6_outputWith f_X6_outputWith_b31 f_X6_outputWith_b32
  rw [m_need hn m0.1]
  simp only [lt_n, bd_s, m_ref0, m_ref1, m_ref2, bd2_s, is_in, m_capa, c_hor, m_tks, i00, i10, if_true, if_false]
  rcases c_need hn c0.1 x1 with ⟨m, rfl, hm, e⟩ | ⟨hno, e⟩
  · rw [e, bd_s]
    simp only [sx, bI0t ((m_isM hn (nI m)).mpr ⟨m, rfl, hm⟩), not_false_eq_true, if_true]
    by_cases g1 : 0 ≤ x2 ∧ x2 ≤ 40
    · by_cases g2 : 1 ≤ x3 ∧ x3 ≤ 2000
      · simp only [bI0t g1, bI0t g2, if_pos g2, not_false_eq_true, if_true, if_false]
        obtain ⟨T1, rfl, ht1, ht2⟩ := i_rngA (A := 1) (K := 2000) (by omega) (by omega) g2
        obtain ⟨Ls', e1, kL, -⟩ := c_try (c := x2) hA hm ht2 c0
        obtain ⟨M', e2, k1, k2⟩ := m_mad hA g1 hm ht2 (m0.ref 0)
        rw [e1, e2, bd2_s, bd2_s]
        exact ⟨_, M', rfl, Or.inl ⟨by rw [k2 0 (by omega) (by omega) (by omega), up2_s], Ls', rfl, SS.try_ hA cA (M := up2 M 0 4 0) (by rw [up2_row (by omega)]; exact mA) (hF.ref 0) kL k1 k2⟩⟩
      · simp only [bI0t g1, bI0f g2, if_neg g2, not_false_eq_true, if_true, if_false]
        exact ⟨_, _, rfl, Or.inr ⟨2, Or.inr (Or.inl ⟨rfl, by decide⟩), rfl, up2_s _ _ _ _, h'.ref _⟩⟩
    · simp only [bI0f g1, not_true_eq_false, if_true, if_false]
      exact ⟨_, _, rfl, Or.inr ⟨2, Or.inr (Or.inl ⟨rfl, by decide⟩), rfl, up2_s _ _ _ _, h'.ref _⟩⟩
  · rw [e, bd_s]
    simp only [sx, bI0f (fun z => hno ((m_isM hn x1).mp z)), not_true_eq_false, if_false]
    exact ⟨_, _, rfl, Or.inr ⟨1, Or.inl rfl, rfl, up2_s _ _ _ _, h'.ref _⟩⟩
/-! the division: never no number -/
theorem i2d_fin' (v : Int32) : FP.Core.DFin (FP.i2d v) := FP.Core.i2d_fin v
theorem cap_in {x : Int32} {P : Nat} (hx : 0 ≤ x.toInt ∧ x.toInt ≤ 40) (hP : P ≤ 40) : 0 ≤ (if 40 < x + nI P then 40 else x + nI P : Int32) ∧ (if 40 < x + nI P then 40 else x + nI P : Int32) ≤ 40 := by
  by_cases g : 40 < x + nI P
  · rw [if_pos g]
    decide
  · rw [if_neg g]
    refine ⟨?_, i_le g⟩
    rw [Int32.le_iff_toInt_le, i_0, i_add (by rw [nI_toInt (by omega)]; omega) (by rw [nI_toInt (by omega)]; omega), nI_toInt (by omega)]
    omega
theorem best_L {n t p T1 P : Nat} {R S Hs T : SL} (hA : WF ((n, t, p), R, S)) (hn2 : 2 ≤ n) (hT : T1 ≤ 2000) (hP : P ≤ 40) : ∀ (j m f g : Nat) (Ls : Nat → SL) (M : SL) (best most : Int32), m + j = n - 1 → j < f → j < g → CA (Ls 0) ((n, t, p), R, S) → MA (M 1) ((n, t, p), R, S) → AF Ls Hs T M → M 0 4 = 0 →
    ∃ (b : Int32) (Ls' : Nat → SL) (M' : SL), f_X5_bestBuffer_h40 f Ls (nI T1) (nI P) best most (nI m) = some (Sum.inl (b, Ls')) ∧ f_X6_bestBuffer_h53 g M (nI T1) (nI P) best most (nI m) = some (b, M') ∧ SS Ls' Hs T M' ∧ M' 0 4 = 0 := by
  have hn : n ≤ 8 := hA.1
  intro j
  induction j with
  | zero =>
    intro m f g Ls M best most hm hf hg cA mA hF h04
    obtain ⟨f', rfl⟩ : ∃ f', f = f' + 1 := ⟨f - 1, by omega⟩
    obtain ⟨g', rfl⟩ : ∃ g', g = g' + 1 := ⟨g - 1, by omega⟩
    have c0 : CL n t p (Ls 0) R S := cA
    have m0 : ML n t p M R S := mA
    refine ⟨best, Ls, M, ?_, ?_, ⟨_, hA, cA, mA, hF⟩, h04⟩
    · show f_X5_bestBuffer_b40 _ Ls _ _ _ _ _ = _
      unfold f_X5_bestBuffer_b40
      simp only [lt_n]
      rw [c0.1, show nI n - 1 = nI (n - 1) from pk_sub (b := 1) (by omega), if_pos (nI_le (by omega) (by omega))]
    · show f_X6_bestBuffer_b53 _ M _ _ _ _ _ = _
      unfold f_X6_bestBuffer_b53
      simp only [lt_n]
      rw [m0.1, show nI n - 1 = nI (n - 1) from pk_sub (b := 1) (by omega), if_pos (nI_le (by omega) (by omega))]
  | succ j ih =>
    intro m f g Ls M best most hm hf hg cA mA hF h04
    obtain ⟨f', rfl⟩ : ∃ f', f = f' + 1 := ⟨f - 1, by omega⟩
    obtain ⟨g', rfl⟩ : ∃ g', g = g' + 1 := ⟨g - 1, by omega⟩
    have c0 : CL n t p (Ls 0) R S := cA
    have m0 : ML n t p M R S := mA
    have hw := hA.2.2.2.1 m (show m < n by omega)
    have hcap := cap_in (x := R m 4) ⟨hw.2.2.2.1, hw.2.2.2.2⟩ hP
    obtain ⟨Ls', e1, kL, -⟩ := c_try (Ls := Ls) (T := T1) (c := if 40 < R m 4 + nI P then 40 else R m 4 + nI P) hA (show m < n by omega) hT c0
    obtain ⟨M', e2, k1, k2⟩ := m_mad hA hcap (show m < n by omega) hT m0
    have cA' : CA (Ls' 0) ((n, t, p), R, S) := by rw [kL 0 (by omega)]; exact cA
    have mA' : MA (M' 1) ((n, t, p), R, S) := MB.congr hA.1 hA.2.2.1 mA k1
    have hF' : AF Ls' Hs T M' := (hF.cls (fun q hq => kL q (by omega))).mod (k2 2 (by omega) (by omega) (by omega)) (k2 4 (by omega) (by omega) (by omega)) (by rw [k2 0 (by omega) (by omega) (by omega)]) (by rw [k2 0 (by omega) (by omega) (by omega)])
    have h04' : M' 0 4 = 0 := by rw [k2 0 (by omega) (by omega) (by omega)]; exact h04
    have eC : f_X5_bestBuffer_h40 (f' + 1) Ls (nI T1) (nI P) best most (nI m) = if mdW n p R S m (if 40 < R m 4 + nI P then 40 else R m 4 + nI P) T1 ≤ most then f_X5_bestBuffer_h40 f' Ls' (nI T1) (nI P) best most (nI (m + 1)) else f_X5_bestBuffer_h40 f' Ls' (nI T1) (nI P) (nI m) (mdW n p R S m (if 40 < R m 4 + nI P then 40 else R m 4 + nI P) T1) (nI (m + 1)) := by
      show f_X5_bestBuffer_b40 _ Ls _ _ _ _ _ = _
      unfold f_X5_bestBuffer_b40 f_X5_bestBuffer_b100
      simp only [lt_n]
      rw [c0.1, show nI n - 1 = nI (n - 1) from pk_sub (b := 1) (by omega), if_neg (nI_ge (by omega) (by omega)), n_chk (by omega) (by omega), gd_n, nI_clamp (by omega), c0.2.2.2.1 m 4 (by omega) (by omega), e1, bd2_s, nI_1]
    have eM : f_X6_bestBuffer_h53 (g' + 1) M (nI T1) (nI P) best most (nI m) = if mdW n p R S m (if 40 < R m 4 + nI P then 40 else R m 4 + nI P) T1 ≤ most then f_X6_bestBuffer_h53 g' M' (nI T1) (nI P) best most (nI (m + 1)) else f_X6_bestBuffer_h53 g' M' (nI T1) (nI P) (nI m) (mdW n p R S m (if 40 < R m 4 + nI P then 40 else R m 4 + nI P) T1) (nI (m + 1)) := by
      show f_X6_bestBuffer_b53 _ M _ _ _ _ _ = _
      unfold f_X6_bestBuffer_b53 f_X6_bestBuffer_b99 f_X6_bestBuffer_b118 f_X6_bestBuffer_b133
      simp only [lt_n]
      rw [m0.1, show nI n - 1 = nI (n - 1) from pk_sub (b := 1) (by omega), if_neg (nI_ge (by omega) (by omega)), m_of, bd_s, show nI (3 + 16 * m) + 4 = nI (3 + 16 * m + 4) from nI_add _ 4, n_chk (by omega) (by omega), gd_n, nI_clamp (by omega), m0.2.2.2.1 m 4 (by omega) (by omega), nI_1]
      generalize mdW n p R S m (if 40 < R m 4 + nI P then 40 else R m 4 + nI P) T1 = y at e2 ⊢
      by_cases g : 40 < R m 4 + nI P
      · rw [if_pos g] at e2
        rw [if_neg (i_nle g), e2, bd2_s]
        by_cases z : y ≤ most
        · simp only [if_pos z]
        · simp only [if_neg z]
      · rw [if_neg g] at e2
        rw [if_pos (i_le g), e2, bd2_s]
        by_cases z : y ≤ most
        · simp only [if_pos z]
        · simp only [if_neg z]
    rw [eC, eM]
    by_cases z : mdW n p R S m (if 40 < R m 4 + nI P then 40 else R m 4 + nI P) T1 ≤ most
    · rw [if_pos z, if_pos z]
      exact ih (m + 1) f' g' Ls' M' best most (by omega) (by omega) (by omega) cA' mA' hF' h04'
    · rw [if_neg z, if_neg z]
      exact ih (m + 1) f' g' Ls' M' (nI m) _ (by omega) (by omega) (by omega) cA' mA' hF' h04'
theorem c_horT {x K : Int32} (g : 1 ≤ x ∧ x ≤ K) : f_X5_needHorizon x K = some (Sum.inl ()) := by
  rw [c_hor, if_pos g]
theorem c_horF {x K : Int32} (g : ¬ (1 ≤ x ∧ x ≤ K)) : f_X5_needHorizon x K = some (Sum.inr 1) := by
  rw [c_hor, if_neg g]
theorem sx_i {α β : Type} (a : α) (f : α → Option β) (g : Nat → Option β) : sx (Sum.inl a) f g = f a := id rfl
theorem sx_r {α β : Type} (k : Nat) (f : α → Option β) (g : Nat → Option β) : sx (Sum.inr k) f g = g k := id rfl
theorem bd_n {α β : Type} (a : α) (f : α → Option β) : bd (some a) f = f a := id rfl
theorem bd2_n {α β γ : Type} (a : α) (b : β) (f : α → β → Option γ) : bd2 (some (a, b)) f = f a b := id rfl
theorem s_bestBuffer {Ls : Nat → SL} {Hs T M : SL} (h : SS Ls Hs T M) (x1 x2 : Int32) : RQ (fun k => k) Ls Hs T (f_X5_bestBuffer Ls x1 x2) (f_X6_bestBuffer M x1 x2) := by
  have h' := h
  obtain ⟨⟨⟨n, t, p⟩, R, S⟩, hA, cA, mA, hF⟩ := h
  have hn : n ≤ 8 := hA.1
  have c0 : CL n t p (Ls 0) R S := cA
  have m0 : ML n t p M R S := mA
  have hF2 : 10 < fuel := by unfold fuel; omega
  unfold f_X5_bestBuffer f_X6_bestBuffer f_X6_bestBuffer_b18 f_X6_bestBuffer_b37 f_X5_needMachines
  generalize fuel = F at hF2 ⊢
  rw [is_in, m_in, m_tks, bd_n, bd_n, bd_n, m_ref0, m_ref1, m_ref2, bd2_n, bd2_n, bd2_n, if_pos (show (0 : Int32) = 0 from rfl), lt_n, c0.1, lt_n, m0.1]
  simp only [i10, if_false]
  by_cases g1 : 1 ≤ x1 ∧ x1 ≤ 2000
  · by_cases g2 : 1 ≤ x2 ∧ x2 ≤ 40
    · rw [c_horT g1, bd_n, sx_i]
      simp only [bI0t g1, bI0t g2, not_false_eq_true, if_true, if_false]
      obtain ⟨T1, rfl, ht1, ht2⟩ := i_rngA (A := 1) (K := 2000) (by omega) (by omega) g1
      obtain ⟨P, rfl, hP1, hP2⟩ := i_rngA (A := 1) (K := 40) (by omega) (by omega) g2
      by_cases g3 : 2 ≤ n
      · simp only [show ((2 : Int32) ≤ nI n) = True from eq_true (nI_le (a := 2) (b := n) g3 (by omega)), if_true]
        rw [bd_n, sx_i]
        obtain ⟨b, Ls', M', a1, a2, a3, a4⟩ := best_L (Hs := Hs) (T := T) hA g3 ht2 hP2 (n - 1) 0 F F Ls (up2 M 0 4 0) 0 (-1) (by omega) (by omega) (by omega) cA (by rw [up2_row (by omega)]; exact mA) (hF.ref 0) (up2_s _ _ _ _)
        exact ⟨b, M', a2, Or.inl ⟨a4, Ls', a1, a3⟩⟩
      · simp only [show ((2 : Int32) ≤ nI n) = False from eq_false (nI_ge (a := n) (b := 2) (by omega) (by omega)), if_false]
        rw [bd_n, sx_r]
        exact ⟨_, _, rfl, Or.inr ⟨2, Or.inr (Or.inl ⟨rfl, by decide⟩), rfl, up2_s _ _ _ _, h'.ref _⟩⟩
    · rw [c_horT g1, bd_n, sx_i]
      simp only [bI0t g1, bI0f g2, not_true_eq_false, if_false]
      exact ⟨_, _, rfl, Or.inr ⟨1, Or.inl rfl, rfl, up2_s _ _ _ _, h'.ref _⟩⟩
  · rw [c_horF g1, bd_n, sx_r]
    simp only [bI0f g1, if_true]
    exact ⟨_, _, rfl, Or.inr ⟨1, Or.inl rfl, rfl, up2_s _ _ _ _, h'.ref _⟩⟩
theorem dnn_t (x : Int32) {t : Nat} (ht : 0 < t ∧ t < 2147483648) : dnn (FP.i2d x) (FP.i2d (nI t)) = true := by
  have hne : nI t ≠ 0 := fun z => absurd ((nI_eq (a := t) (b := 0) (by omega) (by omega)).mp z) (by omega)
  have h := FP.Core.ddiv_out (FP.Core.i2d_fin x).notNaN (FP.Core.i2d_fin (nI t)) (fun z => FP.Core.i2d_ne_zero hne ((FP.Core.zero_bits2 _).mp z))
  have h2 : FP.Core.dIsNaN (FP.ddiv (FP.i2d x) (FP.i2d (nI t))) = false := h
  unfold dnn
  refine decide_eq_true ?_
  generalize FP.ddiv (FP.i2d x) (FP.i2d (nI t)) = y at h2 ⊢
  rw [← Bool.not_eq_true, FP.Core.isNaN_bits] at h2
  rw [UInt64.le_iff_toNat_le, UInt64.toNat_and]
  have h3 : (0x7fffffffffffffff : UInt64).toNat = 2 ^ 63 - 1 := by decide
  have h4 : (0x7ff0000000000000 : UInt64).toNat = 9218868437227405312 := by decide
  rw [h3, h4, Nat.and_two_pow_sub_one_eq_mod]
  omega
def RM0 (Ls : Nat → SL) (Hs T : SL) (fC : Option (Sum UInt64 Nat)) (fM : Option (UInt64 × SL)) : Prop :=
  ∃ (b : UInt64) (M' : SL), fM = some (b, M') ∧ SS Ls Hs T M' ∧ ((M' 0 4 = 0 ∧ fC = some (Sum.inl b)) ∨ (fC = some (Sum.inr 3) ∧ M' 0 4 = 1))
theorem s_meanFill {Ls : Nat → SL} {Hs T M : SL} (h : SS Ls Hs T M) (x1 : Int32) : RM0 Ls Hs T (f_X5_meanFill Ls x1) (f_X6_meanFill M x1) := by
  have h' := h
  obtain ⟨⟨⟨n, t, p⟩, R, S⟩, hA, cA, mA, hF⟩ := h
  have hn : n ≤ 8 := hA.1
  have ht : t ≤ 10000 := hA.2.1
  have c0 : CL n t p (Ls 0) R S := cA
  have m0 : ML n t p M R S := mA
  have m1 := m0.ref 0
  unfold f_X5_meanFill f_X6_meanFill f_X6_meanFill_b14
  rw [m_need hn m0.1, bd_n, m_ref0, m_ref1, bd2_n, bd2_n]
  rcases c_need hn c0.1 x1 with ⟨m, rfl, hm, e⟩ | ⟨hno, e⟩
  · rw [e, bd_n, sx_i]
    simp only [bI0t ((m_isM hn (nI m)).mpr ⟨m, rfl, hm⟩), if_false, lt_n]
    rw [if_neg (show ¬ ¬ True from fun z => z trivial), c0.2.1, m1.2.1]
    by_cases g : t = 0
    · rw [if_neg (show ¬ ¬ nI t = 0 from fun z => z (by rw [g]; rfl)), if_neg (show ¬ ¬ nI t = 0 from fun z => z (by rw [g]; rfl))]
      exact ⟨_, _, rfl, h'.ref 0, Or.inl ⟨up2_s _ _ _ _, rfl⟩⟩
    · have gz : ¬ nI t = 0 := fun z => g ((nI_eq (a := t) (b := 0) (by omega) (by omega)).mp z)
      rw [if_pos gz, if_pos gz, n_chk (by omega) (by omega), gd_n, nI_clamp (by omega), c0.2.2.2.1 m 15 hm (by omega), dnn_t _ (by omega), gd_n, m_of, bd_n, show nI (3 + 16 * m) + 15 = nI (3 + 16 * m + 15) from nI_add _ 15, n_chk (by omega) (by omega), gd_n, nI_clamp (by omega), m1.2.2.2.1 m 15 hm (by omega), dnn_t _ (by omega), gd_n]
      exact ⟨_, _, rfl, h'.ref 0, Or.inl ⟨up2_s _ _ _ _, rfl⟩⟩
  · rw [e, bd_n, sx_r]
    simp only [bI0f (fun z => hno ((m_isM hn x1).mp z)), if_true]
    rw [if_pos (show ¬ (1 : Int32) = 0 by decide)]
    exact ⟨_, _, rfl, h'.ref 1, Or.inr ⟨rfl, up2_s _ _ _ _⟩⟩
