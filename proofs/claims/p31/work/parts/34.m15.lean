/-! THE MEANING, 15: what if -/
theorem all_up (n : Nat) (R : SL) (m : Nat) (c : Int32) : allS n (up2 R m 4 c) = up2 (allS n R) m 4 c := by
  funext k q
  rw [up2_ap]
  unfold allS
  rw [up2_ap]
  by_cases g : k = m ∧ q = 4
  · rw [if_pos g, if_neg (by omega), if_pos g]
  · rw [if_neg g, if_neg g]
/-- what the line makes in T ticks from the beginning, with another capacity: its rows, its output -/
def rowW (n p : Nat) (R S : SL) (m : Nat) (c : Int32) (T : Nat) : SL := pasS n p S T 0 (allS n (up2 R m 4 c))
def mdW (n p : Nat) (R S : SL) (m : Nat) (c : Int32) (T : Nat) : Int32 := outR n (rowW n p R S m c T)
theorem c_try {n t p m T : Nat} {Ls : Nat → SL} {R S : SL} {c : Int32} (hW : WF ((n, t, p), R, S)) (hm : m < n) (hT : T ≤ 2000) (h : CL n t p (Ls 0) R S) : ∃ Ls' : Nat → SL, f_X5_tryCapacity Ls (nI m) c (nI T) = some (mdW n p R S m c T, Ls') ∧ (∀ q, q ≠ 1 → Ls' q = Ls q) ∧ CL n T p (Ls' 1) (rowW n p R S m c T) S := by
  have hn : n ≤ 8 := hW.1
  have hp : p ≤ 40 := hW.2.2.1
  obtain ⟨L1, e1, d1, d2⟩ := c_copy (i := 0) (j := 1) (by omega) hn hp h
  obtain ⟨L2, e2, d3⟩ := c_new hn d1
  have d4 := d3.put (m := m) (c := 4) (by omega) c
  rw [← all_up] at d4
  obtain ⟨L3, e3, d5⟩ := c_pas (n := n) (t := 0) (p := p) (T := T) (S := S) hn (by omega) hp (by omega) (by omega) d4
  rw [Nat.zero_add] at d5
  unfold f_X5_tryCapacity
  simp only [lt_n]
  rw [e1, bd_s, e2, bd_s, n_chk (by omega) (by omega), gd_n, nI_clamp (by omega), va_up_self, va_up_self, e3, bd_s, va_up_self, c_outs hn d5, bd_s]
  exact ⟨_, rfl, fun q hq => by rw [va_up_ne _ _ hq, va_up_ne _ _ hq, va_up_ne _ _ hq]; exact d2 q hq, by rw [va_up_self]; exact d5⟩
theorem c_hor (x K : Int32) : f_X5_needHorizon x K = some (if 1 ≤ x ∧ x ≤ K then Sum.inl () else Sum.inr 1) := by
  unfold f_X5_needHorizon
  rw [is_in, bd_s]
  by_cases g : 1 ≤ x ∧ x ≤ K
  · rw [bI_t g, if_pos g, if_pos (by decide)]
  · rw [bI_f g, if_neg g, if_neg (fun z => z rfl)]
/-! the division: never no number -/
theorem i2d_fin' (v : Int32) : FP.Core.DFin (FP.i2d v) := FP.Core.i2d_fin v
theorem cap_in {x : Int32} {P : Nat} (hx : 0 ≤ x.toInt ∧ x.toInt ≤ 40) (hP : P ≤ 40) : 0 ≤ (if 40 < x + nI P then 40 else x + nI P : Int32) ∧ (if 40 < x + nI P then 40 else x + nI P : Int32) ≤ 40 := by
  by_cases g : 40 < x + nI P
  · rw [if_pos g]
    decide
  · rw [if_neg g]
    refine ⟨?_, i_le g⟩
    rw [Int32.le_iff_toInt_le, i_0, i_add (by rw [nI_toInt (by omega)]; omega) (by rw [nI_toInt (by omega)]; omega), nI_toInt (by omega)]
    omega
theorem c_horT {x K : Int32} (g : 1 ≤ x ∧ x ≤ K) : f_X5_needHorizon x K = some (Sum.inl ()) := by
  rw [c_hor, if_pos g]
theorem c_horF {x K : Int32} (g : ¬ (1 ≤ x ∧ x ≤ K)) : f_X5_needHorizon x K = some (Sum.inr 1) := by
  rw [c_hor, if_neg g]
theorem sx_i {α β : Type} (a : α) (f : α → Option β) (g : Nat → Option β) : sx (Sum.inl a) f g = f a := id rfl
theorem sx_r {α β : Type} (k : Nat) (f : α → Option β) (g : Nat → Option β) : sx (Sum.inr k) f g = g k := id rfl
theorem bd_n {α β : Type} (a : α) (f : α → Option β) : bd (some a) f = f a := id rfl
theorem bd2_n {α β γ : Type} (a : α) (b : β) (f : α → β → Option γ) : bd2 (some (a, b)) f = f a b := id rfl
