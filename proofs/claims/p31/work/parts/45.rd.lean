/-! THE MEANING, 26: the class alone: what is read, what is refused, what if -/
section READS
variable {F : Nat → Nat → SL → Prop} {Ls : Nat → SL} {Hs : SL} {n t p v : Nat} {R S : SL} {B : Nat → LN}
theorem r_now (h : SC F Ls Hs ((n, t, p), R, S) v B) : f_X5_now Ls = some (nI t) := by
  have c0 : CL n t p (Ls 0) R S := h.2.1
  unfold f_X5_now
  rw [lt_n, c0.2.1]
theorem r_size0 (h : SC F Ls Hs ((n, t, p), R, S) v B) : f_X5_size Ls 0 = some (nI n) := by
  have c0 : CL n t p (Ls 0) R S := h.2.1
  unfold f_X5_size
  try simp only [lt_n]
  rw [if_true, c0.1]
theorem r_size1 (h : SC F Ls Hs ((n, t, p), R, S) v B) : f_X5_size Ls 1 = some (nI p) := by
  have c0 : CL n t p (Ls 0) R S := h.2.1
  unfold f_X5_size
  try simp only [lt_n]
  rw [if_neg (show ¬ (1 : Int32) = 0 by decide), c0.2.2.1]
theorem r_out (h : SC F Ls Hs ((n, t, p), R, S) v B) : f_X5_output Ls = some (outR n R) := by
  unfold f_X5_output
  try simp only [lt_n]
  rw [c_outs h.1.1.1 h.2.1, bd_n]
theorem r_ins (h : SC F Ls Hs ((n, t, p), R, S) v B) : f_X5_inside Ls = some (insS R n) := by
  unfold f_X5_inside
  try simp only [lt_n]
  rw [c_ins h.1.1.1 h.2.1, bd_n]
theorem r_what {K w : Nat} (hK : K < 100) (hw : w ≤ K) : f_X5_needWhat (nI w) (nI (K + 1)) = some (Sum.inl ()) := by
  rcases c_what (nI w) hK with ⟨w', e, h1, h2, h3⟩ | ⟨h1, h2⟩
  · exact h3
  · exact absurd ⟨nI_le (a := 0) (by omega) (by omega), nI_le (by omega) (by omega)⟩ h1
theorem r_cnt (h : SC F Ls Hs ((n, t, p), R, S) v B) {m w : Nat} (hm : m < n) (hw : w ≤ 5) : f_X5_count Ls (nI m) (nI w) = some (Sum.inl (R m (9 + w))) := by
  have hn : n ≤ 8 := h.1.1.1
  have c0 : CL n t p (Ls 0) R S := h.2.1
  unfold f_X5_count
  rw [a_need h hm, bd_n, sx_i, show f_X5_needWhat (nI w) 6 = some (Sum.inl ()) from r_what (K := 5) (by omega) hw, bd_n, sx_i]
  try simp only [lt_n]
  rw [show 9 + nI w = nI (9 + w) from nI_add 9 w, n_chk (by omega) (by omega), gd_n, n_chk (by omega) (by omega), gd_n, nI_clamp (by omega), nI_clamp (by omega), c0.2.2.2.1 m (9 + w) hm (by omega)]
theorem r_cntR (h : SC F Ls Hs ((n, t, p), R, S) v B) {x y : Int32} (hx : ¬ ∃ m, x = nI m ∧ m < n) : f_X5_count Ls x y = some (Sum.inr 3) := by
  unfold f_X5_count
  rw [a_needR h hx, bd_n, sx_r]
theorem r_mac (h : SC F Ls Hs ((n, t, p), R, S) v B) {m w : Nat} (hm : m < n) (hw : w ≤ 3) : f_X5_machine Ls (nI m) (nI w) = some (Sum.inl (R m (5 + w))) := by
  have hn : n ≤ 8 := h.1.1.1
  have c0 : CL n t p (Ls 0) R S := h.2.1
  unfold f_X5_machine
  rw [a_need h hm, bd_n, sx_i, show f_X5_needWhat (nI w) 4 = some (Sum.inl ()) from r_what (K := 3) (by omega) hw, bd_n, sx_i]
  try simp only [lt_n]
  rw [show 5 + nI w = nI (5 + w) from nI_add 5 w, n_chk (by omega) (by omega), gd_n, n_chk (by omega) (by omega), gd_n, nI_clamp (by omega), nI_clamp (by omega), c0.2.2.2.1 m (5 + w) hm (by omega)]
theorem r_macR (h : SC F Ls Hs ((n, t, p), R, S) v B) {x y : Int32} (hx : ¬ ∃ m, x = nI m ∧ m < n) : f_X5_machine Ls x y = some (Sum.inr 3) := by
  unfold f_X5_machine
  rw [a_needR h hx, bd_n, sx_r]
theorem r_set (h : SC F Ls Hs ((n, t, p), R, S) v B) {m w : Nat} (hm : m < n) (hw : w ≤ 4) : f_X5_setting Ls (nI m) (nI w) = some (Sum.inl (R m w)) := by
  have hn : n ≤ 8 := h.1.1.1
  have c0 : CL n t p (Ls 0) R S := h.2.1
  unfold f_X5_setting
  rw [a_need h hm, bd_n, sx_i, show f_X5_needWhat (nI w) 5 = some (Sum.inl ()) from r_what (K := 4) (by omega) hw, bd_n, sx_i]
  try simp only [lt_n]
  rw [Int32.zero_add, n_chk (by omega) (by omega), gd_n, n_chk (by omega) (by omega), gd_n, nI_clamp (by omega), nI_clamp (by omega), c0.2.2.2.1 m w hm (by omega)]
theorem r_setR (h : SC F Ls Hs ((n, t, p), R, S) v B) {x y : Int32} (hx : ¬ ∃ m, x = nI m ∧ m < n) : f_X5_setting Ls x y = some (Sum.inr 3) := by
  unfold f_X5_setting
  rw [a_needR h hx, bd_n, sx_r]
theorem r_val (h : SC F Ls Hs ((n, t, p), R, S) v B) {k w : Nat} (hk : k < p) (hw : w ≤ 2) : f_X4_value (Ls 0) (nI k) (nI w) = some (S k w) := by
  have c0 : CL n t p (Ls 0) R S := h.2.1
  have hp : p ≤ 40 := h.1.1.2.2.1
  obtain ⟨s0, s1, s2⟩ := c0.2.2.2.2 k hk
  unfold f_X4_value
  try simp only [lt_n]
  rw [n_chk (by omega) (by omega), gd_n, gd_n, gd_n, nI_clamp (by omega), s0, s1, s2]
  obtain rfl | rfl | rfl : w = 0 ∨ w = 1 ∨ w = 2 := by omega
  · rw [if_neg (fun z => z rfl)]
  · rw [if_pos (show ¬ nI 1 = 0 by decide), if_neg (fun z => z rfl)]
  · rw [if_pos (show ¬ nI 2 = 0 by decide), if_pos (show ¬ nI 2 = 1 by decide)]
theorem r_stp (h : SC F Ls Hs ((n, t, p), R, S) v B) {k w : Nat} (hk : k < p) (hw : w ≤ 2) : f_X5_stop Ls (nI k) (nI w) = some (Sum.inl (S k w)) := by
  have c0 : CL n t p (Ls 0) R S := h.2.1
  have hp : p ≤ 40 := h.1.1.2.2.1
  unfold f_X5_stop f_X5_stop_b18
  try simp only [lt_n]
  rw [c0.2.2.1, if_neg (show ¬ nI k < 0 from i_nlt (nI_le (a := 0) (by omega) (by omega))), if_pos (nI_lt hk (show p < 2 ^ 31 by omega)), show f_X5_needWhat (nI w) 3 = some (Sum.inl ()) from r_what (K := 2) (by omega) hw, bd_n, sx_i, r_val h hk hw, bd_n]
theorem r_stpR (h : SC F Ls Hs ((n, t, p), R, S) v B) {y : Int32} : f_X5_stop Ls 40 y = some (Sum.inr 3) := by
  have c0 : CL n t p (Ls 0) R S := h.2.1
  have hp : p ≤ 40 := h.1.1.2.2.1
  unfold f_X5_stop f_X5_stop_b18
  try simp only [lt_n]
  rw [c0.2.2.1, if_neg (show ¬ (40 : Int32) < 0 by decide), if_neg (show ¬ (40 : Int32) < nI p from nI_nlt (a := 40) (b := p) (by omega) (by omega))]
theorem r_lim (h : SC F Ls Hs ((n, t, p), R, S) v B) (hn0 : 0 < n) : f_X5_limiting Ls = some (Sum.inl (nI (limS R (n - 1)))) := by
  have hn : n ≤ 8 := h.1.1.1
  have c0 : CL n t p (Ls 0) R S := h.2.1
  unfold f_X5_limiting f_X5_needMachines
  rw [lt_n, c0.1, if_pos (show (1 : Int32) ≤ nI n from nI_le (a := 1) (b := n) (by omega) (by omega)), bd_n, sx_i]
  try simp only [lt_n]
  rw [c_lim hn hn0 c0 (TN_zero (n := n) (t := t) h.1.1.2.2.2.2.2.2 hn0 h.1.1.2.1), bd_n]
theorem r_lim0 (h : SC F Ls Hs ((0, t, p), R, S) v B) : f_X5_limiting Ls = some (Sum.inr 2) := by
  have c0 : CL 0 t p (Ls 0) R S := h.2.1
  unfold f_X5_limiting f_X5_needMachines
  rw [lt_n, c0.1, if_neg (show ¬ (1 : Int32) ≤ nI 0 by decide), bd_n, sx_r]
theorem KD.sc {L2 : SL} (h : SC F Ls Hs ((n, t, p), R, S) v B) (k : KD (Ls 0) L2) : SC F (va_up Ls 0 L2) Hs ((n, t, p), R, S) v B :=
  h.put h.1 (KD.cl h.2.1 k h.1.1.1)
theorem r_slw (h : SC F Ls Hs ((n, t, p), R, S) v B) (hn0 : 0 < n) {T : Nat} (hT1 : 1 ≤ T) (hT : T ≤ 10000) : ∃ Ls', f_X5_slowest Ls (nI T) = some (Sum.inl (nI (slwS S R p T (n - 1)), Ls')) ∧ SC F Ls' Hs ((n, t, p), R, S) v B := by
  have hn : n ≤ 8 := h.1.1.1
  have c0 : CL n t p (Ls 0) R S := h.2.1
  unfold f_X5_slowest f_X5_needMachines
  rw [c_horT (K := 10000) ⟨nI_le (a := 1) hT1 (by omega), nI_le (b := 10000) hT (by omega)⟩, bd_n, sx_i, lt_n, c0.1, if_pos (show (1 : Int32) ≤ nI n from nI_le (a := 1) (b := n) (by omega) (by omega)), bd_n, sx_i]
  obtain ⟨L2, e1, k1⟩ := c_slw h.1.1 hn0 hT c0
  rw [e1, bd2_n]
  exact ⟨_, rfl, KD.sc h k1⟩
theorem r_slwR {x : Int32} (g : ¬ (1 ≤ x ∧ x ≤ 10000)) : f_X5_slowest Ls x = some (Sum.inr 1) := by
  unfold f_X5_slowest
  rw [c_horF g, bd_n, sx_r]
theorem r_bnd (h : SC F Ls Hs ((n, t, p), R, S) v B) (hn0 : 0 < n) {T : Nat} (hT1 : 1 ≤ T) (hT : T ≤ 10000) : ∃ Ls', f_X5_bound Ls (nI T) = some (Sum.inl (mstS S R p T (slwS S R p T (n - 1)), Ls')) ∧ SC F Ls' Hs ((n, t, p), R, S) v B := by
  have hn : n ≤ 8 := h.1.1.1
  have c0 : CL n t p (Ls 0) R S := h.2.1
  unfold f_X5_bound f_X5_needMachines
  rw [c_horT (K := 10000) ⟨nI_le (a := 1) hT1 (by omega), nI_le (b := 10000) hT (by omega)⟩, bd_n, sx_i, lt_n, c0.1, if_pos (show (1 : Int32) ≤ nI n from nI_le (a := 1) (b := n) (by omega) (by omega)), bd_n, sx_i]
  have hl := slw_le S R p T (n - 1)
  obtain ⟨L2, e1, k1⟩ := c_slw h.1.1 hn0 hT c0
  have c2 := KD.cl c0 k1 hn
  obtain ⟨L3, e3, k5⟩ := c_mst h.1.1 (show slwS S R p T (n - 1) < n by omega) hT c2
  rw [e1, bd2_n, lt_n, va_0, e3, bd2_n, lt_n]
  have h2 := KD.sc h k1
  exact ⟨_, rfl, KD.sc h2 (by rw [va_0]; exact k5)⟩
theorem r_bnd0 (h : SC F Ls Hs ((0, t, p), R, S) v B) {T : Nat} (hT1 : 1 ≤ T) (hT : T ≤ 10000) : f_X5_bound Ls (nI T) = some (Sum.inr 2) := by
  have c0 : CL 0 t p (Ls 0) R S := h.2.1
  unfold f_X5_bound f_X5_needMachines
  rw [c_horT (K := 10000) ⟨nI_le (a := 1) hT1 (by omega), nI_le (b := 10000) hT (by omega)⟩, bd_n, sx_i, lt_n, c0.1, if_neg (show ¬ (1 : Int32) ≤ nI 0 by decide), bd_n, sx_r]
theorem r_bndR {x : Int32} (g : ¬ (1 ≤ x ∧ x ≤ 10000)) : f_X5_bound Ls x = some (Sum.inr 1) := by
  unfold f_X5_bound
  rw [c_horF g, bd_n, sx_r]
theorem r_tryK (h : SC F Ls Hs ((n, t, p), R, S) v B) {Ls' : Nat → SL} (kL : ∀ q, q ≠ 1 → Ls' q = Ls q) : SC F Ls' Hs ((n, t, p), R, S) v B :=
  h.cls (by rw [kL 0 (by omega)]; exact h.2.1) (fun q hq => kL q (by omega))
theorem r_ow (h : SC F Ls Hs ((n, t, p), R, S) v B) {m T : Nat} (hm : m < n) {c : Int32} (hc : 0 ≤ c ∧ c ≤ 40) (hT1 : 1 ≤ T) (hT : T ≤ 2000) : ∃ Ls', f_X5_outputWith Ls (nI m) c (nI T) = some (Sum.inl (mdW n p R S m c T, Ls')) ∧ SC F Ls' Hs ((n, t, p), R, S) v B := by
  have hn : n ≤ 8 := h.1.1.1
  unfold f_X5_outputWith
  rw [a_need h hm, bd_n, sx_i, is_in, bd_n]
  simp only [bI0t hc, not_false_eq_true, if_true]
  rw [c_horT (K := 2000) ⟨nI_le (a := 1) hT1 (by omega), nI_le (b := 2000) hT (by omega)⟩, bd_n, sx_i]
  obtain ⟨Ls', e1, kL, -⟩ := c_try (c := c) h.1.1 hm hT h.2.1
  rw [e1, bd2_n]
  exact ⟨_, rfl, r_tryK h kL⟩
theorem r_owR (h : SC F Ls Hs ((n, t, p), R, S) v B) {x1 x2 x3 : Int32} (hx : ¬ ∃ m, x1 = nI m ∧ m < n) : f_X5_outputWith Ls x1 x2 x3 = some (Sum.inr 3) := by
  unfold f_X5_outputWith
  rw [a_needR h hx, bd_n, sx_r]
/-- the least capacity, where none is enough -/
theorem r_cf0 (h : SC F Ls Hs ((n, t, p), R, S) v B) {m T : Nat} (hm : m < n) {w : Int32} (hw : 0 ≤ w ∧ w ≤ 2000) (hT1 : 1 ≤ T) (hT : T ≤ 2000) (g1 : w ≤ mstS S R p T (slwS S R p T (n - 1))) (g2 : w ≤ mdW n p R S m (nI 0) T) : ∃ Ls', f_X5_capacityFor Ls (nI m) (nI T) w = some (Sum.inl (0, Ls')) ∧ SC F Ls' Hs ((n, t, p), R, S) v B := by
  have hn : n ≤ 8 := h.1.1.1
  have hA := h.1.1
  have c0 : CL n t p (Ls 0) R S := h.2.1
  have hF2 : 42 < fuel := by unfold fuel; omega
  unfold f_X5_capacityFor
  generalize fuel = FU at hF2 ⊢
  rw [a_need h hm, bd_n, sx_i, c_horT (K := 2000) ⟨nI_le (a := 1) hT1 (by omega), nI_le (b := 2000) hT (by omega)⟩, bd_n, sx_i, is_in, bd_n]
  simp only [bI0t hw, not_false_eq_true, if_true]
  have hl := slw_le S R p T (n - 1)
  obtain ⟨L2, e1, k1⟩ := c_slw hA (show 0 < n by omega) (show T ≤ 10000 by omega) c0
  have c2 := KD.cl c0 k1 hn
  obtain ⟨L3, e3, k5⟩ := c_mst hA (show slwS S R p T (n - 1) < n by omega) (show T ≤ 10000 by omega) c2
  rw [e1, bd2_n, lt_n, va_0, e3, bd2_n, lt_n, if_pos g1]
  have h2 := KD.sc h k1
  have h3 := KD.sc h2 (L2 := L3) (by rw [va_0]; exact k5)
  obtain ⟨f', rfl⟩ : ∃ f', FU = f' + 1 := ⟨FU - 1, by omega⟩
  obtain ⟨Ls', e4, kL, cT⟩ := c_try (T := T) (c := nI 0) hA hm hT h3.2.1
  show ∃ L9, f_X5_capacityFor_b58 _ _ _ _ _ _ = _ ∧ _
  unfold f_X5_capacityFor_b58
  rw [if_neg (show ¬ (40 : Int32) < 0 by decide), show (0 : Int32) = nI 0 from rfl, e4, bd2_n, if_neg (i_nlt g2)]
  exact ⟨_, rfl, r_tryK h3 kL⟩
theorem r_cfR (h : SC F Ls Hs ((n, t, p), R, S) v B) {x1 x2 x3 : Int32} (hx : ¬ ∃ m, x1 = nI m ∧ m < n) : f_X5_capacityFor Ls x1 x2 x3 = some (Sum.inr 3) := by
  unfold f_X5_capacityFor
  rw [a_needR h hx, bd_n, sx_r]
theorem r_bbR {x1 x2 : Int32} (g : ¬ (1 ≤ x1 ∧ x1 ≤ 2000)) : f_X5_bestBuffer Ls x1 x2 = some (Sum.inr 1) := by
  unfold f_X5_bestBuffer
  rw [c_horF g, bd_n, sx_r]
theorem r_apR {T : SL} {x : Int32} (g : ¬ (0 ≤ x ∧ x ≤ 127)) : f_X5_append T x = some (Sum.inr 1) := by
  unfold f_X5_append
  simp only [is_in, bd_n, bI0f g, not_true_eq_false, if_false]
end READS
/-! what the law's wrappers answer -/
theorem no_m {n k : Nat} (h : n ≤ k) (hk : k < 2147483648) : ¬ ∃ m, nI k = nI m ∧ m < n := by
  rintro ⟨m, e, hm⟩
  have := (nI_eq (a := k) (b := m) (by omega) (by omega)).mp e
  omega
theorem no_n {n : Nat} (hn : n ≤ 8) : ¬ ∃ m, (-1 : Int32) = nI m ∧ m < n := by
  rintro ⟨m, e, hm⟩
  have q : (-1 : Int32) < 0 := by decide
  rw [e] at q
  exact i_nlt (nI_le (a := 0) (by omega) (by omega)) q
