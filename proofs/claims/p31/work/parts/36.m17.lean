/-! THE MEANING, 17: the bound, the slowest -/
def slwS (S R : SL) (p T : Nat) : Nat → Nat
  | 0 => 0
  | k + 1 => if mstS S R p T (slwS S R p T k) ≤ mstS S R p T (k + 1) then slwS S R p T k else k + 1
theorem slw_le (S R : SL) (p T : Nat) : ∀ k, slwS S R p T k ≤ k
  | 0 => Nat.le_refl 0
  | k + 1 => by
    have := slw_le S R p T k
    show (if mstS S R p T (slwS S R p T k) ≤ mstS S R p T (k + 1) then slwS S R p T k else k + 1) ≤ k + 1
    split <;> omega
theorem c_slwL {n t p T : Nat} {R S : SL} (hW : WF ((n, t, p), R, S)) (hT : T ≤ 10000) : ∀ (j m f : Nat) (L : SL), m + 1 + j = n → j < f → CL n t p L R S → ∃ L', f_X2_findSlowest_h8 f L (nI T) (nI (slwS S R p T m)) (mstS S R p T (slwS S R p T m)) (nI (m + 1)) = some (nI (slwS S R p T (n - 1)), L') ∧ KD L L' := by
  have hn : n ≤ 8 := hW.1
  intro j
  induction j with
  | zero =>
    intro m f L hm hf hC
    obtain ⟨f', rfl⟩ : ∃ f', f = f' + 1 := ⟨f - 1, by omega⟩
    refine ⟨L, ?_, KD.rf⟩
    show f_X2_findSlowest_b8 _ L _ _ _ _ = _
    unfold f_X2_findSlowest_b8
    rw [lt_n, hC.1, if_pos (nI_le (by omega) (by omega)), show n - 1 = m by omega]
  | succ j ih =>
    intro m f L hm hf hC
    obtain ⟨f', rfl⟩ : ∃ f', f = f' + 1 := ⟨f - 1, by omega⟩
    obtain ⟨L1, e1, k1⟩ := c_mst hW (show m + 1 < n by omega) hT hC
    obtain ⟨L2, e2, k2⟩ := ih (m + 1) f' L1 (by omega) (by omega) (KD.cl hC k1 hn)
    refine ⟨L2, ?_, k1.tr k2⟩
    show f_X2_findSlowest_b8 _ L _ _ _ _ = _
    unfold f_X2_findSlowest_b8 f_X2_findSlowest_b38
    simp only [lt_n]
    rw [hC.1, if_neg (nI_ge (by omega) (by omega)), e1, bd2_n, nI_1, ← e2]
    by_cases g : mstS S R p T (slwS S R p T m) ≤ mstS S R p T (m + 1)
    · rw [if_pos g, show slwS S R p T (m + 1) = slwS S R p T m from if_pos g]
    · rw [if_neg g, show slwS S R p T (m + 1) = m + 1 from if_neg g]
theorem mst_lo {n t p T m : Nat} {R S : SL} (hW : WF ((n, t, p), R, S)) (hm : m < n) (hT : T ≤ 10000) : ¬ (1000000 : Int32) ≤ mstS S R p T m := fun z => by
  have hw : 1 ≤ (R m 1).toInt ∧ (R m 1).toInt ≤ (R m 0).toInt ∧ (R m 0).toInt ≤ 20 ∧ 0 ≤ (R m 4).toInt ∧ (R m 4).toInt ≤ 40 := hW.2.2.2.1 m hm
  have hup := upN_le S p m T
  have hw1 : 1 ≤ (R m 1).toInt := hw.1
  have hw2 : (R m 1).toInt ≤ 20 := by have := hw.2.1; have := hw.2.2.1; omega
  rw [Int32.le_iff_toInt_le] at z
  unfold mstS at z
  obtain ⟨w, hw3⟩ : ∃ w : Nat, R m 1 = nI w ∧ 1 ≤ w ∧ w ≤ 20 := by
    refine ⟨(R m 1).toInt.toNat, Int32.toInt_inj.mp ?_, by omega, by omega⟩
    rw [nI_toInt (by omega)]
    omega
  obtain ⟨e, w1, w2⟩ := hw3
  have hd : upN S p m T / w ≤ upN S p m T := Nat.div_le_self _ _
  rw [e, pk_div (by omega) (by omega) (by omega), nI_toInt (by omega), show (1000000 : Int32).toInt = 1000000 from rfl] at z
  omega
theorem c_slw0 {n t p T : Nat} {R S : SL} (hW : WF ((n, t, p), R, S)) (hn0 : 0 < n) (hT : T ≤ 10000) (f : Nat) (hf : n < f) (L : SL) (hC : CL n t p L R S) : ∃ L', f_X2_findSlowest_h8 f L (nI T) 0 1000000 (nI 0) = some (nI (slwS S R p T (n - 1)), L') ∧ KD L L' := by
  have hn : n ≤ 8 := hW.1
  obtain ⟨f', rfl⟩ : ∃ f', f = f' + 1 := ⟨f - 1, by omega⟩
  obtain ⟨L1, e1, k1⟩ := c_mst hW hn0 hT hC
  obtain ⟨L2, e2, k2⟩ := c_slwL hW hT (n - 1) 0 f' L1 (by omega) (by omega) (KD.cl hC k1 hn)
  refine ⟨L2, ?_, k1.tr k2⟩
  show f_X2_findSlowest_b8 _ L _ 0 1000000 (nI 0) = _
  unfold f_X2_findSlowest_b8 f_X2_findSlowest_b38
  simp only [lt_n]
  rw [hC.1, if_neg (nI_ge (by omega) (by omega)), e1, bd2_n, nI_1, ← e2, show slwS S R p T 0 = 0 from rfl]
  have hz : ¬ (1000000 : Int32) ≤ mstS S R p T 0 := mst_lo hW hn0 hT
  generalize mstS S R p T 0 = z at hz ⊢
  rw [if_neg hz]
theorem c_slw {n t p T : Nat} {L R S : SL} (hW : WF ((n, t, p), R, S)) (hn0 : 0 < n) (hT : T ≤ 10000) (hC : CL n t p L R S) : ∃ L', f_X2_findSlowest L (nI T) = some (nI (slwS S R p T (n - 1)), L') ∧ KD L L' := by
  have hn : n ≤ 8 := hW.1
  unfold f_X2_findSlowest
  exact c_slw0 hW hn0 hT fuel (by unfold fuel; omega) L hC
