/-! THE MEANING, 17: the bound, the slowest -/
def slwS (S R : SL) (p T : Nat) : Nat → Nat
  | 0 => 0
  | k + 1 => if mstS S R p T (slwS S R p T k) ≤ mstS S R p T (k + 1) then slwS S R p T k else k + 1
theorem slw_le (S R : SL) (p T : Nat) : ∀ k, slwS S R p T k ≤ k
  | 0 => Nat.le_refl 0
  | k + 1 => by
    have := slw_le S R p T k
    show (if mstS S R p T (slwS S R p T k) ≤ mstS S R p T (k + 1) then slwS S R p T k else k + 1) ≤ k + 1
    split <;> omega
theorem c_slwL {n t p T : Nat} {R S : SL} (hW : WF ((n, t, p), R, S)) (hT : T ≤ 10000) : ∀ (j m f : Nat) (L : SL), m + 1 + j = n → j < f → CL n t p L R S → ∃ L', f_X2_findSlowest_h8 f L (nI T) (nI (slwS S R p T m)) (mstS S R p T (slwS S R p T m)) (nI (m + 1)) = some (nI (slwS S R p T (n - 1)), L') ∧ KD L L' := by
  have hn : n ≤ 8 := hW.1
  intro j
  induction j with
  | zero =>
    intro m f L hm hf hC
    obtain ⟨f', rfl⟩ : ∃ f', f = f' + 1 := ⟨f - 1, by omega⟩
    refine ⟨L, ?_, KD.rf⟩
    show f_X2_findSlowest_b8 _ L _ _ _ _ = _
    unfold f_X2_findSlowest_b8
    rw [lt_n, hC.1, if_pos (nI_le (by omega) (by omega)), show n - 1 = m by omega]
  | succ j ih =>
    intro m f L hm hf hC
    obtain ⟨f', rfl⟩ : ∃ f', f = f' + 1 := ⟨f - 1, by omega⟩
    obtain ⟨L1, e1, k1⟩ := c_mst hW (show m + 1 < n by omega) hT hC
    obtain ⟨L2, e2, k2⟩ := ih (m + 1) f' L1 (by omega) (by omega) (KD.cl hC k1 hn)
    refine ⟨L2, ?_, k1.tr k2⟩
    show f_X2_findSlowest_b8 _ L _ _ _ _ = _
    unfold f_X2_findSlowest_b8 f_X2_findSlowest_b38
    simp only [lt_n]
    rw [hC.1, if_neg (nI_ge (by omega) (by omega)), e1, bd2_n, nI_1, ← e2]
    by_cases g : mstS S R p T (slwS S R p T m) ≤ mstS S R p T (m + 1)
    · rw [if_pos g, show slwS S R p T (m + 1) = slwS S R p T m from if_pos g]
    · rw [if_neg g, show slwS S R p T (m + 1) = m + 1 from if_neg g]
theorem mst_lo {n t p T m : Nat} {R S : SL} (hW : WF ((n, t, p), R, S)) (hm : m < n) (hT : T ≤ 10000) : ¬ (1000000 : Int32) ≤ mstS S R p T m := fun z => by
  have hw : 1 ≤ (R m 1).toInt ∧ (R m 1).toInt ≤ (R m 0).toInt ∧ (R m 0).toInt ≤ 20 ∧ 0 ≤ (R m 4).toInt ∧ (R m 4).toInt ≤ 40 := hW.2.2.2.1 m hm
  have hup := upN_le S p m T
  have hw1 : 1 ≤ (R m 1).toInt := hw.1
  have hw2 : (R m 1).toInt ≤ 20 := by have := hw.2.1; have := hw.2.2.1; omega
  rw [Int32.le_iff_toInt_le] at z
  unfold mstS at z
  obtain ⟨w, hw3⟩ : ∃ w : Nat, R m 1 = nI w ∧ 1 ≤ w ∧ w ≤ 20 := by
    refine ⟨(R m 1).toInt.toNat, Int32.toInt_inj.mp ?_, by omega, by omega⟩
    rw [nI_toInt (by omega)]
    omega
  obtain ⟨e, w1, w2⟩ := hw3
  have hd : upN S p m T / w ≤ upN S p m T := Nat.div_le_self _ _
  rw [e, pk_div (by omega) (by omega) (by omega), nI_toInt (by omega), show (1000000 : Int32).toInt = 1000000 from rfl] at z
  omega
theorem c_slw0 {n t p T : Nat} {R S : SL} (hW : WF ((n, t, p), R, S)) (hn0 : 0 < n) (hT : T ≤ 10000) (f : Nat) (hf : n < f) (L : SL) (hC : CL n t p L R S) : ∃ L', f_X2_findSlowest_h8 f L (nI T) 0 1000000 (nI 0) = some (nI (slwS S R p T (n - 1)), L') ∧ KD L L' := by
  have hn : n ≤ 8 := hW.1
  obtain ⟨f', rfl⟩ : ∃ f', f = f' + 1 := ⟨f - 1, by omega⟩
  obtain ⟨L1, e1, k1⟩ := c_mst hW hn0 hT hC
  obtain ⟨L2, e2, k2⟩ := c_slwL hW hT (n - 1) 0 f' L1 (by omega) (by omega) (KD.cl hC k1 hn)
  refine ⟨L2, ?_, k1.tr k2⟩
  show f_X2_findSlowest_b8 _ L _ 0 1000000 (nI 0) = _
  unfold f_X2_findSlowest_b8 f_X2_findSlowest_b38
  simp only [lt_n]
  rw [hC.1, if_neg (nI_ge (by omega) (by omega)), e1, bd2_n, nI_1, ← e2, show slwS S R p T 0 = 0 from rfl]
  have hz : ¬ (1000000 : Int32) ≤ mstS S R p T 0 := mst_lo hW hn0 hT
  generalize mstS S R p T 0 = z at hz ⊢
  rw [if_neg hz]
theorem c_slw {n t p T : Nat} {L R S : SL} (hW : WF ((n, t, p), R, S)) (hn0 : 0 < n) (hT : T ≤ 10000) (hC : CL n t p L R S) : ∃ L', f_X2_findSlowest L (nI T) = some (nI (slwS S R p T (n - 1)), L') ∧ KD L L' := by
  have hn : n ≤ 8 := hW.1
  unfold f_X2_findSlowest
  exact c_slw0 hW hn0 hT fuel (by unfold fuel; omega) L hC
theorem m_mstL {n t p m T : Nat} {M R S : SL} (hW : WF ((n, t, p), R, S)) (hm : m < n) (hT : T ≤ 10000) (hM : ML n t p M R S) (hd : ∀ w, 1 ≤ w → w ≤ T → M 5 w = dbS S w p) : ∀ (d a f : Nat), a + d = T → d < f → f_X6_most_h5 f M (nI m) (nI T) (nI (upN S p m a)) (nI (a + 1)) = some (mstS S R p T m) := by
  have hn : n ≤ 8 := hW.1
  have hw := hW.2.2.2.1 m hm
  intro d
  induction d with
  | zero =>
    intro a f ha hf
    obtain ⟨f', rfl⟩ : ∃ f', f = f' + 1 := ⟨f - 1, by omega⟩
    have h1 : 1 ≤ R m 1 := by
      rw [Int32.le_iff_toInt_le, i_1]
      exact hw.1
    have hz : nz (R m 1) = true := decide_eq_true (fun z => by
      rw [z] at h1
      exact absurd h1 (by decide))
    show f_X6_most_b5 _ M _ _ _ _ = _
    unfold f_X6_most_b5
    simp only [lt_n]
    rw [if_pos (nI_lt (by omega) (by omega)), m_of, bd_n, show nI (3 + 16 * m) + 1 = nI (3 + 16 * m + 1) from nI_add _ 1, n_chk (by omega) (by omega), gd_n, nI_clamp (by omega), hM.2.2.2.1 m 1 hm (by omega), hz, gd_n, show a = T by omega]
    rfl
  | succ d ih =>
    intro a f ha hf
    obtain ⟨f', rfl⟩ : ∃ f', f = f' + 1 := ⟨f - 1, by omega⟩
    have ih' := ih (a + 1) f' (by omega) (by omega)
    show f_X6_most_b5 _ M _ _ _ _ = _
    unfold f_X6_most_b5 f_X6_most_b27
    simp only [lt_n]
    rw [if_neg (show ¬ nI T < nI (a + 1) from i_nlt (nI_le (by omega) (by omega))), m_isD M (by omega), bd_n, hd (a + 1) (by omega) (by omega), nI_1, ← ih']
    show _ = f_X6_most_h5 f' M (nI m) (nI T) (nI (upN S p m a + if isD (dbS S (a + 1) p) m then 0 else 1)) (nI (a + 1 + 1))
    by_cases g : isD (dbS S (a + 1) p) m
    · rw [if_pos g, if_pos g, if_neg (show ¬ (1 : Int32) = 0 by decide), Int32.add_zero, nI_1, show upN S p m a + 0 = upN S p m a from rfl]
    · rw [if_neg g, if_neg g, if_pos (show (0 : Int32) = 0 from rfl), nI_1]
theorem m_mst {n t p m T : Nat} {M R S : SL} (hW : WF ((n, t, p), R, S)) (hm : m < n) (hT : T ≤ 10000) (hM : ML n t p M R S) (hd : ∀ w, 1 ≤ w → w ≤ T → M 5 w = dbS S w p) : f_X6_most M (nI m) (nI T) = some (mstS S R p T m) := by
  unfold f_X6_most
  exact m_mstL hW hm hT hM hd T 0 fuel (by omega) (by unfold fuel; omega)
theorem m_slwL {n t p T : Nat} {M R S : SL} (hW : WF ((n, t, p), R, S)) (hT : T ≤ 10000) (hM : ML n t p M R S) (hd : ∀ w, 1 ≤ w → w ≤ T → M 5 w = dbS S w p) : ∀ (j m f : Nat), m + 1 + j = n → j < f → f_X6_slowestOf_h10 f M (nI T) (nI (slwS S R p T m)) (nI (m + 1)) = some (nI (slwS S R p T (n - 1)), M) := by
  have hn : n ≤ 8 := hW.1
  intro j
  induction j with
  | zero =>
    intro m f hm hf
    obtain ⟨f', rfl⟩ : ∃ f', f = f' + 1 := ⟨f - 1, by omega⟩
    show f_X6_slowestOf_b10 _ M _ _ _ = _
    unfold f_X6_slowestOf_b10
    rw [lt_n, hM.1, if_pos (nI_le (by omega) (by omega)), show n - 1 = m by omega]
  | succ j ih =>
    intro m f hm hf
    obtain ⟨f', rfl⟩ : ∃ f', f = f' + 1 := ⟨f - 1, by omega⟩
    have ih' := ih (m + 1) f' (by omega) (by omega)
    have hl := slw_le S R p T m
    show f_X6_slowestOf_b10 _ M _ _ _ = _
    unfold f_X6_slowestOf_b10 f_X6_slowestOf_b40
    simp only [lt_n]
    rw [hM.1, if_neg (nI_ge (by omega) (by omega)), m_mst hW (show m + 1 < n by omega) hT hM hd, bd_n, m_mst hW (show slwS S R p T m < n by omega) hT hM hd, bd_n, nI_1, ← ih']
    by_cases g : mstS S R p T (slwS S R p T m) ≤ mstS S R p T (m + 1)
    · rw [if_pos g, show slwS S R p T (m + 1) = slwS S R p T m from if_pos g]
    · rw [if_neg g, show slwS S R p T (m + 1) = m + 1 from if_neg g]
theorem m_slw {n t p T : Nat} {M R S : SL} (hW : WF ((n, t, p), R, S)) (hn0 : 0 < n) (hT : T ≤ 10000) (hM : ML n t p M R S) : ∃ M', f_X6_slowestOf M (nI T) = some (nI (slwS S R p T (n - 1)), M') ∧ K5 M M' ∧ (∀ w, 1 ≤ w → w ≤ T → M' 5 w = dbS S w p) ∧ ML n t p M' R S := by
  have hn : n ≤ 8 := hW.1
  obtain ⟨M1, e1, k1, d1⟩ := m_lay (M := M) (S := S) (p := p) (a := 1) (b := T) (by omega) hT hW.2.2.1 hM.2.2.1 hM.2.2.2.2
  have h1 : ML n t p M1 R S := by
    have z : M1 1 = M 1 := k1 1 (by omega)
    refine ⟨by rw [z]; exact hM.1, by rw [z]; exact hM.2.1, by rw [z]; exact hM.2.2.1, fun m c hm hc => by rw [z]; exact hM.2.2.2.1 m c hm hc, fun k w hk hw => by rw [z]; exact hM.2.2.2.2 k w hk hw⟩
  refine ⟨M1, ?_, k1, d1, h1⟩
  unfold f_X6_slowestOf
  have e1' : f_X6_laysDown M 1 (nI T) = some M1 := e1
  rw [e1', bd_n]
  exact m_slwL hW hT h1 d1 (n - 1) 0 fuel (by omega) (by unfold fuel; omega)
theorem m_lim1 {M : SL} {n : Nat} (hn : n ≤ 8) (h0 : M 1 0 = nI n) (x : Int32) : f_X6_refusedLimit M x = some (if ¬ (1 ≤ x ∧ x ≤ 10000) then (1, up2 M 0 4 1) else if n = 0 then (1, up2 M 0 4 2) else (0, up2 M 0 4 0)) := by
  unfold f_X6_refusedLimit f_X6_refusedLimit_b30
  rw [m_in, bd_n, m_ref0, m_ref1, m_ref2, bd2_n, bd2_n, bd2_n, lt_n, h0]
  have b0 : isB 0 = true := rfl
  have b1 : isB 1 = true := rfl
  rw [b0, b1, gd_n, gd_n, gd_n]
  by_cases g : 1 ≤ x ∧ x ≤ 10000
  · simp only [bI0t g, not_false_eq_true, if_true]
    rw [if_neg (show ¬ ¬ (1 ≤ x ∧ x ≤ 10000) from fun z => z g)]
    by_cases g2 : n = 0
    · rw [if_neg (show ¬ ¬ nI n = 0 from fun z => z (by rw [g2]; rfl)), if_pos g2]
    · rw [if_pos (show ¬ nI n = 0 from fun z => g2 ((nI_eq (a := n) (b := 0) (by omega) (by omega)).mp z)), if_neg g2]
  · simp only [bI0f g, not_true_eq_false, if_false]
    rw [if_pos g]
theorem SS.kd {Ls : Nat → SL} {L' Hs T M M' : SL} {A : LN} (hA : WF A) (cA : CA L' A) (mA : MA (M' 1) A) (hF : AF Ls Hs T M) (k : K5 (up2 M 0 4 0) M') : SS (va_up Ls 0 L') Hs T M' :=
  ⟨A, hA, by rw [va_0]; exact cA, mA, ((hF.cls (fun q hq => va_up_ne _ _ (by omega))).ref 0).mod (k 2 (by omega)) (k 4 (by omega)) (by rw [k 0 (by omega)]) (by rw [k 0 (by omega)])⟩
theorem s_slowest {Ls : Nat → SL} {Hs T M : SL} (h : SS Ls Hs T M) (x1 : Int32) : RQ (fun k => k) Ls Hs T (f_X5_slowest Ls x1) (f_X6_slowest M x1) := by
  have h' := h
  obtain ⟨⟨⟨n, t, p⟩, R, S⟩, hA, cA, mA, hF⟩ := h
  have hn : n ≤ 8 := hA.1
  have c0 : CL n t p (Ls 0) R S := cA
  have m0 : ML n t p M R S := mA
  unfold f_X5_slowest f_X6_slowest f_X5_needMachines
  rw [m_lim1 hn m0.1, lt_n, c0.1]
  by_cases g1 : 1 ≤ x1 ∧ x1 ≤ 10000
  · rw [c_horT g1, bd_n, sx_i, if_neg (show ¬ ¬ (1 ≤ x1 ∧ x1 ≤ 10000) from fun z => z g1)]
    obtain ⟨T1, rfl, ht1, ht2⟩ := i_rngA (A := 1) (K := 10000) (by omega) (by omega) g1
    by_cases g2 : n = 0
    · rw [if_neg (show ¬ (1 : Int32) ≤ nI n by rw [g2]; decide), if_pos g2, bd2_n, bd_n, sx_r, if_neg (show ¬ (1 : Int32) = 0 by decide)]
      exact ⟨_, _, rfl, Or.inr ⟨2, Or.inr (Or.inl ⟨rfl, by decide⟩), rfl, up2_s _ _ _ _, h'.ref _⟩⟩
    · rw [if_pos (show (1 : Int32) ≤ nI n from nI_le (a := 1) (b := n) (by omega) (by omega)), if_neg g2, bd2_n, bd_n, sx_i, if_pos (show (0 : Int32) = 0 from rfl)]
      obtain ⟨L2, e1, k1⟩ := c_slw hA (by omega) ht2 c0
      obtain ⟨M2, e2, k2, k3, k4⟩ := m_slw hA (by omega) ht2 (m0.ref 0)
      rw [e1, e2, bd2_n, bd2_n, lt_n]
      exact ⟨_, M2, rfl, Or.inl ⟨by rw [k2 0 (by omega), up2_s], _, rfl, SS.kd hA (KD.cl c0 k1 hn) k4 hF k2⟩⟩
  · rw [c_horF g1, bd_n, sx_r, if_pos g1, bd2_n, if_neg (show ¬ (1 : Int32) = 0 by decide)]
    exact ⟨_, _, rfl, Or.inr ⟨1, Or.inl rfl, rfl, up2_s _ _ _ _, h'.ref _⟩⟩
theorem s_bound {Ls : Nat → SL} {Hs T M : SL} (h : SS Ls Hs T M) (x1 : Int32) : RQ (fun k => k) Ls Hs T (f_X5_bound Ls x1) (f_X6_bound M x1) := by
  have h' := h
  obtain ⟨⟨⟨n, t, p⟩, R, S⟩, hA, cA, mA, hF⟩ := h
  have hn : n ≤ 8 := hA.1
  have c0 : CL n t p (Ls 0) R S := cA
  have m0 : ML n t p M R S := mA
  unfold f_X5_bound f_X6_bound f_X5_needMachines
  rw [m_lim1 hn m0.1, lt_n, c0.1]
  by_cases g1 : 1 ≤ x1 ∧ x1 ≤ 10000
  · rw [c_horT g1, bd_n, sx_i, if_neg (show ¬ ¬ (1 ≤ x1 ∧ x1 ≤ 10000) from fun z => z g1)]
    obtain ⟨T1, rfl, ht1, ht2⟩ := i_rngA (A := 1) (K := 10000) (by omega) (by omega) g1
    by_cases g2 : n = 0
    · rw [if_neg (show ¬ (1 : Int32) ≤ nI n by rw [g2]; decide), if_pos g2, bd2_n, bd_n, sx_r, if_neg (show ¬ (1 : Int32) = 0 by decide)]
      exact ⟨_, _, rfl, Or.inr ⟨2, Or.inr (Or.inl ⟨rfl, by decide⟩), rfl, up2_s _ _ _ _, h'.ref _⟩⟩
    · rw [if_pos (show (1 : Int32) ≤ nI n from nI_le (a := 1) (b := n) (by omega) (by omega)), if_neg g2, bd2_n, bd_n, sx_i, if_pos (show (0 : Int32) = 0 from rfl)]
      have hl := slw_le S R p T1 (n - 1)
      obtain ⟨L2, e1, k1⟩ := c_slw hA (by omega) ht2 c0
      obtain ⟨M2, e2, k2, k3, k4⟩ := m_slw hA (by omega) ht2 (m0.ref 0)
      have c2 := KD.cl c0 k1 hn
      obtain ⟨L3, e3, k5⟩ := c_mst hA (show slwS S R p T1 (n - 1) < n by omega) ht2 c2
      have e4 := m_mst hA (show slwS S R p T1 (n - 1) < n by omega) ht2 k4 k3
      rw [e1, e2, bd2_n, bd2_n, lt_n, va_0, e3, bd2_n, lt_n, e4, bd_n]
      have hv : va_up (va_up Ls 0 L2) 0 L3 = va_up Ls 0 L3 := by
        funext q
        by_cases z : q = 0
        · rw [z, va_0, va_0]
        · rw [va_up_ne _ _ z, va_up_ne _ _ z, va_up_ne _ _ z]
      rw [hv]
      exact ⟨_, M2, rfl, Or.inl ⟨by rw [k2 0 (by omega), up2_s], _, rfl, SS.kd hA (KD.cl c2 k5 hn) k4 hF k2⟩⟩
  · rw [c_horF g1, bd_n, sx_r, if_pos g1, bd2_n, if_neg (show ¬ (1 : Int32) = 0 by decide)]
    exact ⟨_, _, rfl, Or.inr ⟨1, Or.inl rfl, rfl, up2_s _ _ _ _, h'.ref _⟩⟩
