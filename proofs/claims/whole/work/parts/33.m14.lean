/-! THE MEANING, 14: random stops -/
theorem l_sub {a b : Nat} (h : b ≤ a) : lN a - lN b = lN (a - b) := by
  obtain ⟨c, rfl⟩ : ∃ c, a = c + b := ⟨a - b, by omega⟩
  rw [← lN_add, Int64.add_sub_cancel, Nat.add_sub_cancel]
theorem l_toInt {n : Nat} (h : n < 2 ^ 63) : (lN n).toInt = (n : Int) := by
  exact lg_ofNat_toInt (by omega)
theorem l_div {a d : Nat} (ha : a < 2 ^ 63) (hd : d < 2 ^ 63) : lN a / lN d = lN (a / d) := by
  apply Int64.toInt_inj.mp
  have h1 := Nat.div_le_self a d
  rw [Int64.toInt_div, l_toInt ha, l_toInt hd, l_toInt (by omega)]
  rw [show ((a : Int).tdiv (d : Int)) = ((a / d : Nat) : Int) from (Int.ofNat_tdiv a d).symm]
  generalize a / d = q at h1 ⊢
  exact Int.bmod_eq_of_le (by omega) (by omega)
theorem l_mod {a d : Nat} (ha : a < 2 ^ 63) (hd : d < 2 ^ 63) : lN a - lN a / lN d * lN d = lN (a % d) := by
  have h := Nat.div_mul_le_self a d
  rw [l_div ha hd, lN_mul, l_sub h, show a - a / d * d = a % d from by rw [Nat.mod_def, Nat.mul_comm]]
theorem l_i {a : Nat} (ha : a < 2 ^ 31) : (lN a).toInt32 = nI a := by
  apply Int32.toInt_inj.mp
  rw [Int64.toInt_toInt32, l_toInt (by omega), nI_toInt ha]
  exact Int.bmod_eq_of_le (by omega) (by omega)
theorem n_mod {a d : Nat} (ha : a < 2 ^ 31) (h0 : 0 < d) (hd : d < 2 ^ 31) : nI a - nI a / nI d * nI d = nI (a % d) := by
  have h := Nat.div_mul_le_self a d
  rw [pk_div ha h0 hd, pk_mul, pk_sub h, show a - a / d * d = a % d from by rw [Nat.mod_def, Nat.mul_comm]]
def drA (a : Nat) : Nat := (1103515245 * a + 12345) % 2147483648
theorem drA_b (a : Nat) : drA a < 2147483648 := Nat.mod_lt _ (by omega)
theorem dr_one {a : Nat} (ha : a < 2147483648) : (1103515245 * lN a + 12345 : Int64) - (1103515245 * lN a + 12345) / 2147483648 * 2147483648 = lN (drA a) := by
  have e1 : (1103515245 : Int64) * lN a = lN (1103515245 * a) := lN_mul 1103515245 a
  have e2 : lN (1103515245 * a) + 12345 = lN (1103515245 * a + 12345) := lN_add _ 12345
  rw [e1, e2]
  exact l_mod (d := 2147483648) (by omega) (by omega)
theorem dr_two {a : Nat} (ha : a < 2147483648) : lN a / 65536 = lN (a / 65536) := l_div (d := 65536) (by omega) (by omega)
theorem c_draw {a L : Nat} (ha : a < 2147483648) (hL : 1 ≤ L ∧ L < 2147483648) : f_X0_drawBelow (lN a) (nI L) = some (nI (drA a / 65536 % L), lN (drA a)) := by
  have hb := drA_b a
  have hm : drA a / 65536 % L < 2 ^ 31 := Nat.lt_of_le_of_lt (Nat.mod_le _ _) (by omega)
  have hz : nzl (lN L) = true := decide_eq_true (fun z => by
    have := congrArg Int64.toInt z
    rw [l_toInt (by omega)] at this
    have z0 : (0 : Int64).toInt = 0 := rfl
    omega)
  unfold f_X0_drawBelow
  simp only [lt_n]
  rw [dr_one ha, if_pos (show (1 : Int32) ≤ nI L from nI_le (a := 1) (b := L) hL.1 (by omega)), dr_two hb, nI_l (by omega), hz, gd_n, l_mod (by omega) (by omega), l_i hm]
theorem m_draw {a : Nat} (ha : a < 2147483648) : f_X6_draws (lN a) = some (nI (drA a / 65536), lN (drA a)) := by
  have hb := drA_b a
  unfold f_X6_draws
  simp only [lt_n]
  rw [dr_one ha, dr_two hb, l_i (by omega)]
theorem nz_p {L : Nat} (h : 1 ≤ L ∧ L < 2147483648) : nz (nI L) = true := decide_eq_true (fun z => absurd ((nI_eq (a := L) (b := 0) (by omega) (by omega)).mp z) (by omega))
theorem rnd_L {n t up dn num m : Nat} {R Hs T : SL} (hu : 1 ≤ up ∧ up ≤ 500) (hd : 1 ≤ dn ∧ dn ≤ 100) (hnum : num ≤ 40) : ∀ (j k f g : Nat) (Ls : Nat → SL) (M S : SL) (p e a : Nat), k + j = num → j < f → j + 1 < g → a < 2147483648 → e ≤ 10200 → p + j ≤ 40 → WF ((n, t, p), R, S) → CA (Ls 0) ((n, t, p), R, S) → MA (M 1) ((n, t, p), R, S) → AF Ls Hs T M → M 0 4 = 0 →
    ∃ (b : Int32) (Ls' : Nat → SL) (M' : SL) (dr' : Int64), f_X5_addRandomStops_h119 f Ls Hs (nI m) (nI up) (nI dn) (nI num) (nI e) (nI k) (lN a) = some (Sum.inl (b, Ls', Hs)) ∧ f_X6_addRandomStops_h123 g M (lN a) (nI m) (nI up) (nI dn) (nI num) (nI e) 1 (nI k) = some (b, M', dr') ∧ SS Ls' Hs T M' ∧ M' 0 4 = 0 := by
  intro j
  induction j with
  | zero =>
    intro k f g Ls M S p e a hk hf hg ha he hp hW cA mA hF h04
    obtain ⟨f', rfl⟩ : ∃ f', f = f' + 1 := ⟨f - 1, by omega⟩
    obtain ⟨g', rfl⟩ : ∃ g', g = g' + 1 := ⟨g - 1, by omega⟩
    have c0 : CL n t p (Ls 0) R S := cA
    have m0 : ML n t p M R S := mA
    refine ⟨nI p, Ls, M, lN a, ?_, ?_, ⟨_, hW, cA, mA, hF⟩, h04⟩
    · show f_X5_addRandomStops_b119 _ Ls Hs _ _ _ _ _ _ _ = _
      unfold f_X5_addRandomStops_b119 f_X5_addRandomStops_b195
      rw [if_pos (nI_le (by omega) (by omega)), lt_n, c0.2.2.1]
    · show f_X6_addRandomStops_b123 _ M _ _ _ _ _ _ _ _ = _
      unfold f_X6_addRandomStops_b123 f_X6_addRandomStops_b207
      rw [if_pos (nI_le (by omega) (by omega)), lt_n, m0.2.2.1]
  | succ j ih =>
    intro k f g Ls M S p e a hk hf hg ha he hp hW cA mA hF h04
    obtain ⟨f', rfl⟩ : ∃ f', f = f' + 1 := ⟨f - 1, by omega⟩
    obtain ⟨g', rfl⟩ : ∃ g', g = g' + 1 := ⟨g - 1, by omega⟩
    have hn : n ≤ 8 := hW.1
    have c0 : CL n t p (Ls 0) R S := cA
    have m0 : ML n t p M R S := mA
    have hb := drA_b a
    have hb2 := drA_b (drA a)
    have r1 : drA a / 65536 % (2 * up) < 2 * up := Nat.mod_lt _ (by omega)
    have r2 : drA (drA a) / 65536 % (2 * dn) < 2 * dn := Nat.mod_lt _ (by omega)
    have eC : f_X5_addRandomStops_h119 (f' + 1) Ls Hs (nI m) (nI up) (nI dn) (nI num) (nI e) (nI k) (lN a) = if nI (e + 1 + drA a / 65536 % (2 * up)) ≤ 10000 then bd (f_X4_plan (Ls 0) (nI m) (nI (e + 1 + drA a / 65536 % (2 * up))) (nI (1 + drA (drA a) / 65536 % (2 * dn)))) (fun L14 => f_X5_addRandomStops_h119 f' (va_up Ls 0 L14) Hs (nI m) (nI up) (nI dn) (nI num) (nI (e + 1 + drA a / 65536 % (2 * up) + (1 + drA (drA a) / 65536 % (2 * dn)) - 1)) (nI (k + 1)) (lN (drA (drA a)))) else some (Sum.inl (nI p, Ls, Hs)) := by
      show f_X5_addRandomStops_b119 _ Ls Hs _ _ _ _ _ _ _ = _
      unfold f_X5_addRandomStops_b119 f_X5_addRandomStops_b195
      simp only [lt_n]
      rw [if_neg (nI_ge (by omega) (by omega)), nI_1, show 2 * nI up = nI (2 * up) from pk_mul 2 up, show 2 * nI dn = nI (2 * dn) from pk_mul 2 dn, c_draw ha (by omega), bd2_s, nI_add, c_draw hb (by omega), bd2_s, show 1 + nI (drA (drA a) / 65536 % (2 * dn)) = nI (1 + drA (drA a) / 65536 % (2 * dn)) from nI_add 1 _, nI_add, nI_1, c0.2.2.1, show nI (e + 1 + drA a / 65536 % (2 * up) + (1 + drA (drA a) / 65536 % (2 * dn))) - 1 = nI (e + 1 + drA a / 65536 % (2 * up) + (1 + drA (drA a) / 65536 % (2 * dn)) - 1) from pk_sub (b := 1) (by omega)]
    have eM : f_X6_addRandomStops_h123 (g' + 1) M (lN a) (nI m) (nI up) (nI dn) (nI num) (nI e) 1 (nI k) = if 10000 < nI (e + 1 + drA a / 65536 % (2 * up)) then f_X6_addRandomStops_h123 g' M (lN (drA a)) (nI m) (nI up) (nI dn) (nI num) (nI e) 0 (nI (k + 1)) else bd (f_X6_plans M (nI m) (nI (e + 1 + drA a / 65536 % (2 * up))) (nI (1 + drA (drA a) / 65536 % (2 * dn)))) (fun M9 => f_X6_addRandomStops_h123 g' M9 (lN (drA (drA a))) (nI m) (nI up) (nI dn) (nI num) (nI (e + 1 + drA a / 65536 % (2 * up) + (1 + drA (drA a) / 65536 % (2 * dn)) - 1)) 1 (nI (k + 1))) := by
      show f_X6_addRandomStops_b123 _ M _ _ _ _ _ _ _ _ = _
      unfold f_X6_addRandomStops_b123 f_X6_addRandomStops_b163 f_X6_addRandomStops_b201
      simp only [lt_n, i00, i10, if_true, if_false]
      rw [if_neg (nI_ge (by omega) (by omega)), nI_1, show 2 * nI up = nI (2 * up) from pk_mul 2 up, show 2 * nI dn = nI (2 * dn) from pk_mul 2 dn, m_draw ha, bd2_s, nz_p (by omega), gd_n, n_mod (by omega) (by omega) (by omega), nI_add, m_draw hb, bd2_s, nz_p (by omega), gd_n, n_mod (by omega) (by omega) (by omega), show 1 + nI (drA (drA a) / 65536 % (2 * dn)) = nI (1 + drA (drA a) / 65536 % (2 * dn)) from nI_add 1 _, nI_add, nI_1, show nI (e + 1 + drA a / 65536 % (2 * up) + (1 + drA (drA a) / 65536 % (2 * dn))) - 1 = nI (e + 1 + drA a / 65536 % (2 * up) + (1 + drA (drA a) / 65536 % (2 * dn)) - 1) from pk_sub (b := 1) (by omega)]
    by_cases z : e + 1 + drA a / 65536 % (2 * up) ≤ 10000
    · rw [eC, eM, if_pos (show nI (e + 1 + drA a / 65536 % (2 * up)) ≤ 10000 from nI_le (b := 10000) z (by omega)), if_neg (show ¬ (10000 : Int32) < nI (e + 1 + drA a / 65536 % (2 * up)) from i_nlt (show nI (e + 1 + drA a / 65536 % (2 * up)) ≤ 10000 from nI_le (b := 10000) z (by omega)))]
      obtain ⟨L2, e3, j1⟩ := c_plan (L := Ls 0) hn (show p < 40 by omega) c0 (nI m) (nI (e + 1 + drA a / 65536 % (2 * up))) (nI (1 + drA (drA a) / 65536 % (2 * dn)))
      obtain ⟨M2, e4, j2, j3⟩ := m_plans (M := M) hn (show p < 40 by omega) m0 (nI m) (nI (e + 1 + drA a / 65536 % (2 * up))) (nI (1 + drA (drA a) / 65536 % (2 * dn)))
      rw [e3, e4, bd_s, bd_s]
      exact ih (k + 1) f' g' (va_up Ls 0 L2) M2 (plaS S p (nI m) (nI (e + 1 + drA a / 65536 % (2 * up))) (nI (1 + drA (drA a) / 65536 % (2 * dn)))) (p + 1) _ _ (by omega) (by omega) (by omega) hb2 (by omega) (by omega) (WF_pla hW (by omega) (by rw [nI_toInt (by omega)]; omega) (by rw [nI_toInt (by omega)]; omega)) (by rw [va_0]; exact j1) j2 ((hF.cls (fun q hq => va_up_ne _ _ (by omega))).k1 j3) (by rw [j3 0 (by omega)]; exact h04)
    · rw [eC, eM, if_neg (show ¬ nI (e + 1 + drA a / 65536 % (2 * up)) ≤ 10000 from nI_ge (a := 10000) (by omega) (by omega)), if_pos (show (10000 : Int32) < nI (e + 1 + drA a / 65536 % (2 * up)) from nI_lt (a := 10000) (by omega) (by omega))]
      obtain ⟨g2, rfl⟩ : ∃ g2, g' = g2 + 1 := ⟨g' - 1, by omega⟩
      refine ⟨nI p, Ls, M, lN (drA a), rfl, ?_, ⟨_, hW, cA, mA, hF⟩, h04⟩
      show f_X6_addRandomStops_b123 _ M _ _ _ _ _ _ _ _ = _
      unfold f_X6_addRandomStops_b123 f_X6_addRandomStops_b207
      simp only [lt_n, i00, if_true, ite_self]
      rw [m0.2.2.1]
theorem i_rngA {x : Int32} {A K : Nat} (hK : K < 2147483648) (hA : A ≤ K) (h : nI A ≤ x ∧ x ≤ nI K) : ∃ T, x = nI T ∧ A ≤ T ∧ T ≤ K := by
  have h0 : 0 ≤ nI A := nI_le (a := 0) (by omega) (by omega)
  obtain ⟨T, e, hT⟩ := i_rng hK ⟨i_lele h0 h.1, h.2⟩
  have h1 := h.1
  rw [e] at h1
  exact ⟨T, e, (nI_leI (by omega) (by omega)).mp h1, hT⟩
/-- what a call with draws answers on both sides -/
def RD (Ls : Nat → SL) (Hs T : SL) (fC : Option (Sum (Int32 × (Nat → SL) × SL) Nat)) (fM : Option (Int32 × SL × Int64)) : Prop :=
  ∃ (b : Int32) (M' : SL) (dr' : Int64), fM = some (b, M', dr') ∧ ((M' 0 4 = 0 ∧ ∃ (Ls' : Nat → SL) (Hs' : SL), fC = some (Sum.inl (b, Ls', Hs')) ∧ SS Ls' Hs' T M') ∨ ∃ k : Nat, (k = 1 ∨ k = 2 ∧ ¬ codC 2 = codC 1 ∨ k = 3 ∧ codC 3 = 2 ∧ codC 1 = 3) ∧ fC = some (Sum.inr (codC k)) ∧ M' 0 4 = nI k ∧ SS Ls Hs T M')
theorem s_addRandomStops {Ls : Nat → SL} {Hs T M : SL} (h : SS Ls Hs T M) (dr : Int64) (x1 x2 x3 x4 x5 : Int32) : RD Ls Hs T (f_X5_addRandomStops Ls Hs x1 x2 x3 x4 x5) (f_X6_addRandomStops M dr x1 x2 x3 x4 x5) := by
  have h' := h
  obtain ⟨⟨⟨n, t, p⟩, R, S⟩, hA, cA, mA, hF⟩ := h
  have hn : n ≤ 8 := hA.1
  have ht : t ≤ 10000 := hA.2.1
  have hp : p ≤ 40 := hA.2.2.1
  have c0 : CL n t p (Ls 0) R S := cA
  have m0 : ML n t p M R S := mA
  have hF2 : 100 < fuel := by unfold fuel; omega
  unfold f_X5_addRandomStops f_X6_addRandomStops f_X6_addRandomStops_b47 f_X6_addRandomStops_b48 f_X6_addRandomStops_b91 f_X5_addRandomStops_b48
  generalize fuel = F at hF2 ⊢
  rw [m_need hn m0.1]
  simp only [lt_n, bd_s, m_ref0, m_ref1, m_ref2, m_ref3, bd2_s, is_in, m_in, i00, i10, if_true, if_false]
  rw [m0.2.2.1]
  rcases c_need hn c0.1 x1 with ⟨m, rfl, hm, e⟩ | ⟨hno, e⟩
  · rw [e, bd_s]
    simp only [sx, bI0t ((m_isM hn (nI m)).mpr ⟨m, rfl, hm⟩), not_false_eq_true, not_true_eq_false, if_true, if_false]
    have bad : ∀ fC, fC = some (Sum.inr 1) → RD Ls Hs T fC (some (0, up2 M 0 4 2, dr)) := fun fC hf => ⟨0, _, dr, rfl, Or.inr ⟨2, Or.inr (Or.inl ⟨rfl, by decide⟩), hf, up2_s _ _ _ _, h'.ref _⟩⟩
    by_cases g1 : 0 ≤ x2 ∧ x2 ≤ 999999
    · by_cases g2 : 1 ≤ x3 ∧ x3 ≤ 500
      · by_cases g3 : 1 ≤ x4 ∧ x4 ≤ 100
        · by_cases g4 : 1 ≤ x5 ∧ x5 ≤ 40
          · simp only [bI0t g1, bI0t g2, bI0t g3, bI0t g4, not_false_eq_true, if_true, if_false]
            rw [c0.2.2.1]
            obtain ⟨s0, rfl, hs0⟩ := i_rng (K := 999999) (by omega) g1
            obtain ⟨up, rfl, hu1, hu2⟩ := i_rngA (A := 1) (K := 500) (by omega) (by omega) g2
            obtain ⟨dn, rfl, hd1, hd2⟩ := i_rngA (A := 1) (K := 100) (by omega) (by omega) g3
            obtain ⟨num, rfl, hm1, hm2⟩ := i_rngA (A := 1) (K := 40) (by omega) (by omega) g4
            rw [nI_add]
            by_cases g5 : p + num ≤ 40
            · simp only [show (nI (p + num) ≤ 40) = True from eq_true (nI_le (b := 40) g5 (by omega)), if_true]
              obtain ⟨Ls', Hs', M', e1, e2, d1, d2, d3, d4, d5, d6⟩ := kept hA cA mA hF 0
              have d1' : CL n t p (Ls' 0) R S := d1
              have d2' : ML n t p M' R S := d2
              rw [e1, e2, bd2_s, bd_s, nI_l (by omega), d1'.2.1, d2'.2.1]
              obtain ⟨b, L2, M2, dr2, a1, a2, a3, a4⟩ := rnd_L (R := R) (Hs := Hs') (T := T) (n := n) (t := t) (m := m) (up := up) (dn := dn) (num := num) ⟨hu1, hu2⟩ ⟨hd1, hd2⟩ hm2 num 0 F F Ls' M' S p t s0 (by omega) (by omega) (by omega) (by omega) (by omega) (by omega) hA d1 d2 d4 d3
              exact ⟨b, M2, dr2, a2, Or.inl ⟨a4, L2, Hs', a1, a3⟩⟩
            · simp only [show (nI (p + num) ≤ 40) = False from eq_false (nI_ge (a := 40) (by omega) (by omega)), if_false]
              exact ⟨0, _, dr, rfl, Or.inr ⟨3, Or.inr (Or.inr ⟨rfl, rfl, rfl⟩), rfl, up2_s _ _ _ _, h'.ref _⟩⟩
          · simp only [bI0t g1, bI0t g2, bI0t g3, bI0f g4, not_true_eq_false, if_true, if_false]
            exact bad _ rfl
        · simp only [bI0t g1, bI0t g2, bI0f g3, if_true, if_false]
          exact bad _ rfl
      · simp only [bI0t g1, bI0f g2, if_true, if_false]
        exact bad _ rfl
    · simp only [bI0f g1, if_true]
      exact bad _ rfl
  · rw [e, bd_s]
    simp only [sx, bI0f (fun z => hno ((m_isM hn x1).mp z)), not_true_eq_false, if_false, ite_self]
    exact ⟨0, _, dr, rfl, Or.inr ⟨1, Or.inl rfl, rfl, up2_s _ _ _ _, h'.ref _⟩⟩
