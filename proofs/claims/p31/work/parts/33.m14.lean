/-! THE MEANING, 14: random stops -/
theorem l_sub {a b : Nat} (h : b ≤ a) : lN a - lN b = lN (a - b) := by
  obtain ⟨c, rfl⟩ : ∃ c, a = c + b := ⟨a - b, by omega⟩
  rw [← lN_add, Int64.add_sub_cancel, Nat.add_sub_cancel]
theorem l_toInt {n : Nat} (h : n < 2 ^ 63) : (lN n).toInt = (n : Int) := by
  exact lg_ofNat_toInt (by omega)
theorem l_div {a d : Nat} (ha : a < 2 ^ 63) (hd : d < 2 ^ 63) : lN a / lN d = lN (a / d) := by
  apply Int64.toInt_inj.mp
  have h1 := Nat.div_le_self a d
  rw [Int64.toInt_div, l_toInt ha, l_toInt hd, l_toInt (by omega)]
  rw [show ((a : Int).tdiv (d : Int)) = ((a / d : Nat) : Int) from (Int.ofNat_tdiv a d).symm]
  generalize a / d = q at h1 ⊢
  exact Int.bmod_eq_of_le (by omega) (by omega)
theorem l_mod {a d : Nat} (ha : a < 2 ^ 63) (hd : d < 2 ^ 63) : lN a - lN a / lN d * lN d = lN (a % d) := by
  have h := Nat.div_mul_le_self a d
  rw [l_div ha hd, lN_mul, l_sub h, show a - a / d * d = a % d from by rw [Nat.mod_def, Nat.mul_comm]]
theorem l_i {a : Nat} (ha : a < 2 ^ 31) : (lN a).toInt32 = nI a := by
  apply Int32.toInt_inj.mp
  rw [Int64.toInt_toInt32, l_toInt (by omega), nI_toInt ha]
  exact Int.bmod_eq_of_le (by omega) (by omega)
theorem n_mod {a d : Nat} (ha : a < 2 ^ 31) (h0 : 0 < d) (hd : d < 2 ^ 31) : nI a - nI a / nI d * nI d = nI (a % d) := by
  have h := Nat.div_mul_le_self a d
  rw [pk_div ha h0 hd, pk_mul, pk_sub h, show a - a / d * d = a % d from by rw [Nat.mod_def, Nat.mul_comm]]
def drA (a : Nat) : Nat := (1103515245 * a + 12345) % 2147483648
theorem drA_b (a : Nat) : drA a < 2147483648 := Nat.mod_lt _ (by omega)
theorem dr_one {a : Nat} (ha : a < 2147483648) : (1103515245 * lN a + 12345 : Int64) - (1103515245 * lN a + 12345) / 2147483648 * 2147483648 = lN (drA a) := by
  have e1 : (1103515245 : Int64) * lN a = lN (1103515245 * a) := lN_mul 1103515245 a
  have e2 : lN (1103515245 * a) + 12345 = lN (1103515245 * a + 12345) := lN_add _ 12345
  rw [e1, e2]
  exact l_mod (d := 2147483648) (by omega) (by omega)
theorem dr_two {a : Nat} (ha : a < 2147483648) : lN a / 65536 = lN (a / 65536) := l_div (d := 65536) (by omega) (by omega)
theorem c_draw {a L : Nat} (ha : a < 2147483648) (hL : 1 ≤ L ∧ L < 2147483648) : f_X0_drawBelow (lN a) (nI L) = some (nI (drA a / 65536 % L), lN (drA a)) := by
  have hb := drA_b a
  have hm : drA a / 65536 % L < 2 ^ 31 := Nat.lt_of_le_of_lt (Nat.mod_le _ _) (by omega)
  have hz : nzl (lN L) = true := decide_eq_true (fun z => by
    have := congrArg Int64.toInt z
    rw [l_toInt (by omega)] at this
    have z0 : (0 : Int64).toInt = 0 := rfl
    omega)
  unfold f_X0_drawBelow
  simp only [lt_n]
  rw [dr_one ha, if_pos (show (1 : Int32) ≤ nI L from nI_le (a := 1) (b := L) hL.1 (by omega)), dr_two hb, nI_l (by omega), hz, gd_n, l_mod (by omega) (by omega), l_i hm]
theorem nz_p {L : Nat} (h : 1 ≤ L ∧ L < 2147483648) : nz (nI L) = true := decide_eq_true (fun z => absurd ((nI_eq (a := L) (b := 0) (by omega) (by omega)).mp z) (by omega))
theorem i_rngA {x : Int32} {A K : Nat} (hK : K < 2147483648) (hA : A ≤ K) (h : nI A ≤ x ∧ x ≤ nI K) : ∃ T, x = nI T ∧ A ≤ T ∧ T ≤ K := by
  have h0 : 0 ≤ nI A := nI_le (a := 0) (by omega) (by omega)
  obtain ⟨T, e, hT⟩ := i_rng hK ⟨i_lele h0 h.1, h.2⟩
  have h1 := h.1
  rw [e] at h1
  exact ⟨T, e, (nI_leI (by omega) (by omega)).mp h1, hT⟩
