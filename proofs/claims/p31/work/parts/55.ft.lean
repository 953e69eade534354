/-! THE MEANING, 29: the law's look at a line: all fits -/
theorem z_eq {x y : Int32} (h : x.toInt = y.toInt) : x = y := Int32.toInt_inj.mp h
theorem i_ltw {a b : Int32} (h : a < b) : a ≤ b := by
  rw [Int32.le_iff_toInt_le]; rw [Int32.lt_iff_toInt_lt] at h; omega
theorem lim_min (R : SL) : ∀ (k m : Nat), m ≤ k → idl R (limS R k) ≤ idl R m
  | 0, m, h => by
    rw [show m = 0 by omega]
    exact i_le (i_nn _)
  | k + 1, m, h => by
    show idl R (if idl R (limS R k) ≤ idl R (k + 1) then limS R k else k + 1) ≤ idl R m
    by_cases g : idl R (limS R k) ≤ idl R (k + 1)
    · rw [if_pos g]
      by_cases e : m = k + 1
      · rw [e]; exact g
      · exact lim_min R k m (by omega)
    · rw [if_neg g]
      by_cases e : m = k + 1
      · rw [e]; exact i_le (i_nn _)
      · exact i_lele (i_ltw (i_lt g)) (lim_min R k m (by omega))
section FIT
variable {Ls : Nat → SL} {Hs : SL} {n t p v : Nat} {R S : SL} {B : Nat → LN}
theorem ft_sum (hf : FQ n t R) (ht : t ≤ 10000) {m : Nat} (hm : m < n) : R m 9 + (R m 10 + R m 11) + R m 12 = nI t := by
  have g := (hf.1 m hm).1
  unfold vZ at g
  apply z_eq
  have e1 : (R m 10 + R m 11).toInt = (R m 10).toInt + (R m 11).toInt := i_add (by omega) (by omega)
  have e2 : (R m 9 + (R m 10 + R m 11)).toInt = (R m 9).toInt + ((R m 10).toInt + (R m 11).toInt) := by rw [i_add (by rw [e1]; omega) (by rw [e1]; omega), e1]
  rw [i_add (by rw [e2]; omega) (by rw [e2]; omega), e2, nI_toInt (by omega)]
  omega
theorem ft_lt {x y : Int32} (h : y.toInt ≤ x.toInt) : (x < y) = False := eq_false (fun z => by rw [Int32.lt_iff_toInt_lt] at z; omega)
theorem ft_le {x y : Int32} (h : y.toInt < x.toInt) : (x ≤ y) = False := eq_false (fun z => by rw [Int32.le_iff_toInt_le] at z; omega)
theorem ft_con (hf : FQ n t R) (ht : t ≤ 10000) (hF : FN n R) {m : Nat} (hm : m + 1 < n) : R m 13 = R (m + 1) 13 + R m 5 + (if R (m + 1) 6 < 0 then 0 else 1) := by
  have g := hf.2.1 m hm
  have g0 := hf.1 m (by omega)
  have g1 := hf.1 (m + 1) hm
  have f5 := hF m (by omega)
  unfold INF at g
  unfold RI at g0 g1
  unfold vZ at g g0 g1
  have e1 : (R (m + 1) 13 + R m 5).toInt = (R (m + 1) 13).toInt + (R m 5).toInt := i_add (by omega) (by omega)
  apply z_eq
  by_cases z : R (m + 1) 6 < 0
  · rw [if_pos z, Int32.add_zero, e1]
    rw [Int32.lt_iff_toInt_lt, i_0] at z
    rw [show (R (m + 1) 6).toInt = -1 by omega, occ_n1] at g
    omega
  · rw [if_neg z, i_add (by rw [e1, i_1]; omega) (by rw [e1, i_1]; omega), e1, i_1]
    rw [Int32.lt_iff_toInt_lt, i_0] at z
    rw [occ_nn (by omega)] at g
    omega
theorem ft_step (h : SC FQ Ls Hs ((n, t, p), R, S) v B) {m : Nat} (hm : m < n) (K : (Nat → SL) → Int32 → Int32 → Int32 → Int32 → Option Int32) (x2 : Int32) : f_L_areFit_b13 K Ls (nI n) x2 1 (nI m) = K Ls (nI n) (x2 + ((if R m 6 < 0 then 0 else 1) + R m 5)) 1 (nI (m + 1)) := by
  have hn : n ≤ 8 := h.1.1.1
  have ht : t ≤ 10000 := h.1.1.2.1
  have hF : FN n R := h.1.1.2.2.2.2.1
  have hf : FQ n t R := h.1.2
  have hnow := r_now h
  have hout : f_X5_output Ls = some (outR n R) := r_out h
  have c0 : f_X5_count Ls (nI m) 0 = some (Sum.inl (R m 9)) := r_cnt h hm (w := 0) (by omega)
  have c1 : f_X5_count Ls (nI m) 1 = some (Sum.inl (R m 10)) := r_cnt h hm (w := 1) (by omega)
  have c2 : f_X5_count Ls (nI m) 2 = some (Sum.inl (R m 11)) := r_cnt h hm (w := 2) (by omega)
  have c3 : f_X5_count Ls (nI m) 3 = some (Sum.inl (R m 12)) := r_cnt h hm (w := 3) (by omega)
  have c4 : f_X5_count Ls (nI m) 4 = some (Sum.inl (R m 13)) := r_cnt h hm (w := 4) (by omega)
  have c5 : f_X5_count Ls (nI m) 5 = some (Sum.inl (R m 14)) := r_cnt h hm (w := 5) (by omega)
  have m0 : f_X5_machine Ls (nI m) 0 = some (Sum.inl (R m 5)) := r_mac h hm (w := 0) (by omega)
  have m1 : f_X5_machine Ls (nI m) 1 = some (Sum.inl (R m 6)) := r_mac h hm (w := 1) (by omega)
  have m2 : f_X5_machine Ls (nI m) 2 = some (Sum.inl (R m 7)) := r_mac h hm (w := 2) (by omega)
  have m3 : f_X5_machine Ls (nI m) 3 = some (Sum.inl (R m 8)) := r_mac h hm (w := 3) (by omega)
  have g := hf.1 m hm
  have g14 := hf.2.2.2 m hm
  have f5 := hF m hm
  unfold RI at g
  unfold vZ at g g14
  have q10 : ¬ (1 : Int32) = 0 := by decide
  have q20 : (20 : Int32).toInt = 20 := rfl
  have q40 : (40 : Int32).toInt = 40 := rfl
  -- who limits
  have hl := lim_le R (n - 1)
  have hlm : limS R (n - 1) < n := by omega
  have d1 : f_X5_count Ls (nI (limS R (n - 1))) 1 = some (Sum.inl (R (limS R (n - 1)) 10)) := r_cnt h hlm (w := 1) (by omega)
  have d2 : f_X5_count Ls (nI (limS R (n - 1))) 2 = some (Sum.inl (R (limS R (n - 1)) 11)) := r_cnt h hlm (w := 2) (by omega)
  have dl : ¬ R m 10 + R m 11 < R (limS R (n - 1)) 10 + R (limS R (n - 1)) 11 := i_nlt (lim_min R (n - 1) m (by omega))
  have s341 : ∀ y, f_L_areFit_b341 K Ls (nI n) y (nI m) (R m 10 + R m 11) = K Ls (nI n) y 1 (nI (m + 1)) := fun y => by
    unfold f_L_areFit_b341 f_L_areFit_b346 f_L_areFit_b382
    simp only [lt_n]
    rw [r_lim h (by omega), okv_i, bd_n, if_neg q10, d1, okv_i, bd_n, d2, okv_i, bd_n, if_neg dl, nI_1]
  have s283 : ∀ y, f_L_areFit_b283 K Ls (nI n) y (nI m) (R m 10 + R m 11) 1 = K Ls (nI n) y 1 (nI (m + 1)) := fun y => by
    unfold f_L_areFit_b283
    simp only [lt_n]
    rw [if_neg q10, show nI n - 1 = nI (n - 1) from pk_sub (b := 1) (by omega)]
    by_cases e : m = n - 1
    · rw [if_pos (by rw [e]), s341]
    · have hm1 : m + 1 < n := by omega
      have k4 : f_X5_count Ls (nI (m + 1)) 4 = some (Sum.inl (R (m + 1) 13)) := r_cnt h hm1 (w := 4) (by omega)
      have k1 : f_X5_machine Ls (nI (m + 1)) 1 = some (Sum.inl (R (m + 1) 6)) := r_mac h hm1 (w := 1) (by omega)
      have kc := ft_con hf ht hF hm1
      rw [if_neg (fun z => e ((nI_eq (a := m) (b := n - 1) (by omega) (by omega)).mp z)), c4, okv_i, bd_n, nI_1, k4, okv_i, bd_n, m0, okv_i, bd_n, k1, okv_i, bd_n]
      unfold f_L_areFit_b337
      simp only [lt_n]
      by_cases z : R (m + 1) 6 < 0
      · rw [if_pos z] at kc ⊢
        rw [if_neg (fun w => w kc), s341]
      · rw [if_neg z] at kc ⊢
        rw [if_neg (fun w => w kc), s341]
  have s264 : ∀ y, f_L_areFit_b264 K Ls (nI n) y (nI m) (R m 10 + R m 11) = K Ls (nI n) y 1 (nI (m + 1)) := fun y => by
    unfold f_L_areFit_b264
    rw [c5, okv_i, bd_n, hnow, bd_n, if_neg (show ¬ nI t < R m 14 from fun z => by
      rw [Int32.lt_iff_toInt_lt, nI_toInt (by omega)] at z
      omega), s283]
  have s201 : ∀ y, f_L_areFit_b201 K Ls (nI n) y (nI m) (R m 10 + R m 11) = K Ls (nI n) y 1 (nI (m + 1)) := fun y => by
    unfold f_L_areFit_b201
    simp only [lt_n]
    rw [show nI n - 1 = nI (n - 1) from pk_sub (b := 1) (by omega)]
    by_cases e : m + 1 = n
    · have l := g.2.2.2.2.2.2 e
      have l14 := g14.2.2 e
      rw [if_neg (show ¬ nI m < nI (n - 1) from nI_nlt (by omega) (by omega)), c2, okv_i, bd_n, if_neg (fun w => w (z_eq (l.1.trans i_0.symm))), m0, okv_i, bd_n, if_neg (fun w => w (z_eq (l.2.1.trans i_0.symm))), m2, okv_i, bd_n, if_neg (fun w => w (z_eq (l.2.2.trans i_1.symm))), c5, okv_i, bd_n, if_neg (fun w => w (z_eq (l14.trans i_0.symm))), hout, bd_n, c4, okv_i, bd_n, if_neg (fun w => w (by unfold outR; rw [if_neg (by omega), show n - 1 = m by omega])), s264]
    · rw [if_pos (show nI m < nI (n - 1) from nI_lt (by omega) (by omega)), s264]
  have s181 : ∀ y, f_L_areFit_b181 K Ls (nI n) y (nI m) (R m 10 + R m 11) 1 = K Ls (nI n) y 1 (nI (m + 1)) := fun y => by
    unfold f_L_areFit_b181
    rw [if_neg q10]
    by_cases e : m = 0
    · subst e
      rw [if_neg (show ¬ (0 : Int32) < nI 0 by decide), c1, okv_i, bd_n, if_neg (fun w => w (z_eq ((g.2.2.2.2.2.1 rfl).trans i_0.symm))), s201]
    · rw [if_pos (show (0 : Int32) < nI m from nI_lt (a := 0) (by omega) (by omega)), s201]
  have s55 : ∀ y (s0 : Int32), f_L_areFit_b55 K Ls (nI n) y (nI m) (R m 10 + R m 11) s0 = K Ls (nI n) (y + (s0 + R m 5)) 1 (nI (m + 1)) := fun y s0 => by
    unfold f_L_areFit_b55
    simp only [lt_n]
    rw [m0, okv_i, bd_n, c0, okv_i, bd_n, c3, okv_i, bd_n, hnow, bd_n, if_neg (fun w => w (ft_sum hf ht hm)), c4, okv_i, bd_n, bd_n, if_neg (show ¬ R m 9 < R m 13 from fun z => by rw [Int32.lt_iff_toInt_lt] at z; omega), m1, okv_i, bd_n, if_neg (show ¬ (20 : Int32) ≤ R m 6 from fun z => by rw [Int32.le_iff_toInt_le, q20] at z; omega), bd_n, if_neg (show ¬ R m 5 < 0 from fun z => by rw [Int32.lt_iff_toInt_lt, i_0] at z; omega), bd_n, if_neg (show ¬ (40 : Int32) < R m 5 from fun z => by rw [Int32.lt_iff_toInt_lt, q40] at z; omega), m3, okv_i, bd_n]
    unfold f_L_areFit_b161 f_L_areFit_b173
    rw [hnow, bd_n, bd_n]
    by_cases e : t = 0
    · have z8 : R m 8 = 0 := z_eq ((g.2.2.2.2.1.2.2.mpr (by omega)).trans i_0.symm)
      rw [z8, if_neg (fun w => w rfl), e, if_neg (fun w => w rfl), if_neg (fun w => w rfl), s181]
    · have z8 : ¬ R m 8 = 0 := fun z => e (by
        have := g.2.2.2.2.1.2.2.mp (by rw [z]; rfl)
        omega)
      rw [if_pos z8, if_pos (show ¬ nI t = 0 from fun z => e ((nI_eq (a := t) (b := 0) (by omega) (by omega)).mp z)), if_neg (fun w => w rfl), s181]
  unfold f_L_areFit_b13
  simp only [lt_n]
  rw [if_neg (nI_ge (by omega) (by omega)), if_neg q10, c1, okv_i, bd_n, c2, okv_i, bd_n, m1, okv_i, bd_n]
  by_cases z : R m 6 < 0
  · rw [if_pos z, if_pos z, s55]
  · rw [if_neg z, if_neg z, s55]
theorem ft_ins (hf : FQ n t R) : ∀ m, m < n → insS R m + ((if R m 6 < 0 then 0 else 1) + R m 5) = insS R (m + 1) := fun m hm => by
  have g := (hf.1 m hm).2.2.1
  unfold vZ at g
  show _ = insS R m + (R m 5 + if R m 6 = -1 then 0 else 1)
  by_cases z : R m 6 < 0
  · have e : R m 6 = -1 := z_eq (by
      rw [Int32.lt_iff_toInt_lt, i_0] at z
      show (R m 6).toInt = -1
      omega)
    rw [if_pos z, if_pos e, Int32.add_comm (R m 5)]
  · rw [if_neg z, if_neg (fun w => z (by rw [w]; decide)), Int32.add_comm (R m 5)]
theorem ft_L (h : SC FQ Ls Hs ((n, t, p), R, S) v B) : ∀ (d m f : Nat), m + d = n → d < f → f_L_areFit_h13 f Ls (nI n) (insS R m) 1 (nI m) = some 1 := by
  have hn : n ≤ 8 := h.1.1.1
  intro d
  induction d with
  | zero =>
    intro m f hm hf
    obtain ⟨f', rfl⟩ : ∃ f', f = f' + 1 := ⟨f - 1, by omega⟩
    obtain rfl : m = n := by omega
    show f_L_areFit_b13 _ Ls _ _ 1 _ = _
    unfold f_L_areFit_b13 f_L_areFit_b389 f_L_areFit_b421
    rw [if_pos (nI_le (Nat.le_refl _) (by omega)), if_neg (show ¬ (1 : Int32) = 0 by decide), r_ins h, bd_n, if_neg (fun w => w rfl)]
    by_cases e : m = 0
    · subst e
      rw [if_neg (show ¬ (0 : Int32) < nI 0 by decide), r_out h, bd_n, if_neg (fun w => w rfl)]
      unfold fw_limiting
      rw [r_lim0 h, fwt_r, if_pos rfl, bd_n, if_neg (fun w => w rfl)]
    · rw [if_pos (show (0 : Int32) < nI m from nI_lt (a := 0) (by omega) (by omega))]
  | succ d ih =>
    intro m f hm hf
    obtain ⟨f', rfl⟩ : ∃ f', f = f' + 1 := ⟨f - 1, by omega⟩
    show f_L_areFit_b13 _ Ls _ _ 1 _ = _
    rw [ft_step h (show m < n by omega), ft_ins (n := n) (t := t) h.1.2 m (by omega)]
    exact ih (m + 1) f' (by omega) (by omega)
theorem ft_all {A : LN} (h : SC FQ Ls Hs A v B) : f_L_areFit Ls = some 1 := by
  obtain ⟨⟨n, t, p⟩, R, S⟩ := A
  unfold f_L_areFit
  rw [r_size0 h, bd_n]
  exact ft_L h n 0 fuel (by omega) (by have hn : n ≤ 8 := h.1.1.1; unfold fuel; omega)
end FIT
