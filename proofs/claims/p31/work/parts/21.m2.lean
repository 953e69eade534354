/-! THE MEANING, 2: the reference's rows; a tick -/
/-- the fills stand between 0 and 40, the capacities too -/
def FN (n : Nat) (R : SL) : Prop := ∀ m, m < n → 0 ≤ (R m 5).toInt ∧ (R m 5).toInt ≤ 40 ∧ (R m 4).toInt ≤ 40
theorem i_pos_ne {x : Int32} (h : 0 ≤ x.toInt) : x ≤ 0 ↔ x = 0 := by
  rw [Int32.le_iff_toInt_le, ← Int32.toInt_inj]
  show x.toInt ≤ 0 ↔ x.toInt = 0
  omega
/-- a turn, ahead of its note: which it is, and the rows -/
def corS (n : Nat) (b : Int32) (R : SL) (m : Nat) : Nat × SL :=
  if isD b m then (4, spdS n R m)
  else if 0 < tk2S (rl2S n b (spdS n R m) m) m m 6 then
    (1, if tk2S (rl2S n b (spdS n R m) m) m m 6 - 1 = 0 then relS n b (up2 (tk2S (rl2S n b (spdS n R m) m) m) m 6 (tk2S (rl2S n b (spdS n R m) m) m m 6 - 1)) m else up2 (tk2S (rl2S n b (spdS n R m) m) m) m 6 (tk2S (rl2S n b (spdS n R m) m) m m 6 - 1))
  else (if tk2S (rl2S n b (spdS n R m) m) m m 6 = 0 then 3 else 2, tk2S (rl2S n b (spdS n R m) m) m)
theorem up2_comm (L : SL) {a c x y : Nat} (v w : Int32) (h : ¬ (a = x ∧ c = y)) : up2 (up2 L a c v) x y w = up2 (up2 L x y w) a c v := by
  funext k j
  rw [up2_ap, up2_ap, up2_ap, up2_ap]
  by_cases e1 : k = x ∧ j = y
  · rw [if_pos e1, if_neg (by omega), if_pos e1]
  · rw [if_neg e1]
    by_cases e2 : k = a ∧ j = c
    · rw [if_pos e2, if_pos e2]
    · rw [if_neg e2, if_neg e2, if_neg e1]
theorem not_up (Q : SL) (m k : Nat) {a c : Nat} (v : Int32) (h : ¬ (a = m ∧ (c = 8 ∨ c = 8 + k))) : up2 (notS Q m k) a c v = notS (up2 Q a c v) m k := by
  unfold notS
  rw [show up2 Q a c v m (8 + k) = Q m (8 + k) from up2_q (by omega), up2_comm (up2 Q m 8 (nI k)) (a := m) (c := 8 + k) (x := a) (y := c) _ _ (by omega), up2_comm Q (a := m) (c := 8) (x := a) (y := c) _ _ (by omega)]
theorem not_at (Q : SL) (m k : Nat) {a c : Nat} (h : ¬ (a = m ∧ (c = 8 ∨ c = 8 + k))) : notS Q m k a c = Q a c := by
  unfold notS
  rw [up2_ap, if_neg (by omega), up2_ap, if_neg (by omega)]
theorem not_out (Q : SL) (m : Nat) : outS (notS Q m 1) m = notS (outS Q m) m 1 := by
  unfold outS
  rw [not_at Q m 1 (by omega), not_up Q m 1 _ (by omega), not_up _ m 1 _ (by omega)]
theorem not_rel (n : Nat) (b : Int32) (R : SL) (m : Nat) : relS n b (notS R m 1) m = notS (relS n b R m) m 1 := by
  have e6 : ∀ c, notS R m 1 (m + 1) c = R (m + 1) c := fun c => not_at R m 1 (by omega)
  have e5 : notS R m 1 m 5 = R m 5 := not_at R m 1 (by omega)
  have e4 : notS R m 1 m 4 = R m 4 := not_at R m 1 (by omega)
  have cy : cyS (notS R m 1) (m + 1) = cyS R (m + 1) := by unfold cyS; rw [e6, e6, e6]
  unfold relS
  rw [e5, e4, e6, cy]
  by_cases h1 : m + 1 < n
  · rw [if_pos h1, if_pos h1]
    by_cases h2 : R m 5 = 0 ∧ R (m + 1) 6 = -1 ∧ ¬ isD b (m + 1)
    · rw [if_pos h2, if_pos h2, not_up _ _ _ _ (by omega), not_out]
    · rw [if_neg h2, if_neg h2]
      by_cases h3 : R m 5 < R m 4
      · rw [if_pos h3, if_pos h3, not_up _ _ _ _ (by omega), not_out]
      · rw [if_neg h3, if_neg h3]
  · rw [if_neg h1, if_neg h1, not_out]
theorem tur_cor (n : Nat) (b : Int32) (R : SL) (m : Nat) : turS n b R m = notS (corS n b R m).2 m (corS n b R m).1 := by
  unfold turS corS wrkS
  by_cases h0 : isD b m
  · rw [if_pos h0, if_pos h0]
  · rw [if_neg h0, if_neg h0]
    generalize tk2S (rl2S n b (spdS n R m) m) m = R3
    by_cases h1 : 0 < R3 m 6
    · rw [if_pos h1, if_pos h1]
      by_cases h2 : R3 m 6 - 1 = 0
      · rw [if_pos h2, if_pos h2, not_rel]
      · rw [if_neg h2, if_neg h2]
    · rw [if_neg h1, if_neg h1]
theorem i_bmod {z : Int} (h1 : -2147483648 ≤ z) (h2 : z < 2147483648) : z.bmod (2 ^ 32) = z := by
  rw [Int.bmod_def]
  omega
theorem i_add {x y : Int32} (h1 : -2147483648 ≤ x.toInt + y.toInt) (h2 : x.toInt + y.toInt < 2147483648) : (x + y).toInt = x.toInt + y.toInt := by
  rw [Int32.toInt_add]
  exact i_bmod h1 h2
theorem i_sub {x y : Int32} (h1 : -2147483648 ≤ x.toInt - y.toInt) (h2 : x.toInt - y.toInt < 2147483648) : (x - y).toInt = x.toInt - y.toInt := by
  rw [Int32.toInt_sub]
  exact i_bmod h1 h2
theorem i_1 : (1 : Int32).toInt = 1 := rfl
theorem i_0 : (0 : Int32).toInt = 0 := rfl
theorem FN_oth {n : Nat} {R : SL} (h : FN n R) {a c : Nat} (v : Int32) (hc : c ≠ 5 ∧ c ≠ 4) : FN n (up2 R a c v) := fun m hm => by
  rw [up2_ap, if_neg (by omega), up2_ap, if_neg (by omega)]
  exact h m hm
theorem FN_out {n : Nat} {R : SL} (h : FN n R) (m : Nat) : FN n (outS R m) := FN_oth (FN_oth h _ (by omega)) _ (by omega)
theorem FN_not {n : Nat} {R : SL} (h : FN n R) (m k : Nat) : FN n (notS R m k) := FN_oth (FN_oth h _ (by omega)) _ (by omega)
theorem FN_spd {n : Nat} {R : SL} (h : FN n R) (m : Nat) : FN n (spdS n R m) := by
  unfold spdS
  split
  · exact FN_oth h _ (by omega)
  · split
    · exact FN_oth h _ (by omega)
    · exact h
theorem FN_rel {n : Nat} {R : SL} (h : FN n R) (b : Int32) (m : Nat) : FN n (relS n b R m) := by
  unfold relS
  split
  · split
    · exact FN_out (FN_oth h _ (by omega)) m
    · split
      · refine FN_out (fun q hq => ?_) m
        rename_i h1 h2 h3
        rw [up2_ap, up2_ap, if_neg (show ¬ (q = m ∧ 4 = 5) by omega)]
        by_cases e : q = m ∧ 5 = 5
        · rw [if_pos e]
          obtain ⟨rfl, -⟩ := e
          obtain ⟨a1, a2, a3⟩ := h q hq
          rw [Int32.lt_iff_toInt_lt] at h3
          rw [i_add (by rw [i_1]; omega) (by rw [i_1]; omega), i_1]
          omega
        · rw [if_neg e]; exact h q hq
      · exact h
  · exact FN_out h m
theorem FN_tak {n : Nat} {R : SL} (h : FN n R) {m : Nat} (hm : m < n) : FN n (takS R m) := by
  unfold takS
  split
  · exact FN_oth h _ (by omega)
  · split
    · exact h
    · refine FN_oth (fun q hq => ?_) _ (by omega)
      rename_i h1 h2
      rw [up2_ap, up2_ap, if_neg (show ¬ (q = m - 1 ∧ 4 = 5) by omega)]
      by_cases e : q = m - 1 ∧ 5 = 5
      · rw [if_pos e]
        obtain ⟨rfl, -⟩ := e
        obtain ⟨a1, a2, a3⟩ := h (m - 1) hq
        have h3 : (R (m - 1) 5).toInt ≠ 0 := fun z => h2 (Int32.toInt_inj.mp z)
        rw [i_sub (by rw [i_1]; omega) (by rw [i_1]; omega), i_1]
        omega
      · rw [if_neg e]; exact h q hq
theorem FN_rl2 {n : Nat} {R : SL} (h : FN n R) (b : Int32) (m : Nat) : FN n (rl2S n b R m) := by
  unfold rl2S
  split
  · exact FN_rel h b m
  · exact h
theorem FN_tk2 {n : Nat} {R : SL} (h : FN n R) {m : Nat} (hm : m < n) : FN n (tk2S R m) := by
  unfold tk2S
  split
  · exact FN_tak h hm
  · exact h
theorem FN_cor {n : Nat} {R : SL} (h : FN n R) (b : Int32) {m : Nat} (hm : m < n) : FN n (corS n b R m).2 := by
  have h3 := FN_tk2 (FN_rl2 (FN_spd h m) b m) hm
  unfold corS
  split
  · exact FN_spd h m
  · split
    · dsimp only
      split
      · exact FN_rel (FN_oth h3 _ (by omega)) b m
      · exact FN_oth h3 _ (by omega)
    · exact h3
theorem FN_tur {n : Nat} {R : SL} (h : FN n R) (b : Int32) {m : Nat} (hm : m < n) : FN n (turS n b R m) := by
  rw [tur_cor]
  exact FN_not (FN_cor h b hm) _ _
theorem FN_trs {n : Nat} (b : Int32) : ∀ (k : Nat) (R : SL), k ≤ n → FN n R → FN n (trsS n b k R)
  | 0, _, _, h => h
  | k + 1, _, hk, h => FN_trs b k _ (by omega) (FN_tur h b (by omega))
theorem FN_fls {n : Nat} : ∀ (k : Nat) (R : SL), FN n R → FN n (flsS k R)
  | 0, _, h => h
  | k + 1, R, h => by
    have ih := FN_fls k R h
    show FN n (fl1S _ _)
    unfold fl1S
    split
    · exact FN_oth ih _ (by omega)
    · exact FN_oth (FN_oth ih _ (by omega)) _ (by omega)
theorem FN_tic {n : Nat} {R : SL} (h : FN n R) (b : Int32) : FN n (ticS n b R) := FN_fls _ _ (FN_trs b n R (Nat.le_refl n) h)
theorem FN_pas {n p : Nat} {S : SL} : ∀ (j t : Nat) (R : SL), FN n R → FN n (pasS n p S j t R)
  | 0, _, _, h => h
  | j + 1, t, R, h => FN_pas j (t + 1) _ (FN_tic h _)
theorem cor_1 (n : Nat) (b : Int32) (R : SL) (m : Nat) : 1 ≤ (corS n b R m).1 ∧ (corS n b R m).1 ≤ 4 := by
  unfold corS
  split
  · exact ⟨by omega, by omega⟩
  · split
    · exact ⟨by omega, by omega⟩
    · show 1 ≤ (if _ then 3 else 2 : Nat) ∧ (if _ then 3 else 2 : Nat) ≤ 4
      split <;> omega
