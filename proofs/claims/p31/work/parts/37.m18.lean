/-! THE MEANING, 18: another capacity -/
theorem U_put (R : SL) (m : Nat) (c : Int32) {k q : Nat} (v : Int32) (h : ¬ (k = m ∧ q = 4)) : up2 (up2 R m 4 c) k q v = up2 (up2 R k q v) m 4 c := up2_comm R (a := m) (c := 4) (x := k) (y := q) c v (by omega)
theorem U_at (R : SL) (m : Nat) (c : Int32) {k q : Nat} (h : q ≠ 4) : up2 R m 4 c k q = R k q := up2_q (by omega)
theorem U_cy (R : SL) (m : Nat) (c : Int32) (k : Nat) : cyS (up2 R m 4 c) k = cyS R k := by
  unfold cyS
  rw [U_at R m c (by omega), U_at R m c (by omega), U_at R m c (by omega)]
theorem U_out (R : SL) (m : Nat) (c : Int32) (k : Nat) : outS (up2 R m 4 c) k = up2 (outS R k) m 4 c := by
  unfold outS
  rw [U_at R m c (by omega), U_put R m c _ (by omega), U_put _ m c _ (by omega)]
theorem U_not (R : SL) (m : Nat) (c : Int32) (k w : Nat) (hw : 1 ≤ w) : notS (up2 R m 4 c) k w = up2 (notS R k w) m 4 c := by
  unfold notS
  rw [U_at R m c (by omega), U_put R m c _ (by omega), U_put _ m c _ (by omega)]
theorem U_spd (n : Nat) (R : SL) (m : Nat) (c : Int32) (k : Nat) : spdS n (up2 R m 4 c) k = up2 (spdS n R k) m 4 c := by
  unfold spdS
  rw [U_at R m c (q := 5) (by omega), U_at R m c (q := 2) (by omega), U_at R m c (q := 3) (by omega), U_put R m c _ (by omega), U_put R m c _ (by omega)]
  split
  · rfl
  · split <;> rfl
theorem U_tak (R : SL) (m : Nat) (c : Int32) (k : Nat) : takS (up2 R m 4 c) k = up2 (takS R k) m 4 c := by
  unfold takS
  rw [U_cy, U_at R m c (q := 5) (by omega), U_put R m c _ (by omega), U_put R m c _ (by omega), U_put _ m c _ (by omega)]
  split
  · rfl
  · split <;> rfl
theorem U_rel (n : Nat) (b : Int32) (R : SL) (m : Nat) (c : Int32) (k : Nat) (h : k = m → k + 1 < n → (R m 5 < R m 4 ∧ R m 5 < c)) : relS n b (up2 R m 4 c) k = up2 (relS n b R k) m 4 c := by
  unfold relS
  rw [U_cy, U_at R m c (q := 5) (by omega), U_at R m c (q := 6) (by omega), U_put R m c _ (by omega), U_out, U_put R m c _ (by omega), U_out, U_out]
  by_cases g1 : k + 1 < n
  · rw [if_pos g1, if_pos g1]
    by_cases g2 : R k 5 = 0 ∧ R (k + 1) 6 = -1 ∧ ¬ isD b (k + 1)
    · rw [if_pos g2, if_pos g2]
    · rw [if_neg g2, if_neg g2]
      by_cases g3 : k = m
      · subst g3
        obtain ⟨h1, h2⟩ := h rfl g1
        rw [up2_s, if_pos h2, if_pos h1]
      · rw [up2_q (by omega)]
        split <;> rfl
  · rw [if_neg g1, if_neg g1]
/-- where there is no room, a buffer stays as it is -/
theorem rel_full (n : Nat) (b : Int32) (R : SL) (m : Nat) (h : ¬ R m 5 < R m 4) : (relS n b R m) m 5 = R m 5 ∧ (relS n b R m) m 4 = R m 4 := by
  have ho : ∀ Q : SL, (outS Q m) m 5 = Q m 5 ∧ (outS Q m) m 4 = Q m 4 := by
    intro Q
    unfold outS
    exact ⟨by rw [up2_q (by omega), up2_q (by omega)], by rw [up2_q (by omega), up2_q (by omega)]⟩
  unfold relS
  split
  · split
    · exact ⟨(ho _).1.trans (up2_q (by omega)), (ho _).2.trans (up2_q (by omega))⟩
    · exact ⟨rfl, rfl⟩
  · exact ho R
theorem not_full (R : SL) (m w : Nat) (hw : 1 ≤ w) (hw4 : w ≤ 4) : (notS R m w) m 5 = R m 5 ∧ (notS R m w) m 4 = R m 4 := by
  unfold notS
  exact ⟨by rw [up2_q (by omega), up2_q (by omega)], by rw [up2_q (by omega), up2_q (by omega)]⟩
theorem tk2_full (R : SL) (m : Nat) : (tk2S R m) m 5 = R m 5 ∧ (tk2S R m) m 4 = R m 4 := by
  unfold tk2S takS
  split
  · split
    · exact ⟨up2_q (by omega), up2_q (by omega)⟩
    · split
      · exact ⟨rfl, rfl⟩
      · exact ⟨by rw [up2_q (by omega), up2_q (by omega)], by rw [up2_q (by omega), up2_q (by omega)]⟩
  · exact ⟨rfl, rfl⟩
theorem wrk_full (n : Nat) (b : Int32) (R : SL) (m : Nat) (h : ¬ R m 5 < R m 4) : (wrkS n b R m) m 5 = R m 5 := by
  have hn := not_full (up2 R m 6 (R m 6 - 1)) m 1 (by omega) (by omega)
  have e5 : up2 R m 6 (R m 6 - 1) m 5 = R m 5 := up2_q (by omega)
  have e4 : up2 R m 6 (R m 6 - 1) m 4 = R m 4 := up2_q (by omega)
  unfold wrkS
  by_cases g : 0 < R m 6
  · rw [if_pos g]
    by_cases g2 : R m 6 - 1 = 0
    · rw [if_pos g2]
      exact (rel_full n b _ m (by rw [hn.1, hn.2, e5, e4]; exact h)).1.trans (hn.1.trans e5)
    · rw [if_neg g2]
      exact hn.1.trans e5
  · rw [if_neg g]
    by_cases g3 : R m 6 = 0
    · rw [if_pos g3]
      exact (not_full R m 3 (by omega) (by omega)).1
    · rw [if_neg g3]
      exact (not_full R m 2 (by omega) (by omega)).1
theorem U_rl2 (n : Nat) (b : Int32) (R : SL) (m : Nat) (c : Int32) (k : Nat) (h : k = m → k + 1 < n → R m 6 = 0 → (R m 5 < R m 4 ∧ R m 5 < c)) : rl2S n b (up2 R m 4 c) k = up2 (rl2S n b R k) m 4 c := by
  unfold rl2S
  rw [U_at R m c (q := 6) (by omega)]
  by_cases g : R k 6 = 0
  · rw [if_pos g, if_pos g]
    exact U_rel n b R m c k (fun h1 h2 => h h1 h2 (by rw [← h1]; exact g))
  · rw [if_neg g, if_neg g]
theorem U_tk2 (R : SL) (m : Nat) (c : Int32) (k : Nat) : tk2S (up2 R m 4 c) k = up2 (tk2S R k) m 4 c := by
  unfold tk2S
  rw [U_at R m c (q := 6) (by omega)]
  by_cases g : R k 6 = -1
  · rw [if_pos g, if_pos g]
    exact U_tak R m c k
  · rw [if_neg g, if_neg g]
theorem U_wrk (n : Nat) (b : Int32) (R : SL) (m : Nat) (c : Int32) (k : Nat) (h : k = m → k + 1 < n → (R m 5 < R m 4 ∧ R m 5 < c) ∨ ¬ (0 < R m 6 ∧ R m 6 - 1 = 0)) : wrkS n b (up2 R m 4 c) k = up2 (wrkS n b R k) m 4 c := by
  unfold wrkS
  rw [U_at R m c (q := 6) (by omega)]
  by_cases g : 0 < R k 6
  · rw [if_pos g, if_pos g, U_put R m c _ (by omega), U_not _ m c k 1 (by omega)]
    by_cases g2 : R k 6 - 1 = 0
    · rw [if_pos g2, if_pos g2]
      refine U_rel n b _ m c k (fun h1 h2 => ?_)
      have hn := not_full (up2 R k 6 (R k 6 - 1)) k 1 (by omega) (by omega)
      rw [h1] at hn g g2 ⊢
      rw [hn.1, hn.2, up2_q (by omega), up2_q (by omega)]
      rcases h h1 h2 with q | q
      · exact q
      · exact absurd ⟨g, g2⟩ q
    · rw [if_neg g2, if_neg g2]
  · rw [if_neg g, if_neg g]
    by_cases g3 : R k 6 = 0
    · rw [if_pos g3]
      exact U_not R m c k 3 (by omega)
    · rw [if_neg g3]
      exact U_not R m c k 2 (by omega)
/-- a turn with another capacity: the same, where the buffer is not full behind it -/
theorem U_tur (n : Nat) (b : Int32) (R : SL) (m : Nat) (c : Int32) (k : Nat) (hc : R m 4 ≤ c) (hend : k = m → k + 1 < n → turS n b R m m 5 < R m 4) : turS n b (up2 R m 4 c) k = up2 (turS n b R k) m 4 c := by
  have c1 : spdS n R m m 4 = R m 4 := KP_spd n R m m 4 (by omega)
  have c2 : rl2S n b (spdS n R m) m m 4 = R m 4 := (KP_rl2 n b _ m m 4 (by omega)).trans c1
  have c3 : tk2S (rl2S n b (spdS n R m) m) m m 4 = R m 4 := (KP_tk2 _ m m 4 (by omega)).trans c2
  have key : ¬ isD b m → ∀ (Q : SL), Q = tk2S (rl2S n b (spdS n R m) m) m → k = m → k + 1 < n → Q m 5 < Q m 4 := by
    intro hd Q hQ h1 h2
    subst hQ
    by_cases g : tk2S (rl2S n b (spdS n R m) m) m m 5 < tk2S (rl2S n b (spdS n R m) m) m m 4
    · exact g
    · have e := hend h1 h2
      unfold turS at e
      rw [if_neg hd, wrk_full n b _ m g] at e
      rw [c3]
      exact e
  by_cases hd : isD b k
  · unfold turS
    rw [if_pos hd, if_pos hd, U_spd, U_not _ m c k 4 (by omega)]
  · unfold turS
    rw [if_neg hd, if_neg hd, U_spd, U_rl2 n b _ m c k (fun h1 h2 h3 => ?_), U_tk2, U_wrk n b _ m c k (fun h1 h2 => Or.inl ?_)]
    · subst h1
      have q := key hd _ rfl rfl h2
      rw [c3] at q
      exact ⟨by rw [c3]; exact q, i_ltle q hc⟩
    · subst h1
      have q := key hd _ rfl rfl h2
      have t2 := tk2_full (rl2S n b (spdS n R k) k) k
      rw [c3, t2.1] at q
      have er : rl2S n b (spdS n R k) k = relS n b (spdS n R k) k := if_pos h3
      rw [er] at q
      by_cases z : spdS n R k k 5 < spdS n R k k 4
      · exact ⟨z, i_ltle (by rw [c1] at z; exact z) hc⟩
      · have f := rel_full n b (spdS n R k) k z
        rw [f.1] at q
        rw [c1] at z
        exact absurd q z
