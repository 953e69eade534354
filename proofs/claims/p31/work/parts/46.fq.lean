/-! THE MEANING, 27: what fits in a line: ticks, bottles, states of a machine -/
/-- a machine's row after x ticks: each tick is a working, a starved, a blocked or a down one; no bottle left without a working tick; the first is never starved, the last never blocked -/
def RI (n x : Nat) (R : SL) (m : Nat) : Prop :=
  (0 ≤ vZ R m 9 ∧ 0 ≤ vZ R m 10 ∧ 0 ≤ vZ R m 11 ∧ 0 ≤ vZ R m 12 ∧ vZ R m 9 + vZ R m 10 + vZ R m 11 + vZ R m 12 = x) ∧
  (1 ≤ vZ R m 1 ∧ vZ R m 1 ≤ vZ R m 0 ∧ vZ R m 0 ≤ 9) ∧ (-1 ≤ vZ R m 6 ∧ vZ R m 6 ≤ 9) ∧
  (0 ≤ vZ R m 13 ∧ vZ R m 13 ≤ vZ R m 9 ∧ (vZ R m 6 = 0 → vZ R m 13 + 1 ≤ vZ R m 9)) ∧
  (0 ≤ vZ R m 8 ∧ vZ R m 8 ≤ 4 ∧ (vZ R m 8 = 0 ↔ x = 0)) ∧
  (m = 0 → vZ R m 10 = 0) ∧ (m + 1 = n → vZ R m 11 = 0 ∧ vZ R m 5 = 0 ∧ vZ R m 7 = 1)
theorem vZ_one {x : Int32} (h : 0 ≤ x.toInt ∧ x.toInt ≤ 100000) : (x + 1).toInt = x.toInt + 1 := by
  rw [i_add (by rw [i_1]; omega) (by rw [i_1]; omega), i_1]
theorem vZ_not {R : SL} {m w : Nat} (hw : 1 ≤ w ∧ w ≤ 4) (hb : 0 ≤ vZ R m (8 + w) ∧ vZ R m (8 + w) ≤ 100000) (k q : Nat) : vZ (notS R m w) k q = if k = m ∧ q = 8 + w then vZ R m (8 + w) + 1 else if k = m ∧ q = 8 then (w : Int) else vZ R k q := by
  unfold notS
  rw [vZ_up, vZ_up, vZ_one hb, nI_toInt (by omega)]
  rfl
theorem RI.cy {n x : Nat} {R : SL} {m : Nat} (h : RI n x R m) : 1 ≤ (cyS R m).toInt ∧ (cyS R m).toInt ≤ 9 := by
  obtain ⟨-, ⟨h1, h2, h3⟩, -⟩ := h
  unfold cyS
  unfold vZ at h1 h2 h3
  split <;> omega
/-- another row, or columns that don't matter -/
theorem RI.congr {n x : Nat} {R R' : SL} {m : Nat} (h : RI n x R m) (e : ∀ q, (q = 0 ∨ q = 1 ∨ q = 5 ∨ q = 6 ∨ q = 7 ∨ q = 8 ∨ q = 9 ∨ q = 10 ∨ q = 11 ∨ q = 12 ∨ q = 13) → vZ R' m q = vZ R m q) : RI n x R' m := by
  unfold RI at h ⊢
  rw [e 0 (by omega), e 1 (by omega), e 5 (by omega), e 6 (by omega), e 7 (by omega), e 8 (by omega), e 9 (by omega), e 10 (by omega), e 11 (by omega), e 12 (by omega), e 13 (by omega)]
  exact h
/-- columns 5 and 7 of a row that isn't the last -/
theorem RI.mid {n x : Nat} {R R' : SL} {m : Nat} (h : RI n x R m) (hm : m + 1 ≠ n) (e : ∀ q, (q = 0 ∨ q = 1 ∨ q = 6 ∨ q = 8 ∨ q = 9 ∨ q = 10 ∨ q = 11 ∨ q = 12 ∨ q = 13) → vZ R' m q = vZ R m q) : RI n x R' m := by
  unfold RI at h ⊢
  rw [e 0 (by omega), e 1 (by omega), e 6 (by omega), e 8 (by omega), e 9 (by omega), e 10 (by omega), e 11 (by omega), e 12 (by omega), e 13 (by omega)]
  exact ⟨h.1, h.2.1, h.2.2.1, h.2.2.2.1, h.2.2.2.2.1, h.2.2.2.2.2.1, fun z => absurd z hm⟩
theorem RI.row {n x : Nat} {R : SL} {m a c : Nat} {v : Int32} (h : RI n x R m) (hm : m ≠ a) : RI n x (up2 R a c v) m :=
  h.congr (fun q _ => by rw [vZ_up, if_neg (by omega)])
theorem RI_spd {n x : Nat} {R : SL} {k m : Nat} (h : RI n x R k) : RI n x (spdS n R m) k := by
  unfold spdS
  by_cases e : k = m
  · subst e
    by_cases g : k + 1 = n
    · rw [if_pos (Or.inl g)]
      unfold RI at h ⊢
      simp only [vZ_up, true_and, Nat.reduceEqDiff, if_true, if_false, i_1, and_true]
      obtain ⟨h1, h2, h3, h4, h5, h6, h7⟩ := h
      refine ⟨h1, h2, h3, h4, h5, h6, fun z => ?_⟩
      have := h7 z
      exact ⟨this.1, this.2.1⟩
    · have q : ∀ v : Int32, RI n x (up2 R k 7 v) k := fun v => h.mid g (fun q hq => by rw [vZ_up, if_neg (by omega)])
      split
      · exact q _
      · split
        · exact q _
        · exact h
  · split
    · exact h.row e
    · split
      · exact h.row e
      · exact h
theorem vZ_outx {n x : Nat} {R : SL} {m : Nat} (h : RI n x R m) (hx : x ≤ 20000) (k q : Nat) : vZ (outS R m) k q = if k = m ∧ q = 13 then vZ R m 13 + 1 else if k = m ∧ q = 6 then -1 else vZ R k q :=
  vZ_out ⟨h.2.2.2.1.1, by have := h.2.2.2.1.2.1; have := h.1; omega⟩ k q
theorem RI_out {n x : Nat} {R : SL} {m : Nat} (h : RI n x R m) (hx : x ≤ 20000) (h6 : vZ R m 6 = 0) : RI n x (outS R m) m := by
  have e := vZ_outx h hx
  unfold RI at h ⊢
  simp only [e, true_and, Nat.reduceEqDiff, if_true, if_false, and_true, iff_false, iff_true, true_iff, false_iff, not_false_eq_true, false_implies]
  omega
theorem RI_outk {n x y : Nat} {R : SL} {m k : Nat} (h : RI n x R k) (g : RI n y R m) (hy : y ≤ 20000) (hk : k ≠ m) : RI n x (outS R m) k :=
  h.congr (fun q _ => by rw [vZ_outx g hy, if_neg (by omega), if_neg (by omega)])
theorem RI_rel {n : Nat} {X : Nat → Nat} {R : SL} {m : Nat} (b : Int32) (hX : ∀ k, X k ≤ 20000) (h : ∀ k, k < n → RI n (X k) R k) (hm : m < n) (h6 : vZ R m 6 = 0) : ∀ k, k < n → RI n (X k) (relS n b R m) k := by
  intro k hk
  unfold relS
  split
  · rename_i g1
    split
    · rename_i g2
      have hc := (h (m + 1) g1).cy
      have n6 : vZ R (m + 1) 6 = -1 := by unfold vZ; rw [g2.2.1]; rfl
      generalize cyS R (m + 1) = y at hc ⊢
      have g3 : ∀ j, j < n → RI n (X j) (up2 R (m + 1) 6 y) j := fun j hj => by
        by_cases e : j = m + 1
        · subst e
          have q := h (m + 1) hj
          unfold RI at q ⊢
          simp only [vZ_up, true_and, Nat.reduceEqDiff, if_true, if_false, and_true, iff_false, iff_true, true_iff, false_iff, not_false_eq_true, false_implies]
          omega
        · exact (h j hj).row e
      have m6 : vZ (up2 R (m + 1) 6 y) m 6 = 0 := by rw [vZ_up, if_neg (by omega)]; exact h6
      by_cases e : k = m
      · subst e
        exact RI_out (g3 k hk) (hX k) m6
      · exact RI_outk (g3 k hk) (g3 m hm) (hX m) e
    · split
      · have g3 : ∀ j, j < n → RI n (X j) (up2 R m 5 (R m 5 + 1)) j := fun j hj => by
          by_cases e : j = m
          · subst e
            exact (h j hj).mid (by omega) (fun q hq => by rw [vZ_up, if_neg (by omega)])
          · exact (h j hj).row e
        have m6 : vZ (up2 R m 5 (R m 5 + 1)) m 6 = 0 := by rw [vZ_up, if_neg (by omega)]; exact h6
        by_cases e : k = m
        · subst e
          exact RI_out (g3 k hk) (hX k) m6
        · exact RI_outk (g3 k hk) (g3 m hm) (hX m) e
      · exact h k hk
  · by_cases e : k = m
    · subst e
      exact RI_out (h k hk) (hX k) h6
    · exact RI_outk (h k hk) (h m hm) (hX m) e
theorem RI_tak {n : Nat} {X : Nat → Nat} {R : SL} {m : Nat} (h : ∀ k, k < n → RI n (X k) R k) (hm : m < n) (h6 : vZ R m 6 = -1) : ∀ k, k < n → RI n (X k) (takS R m) k := by
  have put : ∀ (Q : SL) (y : Int32), (1 ≤ y.toInt ∧ y.toInt ≤ 9) → (∀ k, k < n → RI n (X k) Q k) → ∀ k, k < n → RI n (X k) (up2 Q m 6 y) k := fun Q y hy hQ k hk => by
    by_cases e : k = m
    · subst e
      have q := hQ k hk
      unfold RI at q ⊢
      simp only [vZ_up, true_and, Nat.reduceEqDiff, if_true, if_false, and_true, iff_false, iff_true, true_iff, false_iff, not_false_eq_true, false_implies]
      omega
    · exact (hQ k hk).row e
  have hc := (h m hm).cy
  unfold takS
  generalize cyS R m = y at hc ⊢
  split
  · exact put R y hc h
  · split
    · exact h
    · refine put _ y hc (fun k hk => ?_)
      by_cases e : k = m - 1
      · subst e
        exact (h _ hk).mid (by omega) (fun q hq => by rw [vZ_up, if_neg (by omega)])
      · exact (h k hk).row e
theorem RI_notk {n x : Nat} {R : SL} {m k w : Nat} (h : RI n x R k) (hk : k ≠ m) : RI n x (notS R m w) k := (h.row hk).row hk
theorem RI.up {n x : Nat} {R : SL} {m : Nat} (h : RI n x R m) : 0 ≤ vZ R m 9 ∧ vZ R m 9 ≤ x ∧ 0 ≤ vZ R m 10 ∧ vZ R m 10 ≤ x ∧ 0 ≤ vZ R m 11 ∧ vZ R m 11 ≤ x ∧ 0 ≤ vZ R m 12 ∧ vZ R m 12 ≤ x := by
  have := h.1
  omega
theorem RI_not4 {n x : Nat} {R : SL} {m : Nat} (h : RI n x R m) (hx : x ≤ 20000) : RI n (x + 1) (notS R m 4) m := by
  have u := h.up
  have e := vZ_not (R := R) (m := m) (w := 4) (by omega) (by show 0 ≤ vZ R m 12 ∧ vZ R m 12 ≤ 100000; omega)
  unfold RI at h ⊢
  simp only [e, true_and, Nat.reduceAdd, Nat.reduceEqDiff, if_true, if_false, and_true, iff_false, iff_true, true_iff, false_iff, not_false_eq_true, false_implies]
  omega
theorem RI_not3 {n x : Nat} {R : SL} {m : Nat} (h : RI n x R m) (hx : x ≤ 20000) (hl : m + 1 ≠ n) : RI n (x + 1) (notS R m 3) m := by
  have u := h.up
  have e := vZ_not (R := R) (m := m) (w := 3) (by omega) (by show 0 ≤ vZ R m 11 ∧ vZ R m 11 ≤ 100000; omega)
  unfold RI at h ⊢
  simp only [e, true_and, Nat.reduceAdd, Nat.reduceEqDiff, if_true, if_false, and_true, iff_false, iff_true, true_iff, false_iff, not_false_eq_true, false_implies]
  omega
theorem RI_not2 {n x : Nat} {R : SL} {m : Nat} (h : RI n x R m) (hx : x ≤ 20000) (hl : m ≠ 0) : RI n (x + 1) (notS R m 2) m := by
  have u := h.up
  have e := vZ_not (R := R) (m := m) (w := 2) (by omega) (by show 0 ≤ vZ R m 10 ∧ vZ R m 10 ≤ 100000; omega)
  unfold RI at h ⊢
  simp only [e, true_and, Nat.reduceAdd, Nat.reduceEqDiff, if_true, if_false, and_true, iff_false, iff_true, true_iff, false_iff, not_false_eq_true, false_implies]
  omega
theorem vZ_dec {R : SL} {m : Nat} (h6 : 0 < vZ R m 6) (k q : Nat) : vZ (up2 R m 6 (R m 6 - 1)) k q = if k = m ∧ q = 6 then vZ R m 6 - 1 else vZ R k q := by
  have e6 : (R m 6 - 1).toInt = vZ R m 6 - 1 := by
    have a3 := Int32.toInt_lt (R m 6)
    unfold vZ at h6 ⊢
    rw [i_sub (by rw [i_1]; omega) (by rw [i_1]; omega), i_1]
  rw [vZ_up, e6]
theorem RI_wk1 {n x : Nat} {R : SL} {m : Nat} (h : RI n x R m) (hx : x ≤ 20000) (h6 : 0 < vZ R m 6) : RI n (x + 1) (notS (up2 R m 6 (R m 6 - 1)) m 1) m := by
  have u := h.up
  have d := vZ_dec h6
  have e9 : vZ (up2 R m 6 (R m 6 - 1)) m (8 + 1) = vZ R m 9 := by rw [d, if_neg (by omega)]
  have e := vZ_not (R := up2 R m 6 (R m 6 - 1)) (m := m) (w := 1) (by omega) (by rw [e9]; omega)
  rw [e9] at e
  unfold RI at h ⊢
  simp only [e, d, true_and, Nat.reduceAdd, Nat.reduceEqDiff, if_true, if_false, and_true, iff_false, iff_true, true_iff, false_iff, not_false_eq_true, false_implies]
  omega
theorem RI_wrk {n : Nat} {X : Nat → Nat} {R : SL} {m : Nat} (b : Int32) (hX : ∀ k, X k ≤ 19999) (h : ∀ k, k < n → RI n (X k) R k) (hm : m < n) (ha : m = 0 → vZ R m 6 ≠ -1) (hz : m + 1 = n → vZ R m 6 ≠ 0) : ∀ k, k < n → RI n (if k = m then X k + 1 else X k) (wrkS n b R m) k := by
  intro k hk
  unfold wrkS
  by_cases g : 0 < R m 6
  · rw [if_pos g]
    have g6 : 0 < vZ R m 6 := by
      rw [Int32.lt_iff_toInt_lt, i_0] at g
      exact g
    have h1 : ∀ j, j < n → RI n ((fun i => if i = m then X i + 1 else X i) j) (notS (up2 R m 6 (R m 6 - 1)) m 1) j := fun j hj => by
      show RI n (if j = m then X j + 1 else X j) _ j
      by_cases e : j = m
      · subst e
        rw [if_pos rfl]
        exact RI_wk1 (h j hj) (by have := hX j; omega) g6
      · rw [if_neg e]
        exact RI_notk ((h j hj).row e) e
    by_cases g2 : R m 6 - 1 = 0
    · rw [if_pos g2]
      refine RI_rel (X := fun i => if i = m then X i + 1 else X i) b (fun i => ?_) h1 hm ?_ k hk
      · have := hX i
        show (if i = m then X i + 1 else X i) ≤ 20000
        split <;> omega
      · unfold vZ
        rw [not_at _ _ _ (by omega), up2_s, g2]
        rfl
    · rw [if_neg g2]
      exact h1 k hk
  · rw [if_neg g]
    by_cases e : k = m
    · subst e
      rw [if_pos rfl]
      by_cases g3 : R k 6 = 0
      · rw [if_pos g3]
        exact RI_not3 (h k hk) (by have := hX k; omega) (fun z => hz z (by unfold vZ; rw [g3]; rfl))
      · rw [if_neg g3]
        refine RI_not2 (h k hk) (by have := hX k; omega) (fun z => ha z ?_)
        have q := (h k hk).2.2.1
        have p1 : ¬ 0 < vZ R k 6 := fun z => g (by rw [Int32.lt_iff_toInt_lt, i_0]; exact z)
        have p2 : vZ R k 6 ≠ 0 := fun z => g3 (Int32.toInt_inj.mp z)
        omega
    · rw [if_neg e]
      exact RI_notk (h k hk) e
theorem vZ_n1 {R : SL} {m : Nat} (h : R m 6 = -1) : vZ R m 6 = -1 := by
  unfold vZ
  rw [h]
  rfl
theorem n1_vZ {R : SL} {m : Nat} (h : vZ R m 6 = -1) : R m 6 = -1 := Int32.toInt_inj.mp h
/-- the last machine lets its bottle go -/
theorem rel_last {n : Nat} {b : Int32} {R : SL} {m : Nat} (hl : m + 1 = n) : vZ (relS n b R m) m 6 = -1 := by
  unfold relS
  rw [if_neg (by omega)]
  unfold outS
  rw [vZ_up, if_neg (by omega), vZ_up, if_pos ⟨rfl, rfl⟩]
  rfl
theorem tak_at {n : Nat} {x : Nat} {R : SL} {m : Nat} (h : RI n x R m) (h6 : vZ R m 6 = -1) : (m = 0 → vZ (takS R m) m 6 ≠ -1) ∧ vZ (takS R m) m 6 ≠ 0 := by
  have hc := h.cy
  unfold takS
  generalize cyS R m = y at hc ⊢
  split
  · rw [vZ_up, if_pos ⟨rfl, rfl⟩]
    omega
  · rename_i g
    split
    · refine ⟨fun z => absurd z g, ?_⟩
      omega
    · rw [vZ_up, if_pos ⟨rfl, rfl⟩]
      omega
theorem RI_tur {n : Nat} {X : Nat → Nat} {R : SL} {m : Nat} (b : Int32) (hX : ∀ k, X k ≤ 19999) (h : ∀ k, k < n → RI n (X k) R k) (hm : m < n) : ∀ k, k < n → RI n (if k = m then X k + 1 else X k) (turS n b R m) k := by
  have hX2 : ∀ k, X k ≤ 20000 := fun k => by have := hX k; omega
  unfold turS
  have h1 : ∀ k, k < n → RI n (X k) (spdS n R m) k := fun k hk => RI_spd (h k hk)
  generalize spdS n R m = Q at h1 ⊢
  by_cases gd : isD b m
  · rw [if_pos gd]
    intro k hk
    by_cases e : k = m
    · subst e
      rw [if_pos rfl]
      exact RI_not4 (h1 k hk) (hX2 k)
    · rw [if_neg e]
      exact RI_notk (h1 k hk) e
  · rw [if_neg gd]
    have h2 : (∀ k, k < n → RI n (X k) (rl2S n b Q m) k) ∧ (m + 1 = n → vZ (rl2S n b Q m) m 6 ≠ 0) := by
      unfold rl2S
      split
      · rename_i g2
        exact ⟨RI_rel b hX2 h1 hm (by unfold vZ; rw [g2]; rfl), fun z => by rw [rel_last z]; omega⟩
      · rename_i g2
        exact ⟨h1, fun _ z => g2 (Int32.toInt_inj.mp z)⟩
    generalize rl2S n b Q m = Q2 at h2 ⊢
    have h3 : (∀ k, k < n → RI n (X k) (tk2S Q2 m) k) ∧ (m = 0 → vZ (tk2S Q2 m) m 6 ≠ -1) ∧ (m + 1 = n → vZ (tk2S Q2 m) m 6 ≠ 0) := by
      unfold tk2S
      split
      · rename_i g2
        have q := tak_at (h2.1 m hm) (vZ_n1 g2)
        exact ⟨RI_tak h2.1 hm (vZ_n1 g2), q.1, fun _ => q.2⟩
      · rename_i g2
        exact ⟨h2.1, fun _ z => g2 (n1_vZ z), h2.2⟩
    exact RI_wrk b hX h3.1 hm h3.2.1 h3.2.2
theorem RI_trs {n t : Nat} (b : Int32) (ht : t ≤ 10000) : ∀ (k : Nat) (R : SL), k ≤ n → (∀ m, m < n → RI n (if m < k then t else t + 1) R m) → ∀ m, m < n → RI n (t + 1) (trsS n b k R) m
  | 0, _, _, h => h
  | k + 1, R, hk, h => by
    refine RI_trs b ht k _ (by omega) (fun m hm => ?_)
    have g := RI_tur (X := fun m => if m < k + 1 then t else t + 1) (m := k) b (fun j => by show (if j < k + 1 then t else t + 1) ≤ 19999; split <;> omega) h (by omega) m hm
    have e : (if m = k then (if m < k + 1 then t else t + 1) + 1 else (if m < k + 1 then t else t + 1)) = if m < k then t else t + 1 := by
      by_cases e1 : m = k
      · rw [if_pos e1, if_pos (by omega), if_neg (by omega)]
      · rw [if_neg e1]
        by_cases e2 : m < k
        · rw [if_pos (by omega), if_pos e2]
        · rw [if_neg (by omega), if_neg e2]
    show RI n (if m < k then t else t + 1) _ m
    rw [← e]
    exact g
/-- what fits: the rows; the bottles between two machines; the ticks that ended with a full buffer -/
def FQ (n t : Nat) (R : SL) : Prop := (∀ m, m < n → RI n t R m) ∧ (∀ m, m + 1 < n → INF R m) ∧ (∀ m, m < n → 0 ≤ vZ R m 5) ∧ ∀ m, m < n → 0 ≤ vZ R m 14 ∧ vZ R m 14 ≤ t ∧ (m + 1 = n → vZ R m 14 = 0)
theorem FQ.inv {n t : Nat} {R : SL} (h : FQ n t R) (ht : t ≤ 5000) : INV n (fun _ => 80000) R := by
  refine ⟨fun k hk => ?_, h.2.1⟩
  have q := h.1 k hk
  have q5 := h.2.2.1 k hk
  obtain ⟨a1, ⟨b1, b2, b3⟩, ⟨c1, c2⟩, ⟨d1, d2, d3⟩, -⟩ := q
  refine ⟨b1, b2, by omega, c1, by omega, d1, q5, ?_⟩
  have e1 : vZ R k 1 * vZ R k 13 ≤ 9 * vZ R k 13 := Int.mul_le_mul_of_nonneg_right (by omega) d1
  have e2 : prgZ (vZ R k 1) (vZ R k 6) ≤ 10 := by
    unfold prgZ
    split
    · omega
    · split <;> omega
  show vZ R k 1 * vZ R k 13 + prgZ (vZ R k 1) (vZ R k 6) ≤ 80000
  omega
theorem fls_col (q : Nat) (hq : q ≠ 14 ∧ q ≠ 15) : ∀ (k : Nat) (R : SL) (m : Nat), flsS k R m q = R m q
  | 0, _, _ => rfl
  | k + 1, R, m => by
    have ih := fls_col q hq k R m
    show fl1S (flsS k R) k m q = _
    unfold fl1S
    split
    · rw [up2_q (by omega)]; exact ih
    · rw [up2_q (by omega), up2_q (by omega)]; exact ih
theorem fls_14x {t : Nat} (ht : t ≤ 10000) : ∀ (k : Nat) (R : SL), (∀ m, m < k → 0 ≤ vZ R m 14 ∧ vZ R m 14 ≤ t) → (∀ m, m < k → 0 ≤ vZ (flsS k R) m 14 ∧ vZ (flsS k R) m 14 ≤ t + 1) ∧ ∀ m, k ≤ m → vZ (flsS k R) m 14 = vZ R m 14
  | 0, R, h => ⟨fun m hm => absurd hm (by omega), fun _ _ => rfl⟩
  | k + 1, R, h => by
    obtain ⟨i1, i2⟩ := fls_14x ht k R (fun m hm => h m (by omega))
    have hk := h k (by omega)
    have ek := i2 k (Nat.le_refl k)
    show (∀ m, m < k + 1 → 0 ≤ vZ (fl1S (flsS k R) k) m 14 ∧ vZ (fl1S (flsS k R) k) m 14 ≤ t + 1) ∧ ∀ m, k + 1 ≤ m → vZ (fl1S (flsS k R) k) m 14 = vZ R m 14
    generalize flsS k R = Q at i1 i2 ek ⊢
    unfold fl1S
    split
    · refine ⟨fun m hm => ?_, fun m hm => ?_⟩
      · rw [vZ_up, if_neg (by omega)]
        by_cases e : m = k
        · subst e; rw [ek]; omega
        · exact i1 m (by omega)
      · rw [vZ_up, if_neg (by omega)]
        exact i2 m (by omega)
    · have e1 : (Q k 14 + 1).toInt = vZ Q k 14 + 1 := vZ_one (by
        have : (Q k 14).toInt = vZ R k 14 := ek
        omega)
      refine ⟨fun m hm => ?_, fun m hm => ?_⟩
      · rw [vZ_up, vZ_up, e1]
        by_cases e : m = k
        · subst e
          rw [if_pos ⟨rfl, rfl⟩, ek]
          omega
        · rw [if_neg (by omega), if_neg (by omega)]
          exact i1 m (by omega)
      · rw [vZ_up, vZ_up, if_neg (by omega), if_neg (by omega)]
        exact i2 m (by omega)
theorem FQ_tic {n t : Nat} {R : SL} (b : Int32) (hn : n ≤ 8) (ht : t ≤ 5000) (h : FQ n t R) (hF : FN n R) : FQ n (t + 1) (ticS n b R) := by
  have i := INV_tic b hn (u := fun _ => 80000) (fun _ _ => by show (80000 : Int) ≤ 90000; omega) (h.inv ht)
  have r := RI_trs b (t := t) (by omega) n R (Nat.le_refl n) (fun m hm => by rw [if_pos hm]; exact h.1 m hm)
  refine ⟨fun m hm => ?_, i.2, fun m hm => ?_, fun m hm => ?_⟩
  · exact (r m hm).congr (fun q hq => by unfold ticS vZ; rw [fls_col q (by omega)])
  · exact (FN_tic hF b m hm).1
  · have e14 : ∀ k, vZ (trsS n b n R) k 14 = vZ R k 14 := fun k => by unfold vZ; rw [KE_trs n b n R k]
    have f := fls_14x (t := t) (by omega) (n - 1) (trsS n b n R) (fun k hk => by rw [e14]; exact ⟨(h.2.2.2 k (by omega)).1, (h.2.2.2 k (by omega)).2.1⟩)
    show 0 ≤ vZ (flsS (n - 1) (trsS n b n R)) m 14 ∧ vZ (flsS (n - 1) (trsS n b n R)) m 14 ≤ ((t + 1 : Nat) : Int) ∧ (m + 1 = n → vZ (flsS (n - 1) (trsS n b n R)) m 14 = 0)
    by_cases e : m < n - 1
    · have := f.1 m e
      exact ⟨this.1, by omega, fun z => absurd z (by omega)⟩
    · have g := f.2 m (by omega)
      have h9 := h.2.2.2 m hm
      rw [g, e14]
      exact ⟨h9.1, by omega, h9.2.2⟩
theorem FQ_pas {n p : Nat} {S : SL} (hn : n ≤ 8) : ∀ (j t : Nat) (R : SL), t + j ≤ 5000 → FQ n t R → FN n R → FQ n (t + j) (pasS n p S j t R)
  | 0, _, _, _, h, _ => h
  | j + 1, t, R, hj, h, hF => by
    have g := FQ_pas (p := p) (S := S) hn j (t + 1) (ticS n (dbS S (t + 1) p) R) (by omega) (FQ_tic _ hn (by omega) h hF) (FN_tic hF _)
    rw [show t + (j + 1) = t + 1 + j by omega]
    exact g
theorem all_in {n : Nat} {R : SL} {k q : Nat} (h1 : k < n) (h2 : 5 ≤ q) (h3 : q < 16) : vZ (allS n R) k q = (emv q).toInt := by
  unfold vZ allS
  rw [if_pos ⟨h1, h2, h3⟩]
theorem all_out {n : Nat} {R : SL} {k q : Nat} (h1 : q < 5) : vZ (allS n R) k q = vZ R k q := by
  unfold vZ allS
  rw [if_neg (by omega)]
theorem emv_v : (emv 5).toInt = 0 ∧ (emv 6).toInt = -1 ∧ (emv 7).toInt = 1 ∧ (emv 8).toInt = 0 ∧ (emv 9).toInt = 0 ∧ (emv 10).toInt = 0 ∧ (emv 11).toInt = 0 ∧ (emv 12).toInt = 0 ∧ (emv 13).toInt = 0 ∧ (emv 14).toInt = 0 := ⟨rfl, rfl, rfl, rfl, rfl, rfl, rfl, rfl, rfl, rfl⟩
/-- a line that begins anew -/
theorem FQ_new {n : Nat} {R : SL} (hc : ∀ m, m < n → 1 ≤ vZ R m 1 ∧ vZ R m 1 ≤ vZ R m 0 ∧ vZ R m 0 ≤ 9) : FQ n 0 (allS n R) := by
  obtain ⟨e5, e6, e7, e8, e9, e10, e11, e12, e13, e14⟩ := emv_v
  refine ⟨fun m hm => ?_, fun m hm => ?_, fun m hm => ?_, fun m hm => ?_⟩
  · have c := hc m hm
    unfold RI
    have a : ∀ q, 5 ≤ q → q < 16 → vZ (allS n R) m q = (emv q).toInt := fun q h1 h2 => all_in hm h1 h2
    have a0 : vZ (allS n R) m 0 = vZ R m 0 := all_out (by omega)
    have a1 : vZ (allS n R) m 1 = vZ R m 1 := all_out (by omega)
    rw [a0, a1, a 5 (by omega) (by omega), a 6 (by omega) (by omega), a 7 (by omega) (by omega), a 8 (by omega) (by omega), a 9 (by omega) (by omega), a 10 (by omega) (by omega), a 11 (by omega) (by omega), a 12 (by omega) (by omega), a 13 (by omega) (by omega), e5, e6, e7, e8, e9, e10, e11, e12, e13]
    omega
  · unfold INF
    rw [all_in (by omega) (by omega) (by omega), all_in hm (by omega) (by omega), all_in (by omega) (by omega) (by omega), all_in hm (by omega) (by omega), e5, e6, e13, occ_n1]
    omega
  · rw [all_in hm (by omega) (by omega), e5]
    omega
  · rw [all_in hm (by omega) (by omega), e14]
    omega
theorem FQ.cyc {n t : Nat} {R : SL} (h : FQ n t R) : ∀ m, m < n → 1 ≤ vZ R m 1 ∧ vZ R m 1 ≤ vZ R m 0 ∧ vZ R m 0 ≤ 9 := fun m hm => (h.1 m hm).2.1
theorem FQ_rst {n t : Nat} {R : SL} (h : FQ n t R) : FQ n 0 (allS n R) := FQ_new h.cyc
/-- what is set: columns 0 to 4 -/
theorem FQ_set {n t : Nat} {R R' : SL} (h : FQ n t R) (e : ∀ m q, 5 ≤ q → R' m q = R m q) (hc : ∀ m, m < n → 1 ≤ vZ R' m 1 ∧ vZ R' m 1 ≤ vZ R' m 0 ∧ vZ R' m 0 ≤ 9) : FQ n t R' := by
  have e' : ∀ m q, 5 ≤ q → vZ R' m q = vZ R m q := fun m q hq => by unfold vZ; rw [e m q hq]
  refine ⟨fun m hm => ?_, fun m hm => ?_, fun m hm => ?_, fun m hm => ?_⟩
  · have g := h.1 m hm
    have c := hc m hm
    unfold RI at g ⊢
    rw [e' m 5 (by omega), e' m 6 (by omega), e' m 7 (by omega), e' m 8 (by omega), e' m 9 (by omega), e' m 10 (by omega), e' m 11 (by omega), e' m 12 (by omega), e' m 13 (by omega)]
    exact ⟨g.1, c, g.2.2⟩
  · have g := h.2.1 m hm
    unfold INF at g ⊢
    rw [e' m 13 (by omega), e' (m + 1) 13 (by omega), e' m 5 (by omega), e' (m + 1) 6 (by omega)]
    exact g
  · rw [e' m 5 (by omega)]
    exact h.2.2.1 m hm
  · rw [e' m 14 (by omega)]
    exact h.2.2.2 m hm
/-- a machine joins a line that hasn't begun -/
theorem FQ_join {n : Nat} {R : SL} {a b c : Int32} (h : FQ n 0 R) (hc : 1 ≤ b.toInt ∧ b.toInt ≤ a.toInt ∧ a.toInt ≤ 9) : FQ (n + 1) 0 (joinS R n a b c) := by
  obtain ⟨e5, e6, e7, e8, e9, e10, e11, e12, e13, e14⟩ := emv_v
  have hj : ∀ m q, m ≠ n → vZ (joinS R n a b c) m q = vZ R m q := by
    intro m q hm
    unfold vZ joinS empS
    rw [if_neg (by omega), up2_q (by omega), up2_q (by omega), up2_q (by omega), up2_q (by omega), up2_q (by omega)]
  have hi : ∀ q, 5 ≤ q → q < 16 → vZ (joinS R n a b c) n q = (emv q).toInt := by
    intro q h1 h2
    unfold vZ joinS empS
    rw [if_pos ⟨rfl, h1, h2⟩]
  have h0 : vZ (joinS R n a b c) n 0 = a.toInt := by
    unfold vZ joinS empS
    rw [if_neg (by omega), up2_q (by omega), up2_q (by omega), up2_q (by omega), up2_q (by omega), up2_s]
  have h1 : vZ (joinS R n a b c) n 1 = b.toInt := by
    unfold vZ joinS empS
    rw [if_neg (by omega), up2_q (by omega), up2_q (by omega), up2_q (by omega), up2_s]
  have old : ∀ m, m < n → vZ R m 9 = 0 ∧ vZ R m 10 = 0 ∧ vZ R m 11 = 0 ∧ vZ R m 12 = 0 ∧ vZ R m 13 = 0 := fun m hm => by
    have g := h.1 m hm
    unfold RI at g
    omega
  refine ⟨fun m hm => ?_, fun m hm => ?_, fun m hm => ?_, fun m hm => ?_⟩
  · by_cases e : m = n
    · subst e
      unfold RI
      rw [h0, h1, hi 5 (by omega) (by omega), hi 6 (by omega) (by omega), hi 7 (by omega) (by omega), hi 8 (by omega) (by omega), hi 9 (by omega) (by omega), hi 10 (by omega) (by omega), hi 11 (by omega) (by omega), hi 12 (by omega) (by omega), hi 13 (by omega) (by omega), e5, e6, e7, e8, e9, e10, e11, e12, e13]
      omega
    · have g := h.1 m (by omega)
      unfold RI at g ⊢
      rw [hj _ _ e, hj _ _ e, hj _ _ e, hj _ _ e, hj _ _ e, hj _ _ e, hj _ _ e, hj _ _ e, hj _ _ e, hj _ _ e, hj _ _ e]
      omega
  · unfold INF
    have em : m ≠ n := by omega
    have o := old m (by omega)
    rw [hj _ _ em, hj _ _ em]
    by_cases e : m + 1 = n
    · have z5 : vZ R m 5 = 0 := ((h.1 m (by omega)).2.2.2.2.2.2 e).2.1
      rw [e, hi 13 (by omega) (by omega), hi 6 (by omega) (by omega), e13, e6, occ_n1]
      omega
    · have g := h.2.1 m (by omega)
      rw [hj _ _ e, hj _ _ e]
      exact g
  · by_cases e : m = n
    · subst e
      rw [hi 5 (by omega) (by omega), e5]
      omega
    · rw [hj _ _ e]
      exact h.2.2.1 m (by omega)
  · by_cases e : m = n
    · subst e
      rw [hi 14 (by omega) (by omega), e14]
      omega
    · have g := h.2.2.2 m (by omega)
      rw [hj _ _ e]
      omega
