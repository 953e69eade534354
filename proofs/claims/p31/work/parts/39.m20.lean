/-! THE MEANING, 20: no line makes more than a machine of it could -/
def vZ (R : SL) (k c : Nat) : Int := (R k c).toInt
def prgZ (f r : Int) : Int := if r = -1 then 0 else if r ≤ f then f - r else 0
def occZ (r : Int) : Int := if r = -1 then 0 else 1
theorem vZ_up (R : SL) (a c : Nat) (v : Int32) (k q : Nat) : vZ (up2 R a c v) k q = if k = a ∧ q = c then v.toInt else vZ R k q := by
  unfold vZ
  rw [up2_ap]
  split <;> rfl
theorem prg_n1 (f : Int) : prgZ f (-1) = 0 := if_pos rfl
theorem prg_0 {f : Int} (h : 1 ≤ f) : prgZ f 0 = f := by
  unfold prgZ
  rw [if_neg (by omega), if_pos (by omega)]
  omega
theorem prg_c {f c : Int} (h : 1 ≤ f) (h2 : f ≤ c) : prgZ f c = 0 := by
  unfold prgZ
  rw [if_neg (by omega)]
  split <;> omega
theorem prg_d {f r : Int} (h : 1 ≤ r) : prgZ f (r - 1) ≤ prgZ f r + 1 := by
  unfold prgZ
  rw [if_neg (show ¬ r - 1 = -1 by omega), if_neg (show ¬ r = -1 by omega)]
  split <;> split <;> omega
theorem prg_nn {f r : Int} : 0 ≤ prgZ f r := by
  unfold prgZ
  split
  · omega
  · split <;> omega
theorem occ_n1 : occZ (-1) = 0 := if_pos rfl
theorem occ_nn {r : Int} (h : 0 ≤ r) : occZ r = 1 := if_neg (by omega)
def INA (u : Nat → Int) (R : SL) (k : Nat) : Prop := 1 ≤ vZ R k 1 ∧ vZ R k 1 ≤ vZ R k 0 ∧ vZ R k 0 ≤ 20 ∧ -1 ≤ vZ R k 6 ∧ vZ R k 6 ≤ 20 ∧ 0 ≤ vZ R k 13 ∧ 0 ≤ vZ R k 5 ∧ vZ R k 1 * vZ R k 13 + prgZ (vZ R k 1) (vZ R k 6) ≤ u k
def INF (R : SL) (k : Nat) : Prop := vZ R k 13 = vZ R (k + 1) 13 + vZ R k 5 + occZ (vZ R (k + 1) 6)
def INV (n : Nat) (u : Nat → Int) (R : SL) : Prop := (∀ k, k < n → INA u R k) ∧ ∀ k, k + 1 < n → INF R k
theorem INV.congr {n : Nat} {u : Nat → Int} {R R' : SL} (h : INV n u R) (e : ∀ k q, (q = 0 ∨ q = 1 ∨ q = 5 ∨ q = 6 ∨ q = 13) → vZ R' k q = vZ R k q) : INV n u R' := by
  refine ⟨fun k hk => ?_, fun k hk => ?_⟩
  · have g := h.1 k hk
    unfold INA at g ⊢
    rw [e k 0 (by omega), e k 1 (by omega), e k 5 (by omega), e k 6 (by omega), e k 13 (by omega)]
    exact g
  · have g := h.2 k hk
    unfold INF at g ⊢
    rw [e k 13 (by omega), e (k + 1) 13 (by omega), e k 5 (by omega), e (k + 1) 6 (by omega)]
    exact g
theorem INV.oth {n : Nat} {u : Nat → Int} {R : SL} (h : INV n u R) {a c : Nat} (v : Int32) (hc : c ≠ 0 ∧ c ≠ 1 ∧ c ≠ 5 ∧ c ≠ 6 ∧ c ≠ 13) : INV n u (up2 R a c v) :=
  h.congr (fun k q hq => by rw [vZ_up, if_neg (by omega)])
theorem INV.mono {n : Nat} {u w : Nat → Int} {R : SL} (h : INV n u R) (hw : ∀ k, k < n → u k ≤ w k) : INV n w R := by
  refine ⟨fun k hk => ?_, h.2⟩
  have g := h.1 k hk
  have := hw k hk
  unfold INA at g ⊢
  omega
theorem INA.l {u : Nat → Int} {R : SL} {k : Nat} (h : INA u R k) : vZ R k 13 ≤ u k := by
  obtain ⟨h1, h2, h3, h4, h5, h6, h7, h8⟩ := h
  have p := prg_nn (f := vZ R k 1) (r := vZ R k 6)
  have q : 1 * vZ R k 13 ≤ vZ R k 1 * vZ R k 13 := Int.mul_le_mul_of_nonneg_right h1 h6
  omega
theorem vZ_out {R : SL} {m : Nat} (h : 0 ≤ vZ R m 13 ∧ vZ R m 13 ≤ 100000) (k q : Nat) : vZ (outS R m) k q = if k = m ∧ q = 13 then vZ R m 13 + 1 else if k = m ∧ q = 6 then -1 else vZ R k q := by
  unfold outS
  rw [vZ_up, vZ_up]
  have e : (R m 13 + 1).toInt = vZ R m 13 + 1 := by
    unfold vZ at h ⊢
    rw [i_add (by rw [i_1]; omega) (by rw [i_1]; omega), i_1]
  rw [e]
  rfl
theorem cy_rng {u : Nat → Int} {R : SL} {k : Nat} (h : INA u R k) : vZ R k 1 ≤ (cyS R k).toInt ∧ (cyS R k).toInt ≤ 20 := by
  obtain ⟨h1, h2, h3, -⟩ := h
  unfold cyS
  unfold vZ at h1 h2 h3 ⊢
  split <;> omega
theorem INV_last {n : Nat} {u : Nat → Int} {R : SL} {m : Nat} (hu : ∀ k, k < n → u k ≤ 100000) (h : INV n u R) (hm : m < n) (hl : ¬ m + 1 < n) (h6 : vZ R m 6 = 0) : INV n u (outS R m) := by
  have gm := h.1 m hm
  have lm := gm.l
  have um := hu m hm
  have e := vZ_out (R := R) (m := m) ⟨gm.2.2.2.2.2.1, by omega⟩
  refine ⟨fun k hk => ?_, fun k hk => ?_⟩
  · have g := h.1 k hk
    unfold INA at g ⊢
    by_cases k1 : k = m
    · subst k1
      rw [e, e, e, e, e, if_neg (by omega), if_neg (by omega), if_neg (by omega), if_neg (by omega), if_neg (by omega), if_pos (by omega), if_pos (by omega), if_neg (by omega), if_neg (by omega), prg_n1, Int.mul_add, Int.mul_one]
      rw [h6, prg_0 g.1] at g
      omega
    · rw [e, e, e, e, e]
      simp only [k1, false_and, if_false]
      exact g
  · have g := h.2 k hk
    unfold INF at g ⊢
    have k1 : k ≠ m := by omega
    by_cases k2 : k + 1 = m
    · subst k2
      rw [e, e, e, e, if_neg (by omega), if_neg (by omega), if_pos (by omega), if_neg (by omega), if_neg (by omega), if_neg (by omega), if_pos (by omega), occ_n1]
      rw [h6, occ_nn (by omega)] at g
      omega
    · rw [e, e, e, e]
      simp only [k1, k2, false_and, if_false]
      exact g
theorem INV_fil {n : Nat} {u : Nat → Int} {R : SL} {m : Nat} (hu : ∀ k, k < n → u k ≤ 100000) (h : INV n u R) (hm : m + 1 < n) (h6 : vZ R m 6 = 0) : INV n u (outS (up2 R m 5 (R m 5 + 1)) m) := by
  have gm := h.1 m (by omega)
  have lm := gm.l
  have um := hu m (by omega)
  have fm := h.2 m hm
  have g1 := h.1 (m + 1) hm
  have e5 : (R m 5 + 1).toInt = vZ R m 5 + 1 := by
    have q : occZ (vZ R (m + 1) 6) = 0 ∨ occZ (vZ R (m + 1) 6) = 1 := by
      unfold occZ
      split <;> omega
    have a1 := gm.2.2.2.2.2.2.1
    have a2 := g1.2.2.2.2.2.1
    unfold INF at fm
    have a3 : vZ R m 5 ≤ 100000 := by omega
    unfold vZ at a1 a3 ⊢
    rw [i_add (by rw [i_1]; omega) (by rw [i_1]; omega), i_1]
  have e0 : ∀ k q, vZ (up2 R m 5 (R m 5 + 1)) k q = if k = m ∧ q = 5 then vZ R m 5 + 1 else vZ R k q := fun k q => by rw [vZ_up, e5]
  have em : vZ (up2 R m 5 (R m 5 + 1)) m 13 = vZ R m 13 := by rw [e0, if_neg (by omega)]
  have e : ∀ k q, vZ (outS (up2 R m 5 (R m 5 + 1)) m) k q = if k = m ∧ q = 13 then vZ R m 13 + 1 else if k = m ∧ q = 6 then -1 else if k = m ∧ q = 5 then vZ R m 5 + 1 else vZ R k q := fun k q => by
    rw [vZ_out (by rw [em]; exact ⟨gm.2.2.2.2.2.1, by omega⟩), em, e0]
  refine ⟨fun k hk => ?_, fun k hk => ?_⟩
  · have g := h.1 k hk
    unfold INA at g ⊢
    by_cases k1 : k = m
    · subst k1
      rw [e k 1, e k 0, e k 6, e k 13, e k 5, if_neg (by omega), if_neg (by omega), if_neg (by omega), if_neg (by omega), if_neg (by omega), if_neg (by omega), if_neg (by omega), if_pos (by omega), if_pos (by omega), if_neg (by omega), if_neg (by omega), if_pos (by omega), prg_n1, Int.mul_add, Int.mul_one]
      rw [h6, prg_0 g.1] at g
      omega
    · rw [e k 1, e k 0, e k 6, e k 13, e k 5]
      simp only [k1, false_and, if_false]
      exact g
  · have g := h.2 k hk
    unfold INF at g ⊢
    by_cases k1 : k = m
    · subst k1
      rw [e k 13, e (k + 1) 13, e k 5, e (k + 1) 6, if_pos (by omega), if_neg (by omega), if_neg (by omega), if_neg (by omega), if_neg (by omega), if_neg (by omega), if_pos (by omega), if_neg (by omega), if_neg (by omega), if_neg (by omega)]
      omega
    · by_cases k2 : k + 1 = m
      · subst k2
        rw [e k 13, e (k + 1) 13, e k 5, e (k + 1) 6, if_neg (by omega), if_neg (by omega), if_neg (by omega), if_pos (by omega), if_neg (by omega), if_neg (by omega), if_neg (by omega), if_neg (by omega), if_pos (by omega), occ_n1]
        rw [h6, occ_nn (by omega)] at g
        omega
      · rw [e k 13, e (k + 1) 13, e k 5, e (k + 1) 6]
        simp only [k1, k2, false_and, if_false]
        exact g
theorem INV_nxt {n : Nat} {u : Nat → Int} {R : SL} {m : Nat} (hu : ∀ k, k < n → u k ≤ 100000) (h : INV n u R) (hm : m + 1 < n) (h6 : vZ R m 6 = 0) (hn6 : vZ R (m + 1) 6 = -1) : INV n u (outS (up2 R (m + 1) 6 (cyS R (m + 1))) m) := by
  have gm := h.1 m (by omega)
  have lm := gm.l
  have um := hu m (by omega)
  have g1 := h.1 (m + 1) hm
  have hc := cy_rng g1
  generalize cyS R (m + 1) = y at hc ⊢
  have e0 : ∀ k q, vZ (up2 R (m + 1) 6 y) k q = if k = m + 1 ∧ q = 6 then y.toInt else vZ R k q := fun k q => vZ_up _ _ _ _ _ _
  have em : vZ (up2 R (m + 1) 6 y) m 13 = vZ R m 13 := by rw [e0, if_neg (by omega)]
  have e : ∀ k q, vZ (outS (up2 R (m + 1) 6 y) m) k q = if k = m ∧ q = 13 then vZ R m 13 + 1 else if k = m ∧ q = 6 then -1 else if k = m + 1 ∧ q = 6 then y.toInt else vZ R k q := fun k q => by
    rw [vZ_out (by rw [em]; exact ⟨gm.2.2.2.2.2.1, by omega⟩), em, e0]
  refine ⟨fun k hk => ?_, fun k hk => ?_⟩
  · have g := h.1 k hk
    unfold INA at g ⊢
    by_cases k1 : k = m
    · subst k1
      rw [e k 1, e k 0, e k 6, e k 13, e k 5, if_neg (by omega), if_neg (by omega), if_neg (by omega), if_neg (by omega), if_neg (by omega), if_neg (by omega), if_neg (by omega), if_pos (by omega), if_pos (by omega), if_neg (by omega), if_neg (by omega), if_neg (by omega), prg_n1, Int.mul_add, Int.mul_one]
      rw [h6, prg_0 g.1] at g
      omega
    · by_cases k2 : k = m + 1
      · subst k2
        rw [e (m + 1) 1, e (m + 1) 0, e (m + 1) 6, e (m + 1) 13, e (m + 1) 5, if_neg (by omega), if_neg (by omega), if_neg (by omega), if_neg (by omega), if_neg (by omega), if_neg (by omega), if_neg (by omega), if_neg (by omega), if_pos (by omega), if_neg (by omega), if_neg (by omega), if_neg (by omega), if_neg (by omega), if_neg (by omega), if_neg (by omega), prg_c g.1 hc.1]
        rw [hn6, prg_n1] at g
        have g1 := g.1
        omega
      · rw [e k 1, e k 0, e k 6, e k 13, e k 5]
        simp only [k1, k2, false_and, if_false]
        exact g
  · have g := h.2 k hk
    unfold INF at g ⊢
    by_cases k1 : k = m
    · subst k1
      rw [e k 13, e (k + 1) 13, e k 5, e (k + 1) 6, if_pos (by omega), if_neg (by omega), if_neg (by omega), if_neg (by omega), if_neg (by omega), if_neg (by omega), if_neg (by omega), if_neg (by omega), if_neg (by omega), if_pos (by omega), occ_nn (by have := g1.1; omega)]
      rw [hn6, occ_n1] at g
      omega
    · by_cases k2 : k + 1 = m
      · subst k2
        rw [e k 13, e (k + 1) 13, e k 5, e (k + 1) 6, if_neg (by omega), if_neg (by omega), if_neg (by omega), if_pos (by omega), if_neg (by omega), if_neg (by omega), if_neg (by omega), if_neg (by omega), if_pos (by omega), occ_n1]
        rw [h6, occ_nn (by omega)] at g
        omega
      · rw [e k 13, e (k + 1) 13, e k 5, e (k + 1) 6]
        have k5 : k + 1 ≠ m + 1 := by omega
        have q1 : ¬ (13 : Nat) = 6 := by omega
        have q2 : ¬ (5 : Nat) = 13 := by omega
        have q3 : ¬ (5 : Nat) = 6 := by omega
        simp only [k1, k2, k5, q1, q2, q3, false_and, and_false, if_false]
        exact g
theorem INV_rel {n : Nat} {u : Nat → Int} {R : SL} {m : Nat} (b : Int32) (hu : ∀ k, k < n → u k ≤ 100000) (h : INV n u R) (hm : m < n) (h6 : R m 6 = 0) : INV n u (relS n b R m) := by
  have z6 : vZ R m 6 = 0 := by
    unfold vZ
    rw [h6, i_0]
  unfold relS
  split
  · split
    · rename_i g1 g2
      exact INV_nxt hu h g1 z6 (by unfold vZ; rw [g2.2.1]; rfl)
    · split
      · rename_i g1 g2 g3
        exact INV_fil hu h g1 z6
      · exact h
  · rename_i g1
    exact INV_last hu h hm g1 z6
theorem INV_tak {n : Nat} {u : Nat → Int} {R : SL} {m : Nat} (h : INV n u R) (hm : m < n) (h6 : R m 6 = -1) : INV n u (takS R m) := by
  have z6 : vZ R m 6 = -1 := by
    unfold vZ
    rw [h6]
    rfl
  have gm := h.1 m hm
  have hc := cy_rng gm
  unfold takS
  generalize cyS R m = y at hc ⊢
  by_cases m0 : m = 0
  · rw [if_pos m0]
    have e : ∀ k q, vZ (up2 R m 6 y) k q = if k = m ∧ q = 6 then y.toInt else vZ R k q := fun k q => vZ_up _ _ _ _ _ _
    refine ⟨fun k hk => ?_, fun k hk => ?_⟩
    · have g := h.1 k hk
      unfold INA at g ⊢
      by_cases k1 : k = m
      · subst k1
        rw [e k 1, e k 0, e k 6, e k 13, e k 5, if_neg (by omega), if_neg (by omega), if_pos (by omega), if_neg (by omega), if_neg (by omega), prg_c g.1 hc.1]
        rw [z6, prg_n1] at g
        have g1 := g.1
        omega
      · rw [e k 1, e k 0, e k 6, e k 13, e k 5]
        simp only [k1, false_and, if_false]
        exact g
    · have g := h.2 k hk
      unfold INF at g ⊢
      rw [e k 13, e (k + 1) 13, e k 5, e (k + 1) 6, if_neg (by omega), if_neg (by omega), if_neg (by omega), if_neg (by omega)]
      exact g
  · rw [if_neg m0]
    split
    · exact h
    · rename_i g5
      obtain ⟨j, rfl⟩ : ∃ j, m = j + 1 := ⟨m - 1, by omega⟩
      rw [Nat.add_sub_cancel] at g5 ⊢
      have gj := h.1 j (by omega)
      have fj := h.2 j hm
      have p5 : 1 ≤ vZ R j 5 := by
        have a1 := gj.2.2.2.2.2.2.1
        have a2 : vZ R j 5 ≠ 0 := fun z => g5 (by
          unfold vZ at z
          rw [← i_0] at z
          exact Int32.toInt_inj.mp z)
        omega
      have e5 : (R j 5 - 1).toInt = vZ R j 5 - 1 := by
        have a3 := Int32.toInt_lt (R j 5)
        unfold vZ at p5 ⊢
        rw [i_sub (by rw [i_1]; omega) (by rw [i_1]; omega), i_1]
      have e : ∀ k q, vZ (up2 (up2 R j 5 (R j 5 - 1)) (j + 1) 6 y) k q = if k = j + 1 ∧ q = 6 then y.toInt else if k = j ∧ q = 5 then vZ R j 5 - 1 else vZ R k q := fun k q => by rw [vZ_up, vZ_up, e5]
      refine ⟨fun k hk => ?_, fun k hk => ?_⟩
      · have g := h.1 k hk
        unfold INA at g ⊢
        by_cases k1 : k = j + 1
        · subst k1
          rw [e (j + 1) 1, e (j + 1) 0, e (j + 1) 6, e (j + 1) 13, e (j + 1) 5, if_neg (by omega), if_neg (by omega), if_neg (by omega), if_neg (by omega), if_pos (by omega), if_neg (by omega), if_neg (by omega), if_neg (by omega), if_neg (by omega), prg_c g.1 hc.1]
          rw [z6, prg_n1] at g
          have g1 := g.1
          omega
        · by_cases k2 : k = j
          · subst k2
            rw [e k 1, e k 0, e k 6, e k 13, e k 5, if_neg (by omega), if_neg (by omega), if_neg (by omega), if_neg (by omega), if_neg (by omega), if_neg (by omega), if_neg (by omega), if_neg (by omega), if_neg (by omega), if_pos (by omega)]
            omega
          · rw [e k 1, e k 0, e k 6, e k 13, e k 5]
            simp only [k1, k2, false_and, if_false]
            exact g
      · have g := h.2 k hk
        unfold INF at g ⊢
        by_cases k1 : k = j
        · subst k1
          rw [e k 13, e (k + 1) 13, e k 5, e (k + 1) 6, if_neg (by omega), if_neg (by omega), if_neg (by omega), if_neg (by omega), if_neg (by omega), if_pos (by omega), if_pos (by omega), occ_nn (by have := gm.1; omega)]
          rw [z6, occ_n1] at g
          omega
        · have k2 : k + 1 ≠ j + 1 := by omega
          by_cases k3 : k = j + 1
          · subst k3
            rw [e (j + 1) 13, e (j + 1 + 1) 13, e (j + 1) 5, e (j + 1 + 1) 6, if_neg (by omega), if_neg (by omega), if_neg (by omega), if_neg (by omega), if_neg (by omega), if_neg (by omega), if_neg (by omega), if_neg (by omega)]
            exact g
          · by_cases k4 : k + 1 = j
            · rw [e k 13, e (k + 1) 13, e k 5, e (k + 1) 6, if_neg (by omega), if_neg (by omega), if_neg (by omega), if_neg (by omega), if_neg (by omega), if_neg (by omega), if_neg (by omega), if_neg (by omega)]
              exact g
            · rw [e k 13, e (k + 1) 13, e k 5, e (k + 1) 6, if_neg (by omega), if_neg (by omega), if_neg (by omega), if_neg (by omega), if_neg (by omega), if_neg (by omega), if_neg (by omega), if_neg (by omega)]
              exact g
theorem INV_dec {n : Nat} {u : Nat → Int} {R : SL} {m : Nat} (h : INV n u R) (hm : m < n) (h6 : 0 < R m 6) : INV n (fun k => if k = m then u k + 1 else u k) (up2 R m 6 (R m 6 - 1)) := by
  have p6 : 1 ≤ vZ R m 6 := by
    rw [Int32.lt_iff_toInt_lt, i_0] at h6
    exact h6
  have gm := h.1 m hm
  have e6 : (R m 6 - 1).toInt = vZ R m 6 - 1 := by
    have a3 := Int32.toInt_lt (R m 6)
    unfold vZ at p6 ⊢
    rw [i_sub (by rw [i_1]; omega) (by rw [i_1]; omega), i_1]
  have e : ∀ k q, vZ (up2 R m 6 (R m 6 - 1)) k q = if k = m ∧ q = 6 then vZ R m 6 - 1 else vZ R k q := fun k q => by rw [vZ_up, e6]
  refine ⟨fun k hk => ?_, fun k hk => ?_⟩
  · have g := h.1 k hk
    unfold INA at g ⊢
    by_cases k1 : k = m
    · subst k1
      rw [e k 1, e k 0, e k 6, e k 13, e k 5, if_neg (by omega), if_neg (by omega), if_pos (by omega), if_neg (by omega), if_neg (by omega), show (fun w => if w = k then u w + 1 else u w) k = u k + 1 from if_pos rfl]
      have q := prg_d (f := vZ R k 1) p6
      omega
    · rw [e k 1, e k 0, e k 6, e k 13, e k 5]
      simp only [k1, false_and, if_false]
      exact g
  · have g := h.2 k hk
    unfold INF at g ⊢
    by_cases k1 : k + 1 = m
    · subst k1
      rw [e k 13, e (k + 1) 13, e k 5, e (k + 1) 6, if_neg (by omega), if_neg (by omega), if_neg (by omega), if_pos (by omega), occ_nn (by omega)]
      rw [occ_nn (by omega)] at g
      exact g
    · rw [e k 13, e (k + 1) 13, e k 5, e (k + 1) 6, if_neg (by omega), if_neg (by omega), if_neg (by omega), if_neg (by omega)]
      exact g
theorem INV_not {n : Nat} {u : Nat → Int} {R : SL} (h : INV n u R) (m w : Nat) (hw : 1 ≤ w ∧ w ≤ 4) : INV n u (notS R m w) := by
  unfold notS
  exact (h.oth _ (by omega)).oth _ (by omega)
theorem INV_spd {n : Nat} {u : Nat → Int} {R : SL} (h : INV n u R) (m : Nat) : INV n u (spdS n R m) := by
  unfold spdS
  split
  · exact h.oth _ (by omega)
  · split
    · exact h.oth _ (by omega)
    · exact h
theorem INV_wrk {n : Nat} {u : Nat → Int} {R : SL} {m : Nat} (b : Int32) (hu : ∀ k, k < n → u k ≤ 99999) (h : INV n u R) (hm : m < n) : INV n (fun k => if k = m then u k + 1 else u k) (wrkS n b R m) := by
  have hu1 : ∀ k, k < n → (fun k => if k = m then u k + 1 else u k) k ≤ 100000 := fun k hk => by
    have := hu k hk
    show (if k = m then u k + 1 else u k) ≤ 100000
    split <;> omega
  have hm1 : ∀ k, k < n → u k ≤ (fun k => if k = m then u k + 1 else u k) k := fun k hk => by
    show u k ≤ (if k = m then u k + 1 else u k)
    split <;> omega
  unfold wrkS
  split
  · rename_i g
    have d := INV_not (INV_dec h hm g) m 1 (by omega)
    split
    · rename_i g2
      exact INV_rel b hu1 d hm (by rw [not_at _ _ _ (by omega), up2_s]; exact g2)
    · exact d
  · refine (INV_not h m _ ?_).mono hm1
    split <;> omega
theorem INV_tur {n : Nat} {u : Nat → Int} {R : SL} {m : Nat} (b : Int32) (hu : ∀ k, k < n → u k ≤ 99999) (h : INV n u R) (hm : m < n) : INV n (fun k => if k = m ∧ ¬ isD b k then u k + 1 else u k) (turS n b R m) := by
  have hu2 : ∀ k, k < n → u k ≤ 100000 := fun k hk => by have := hu k hk; omega
  unfold turS
  have h1 := INV_spd h m
  split
  · refine (INV_not h1 m 4 (by omega)).mono (fun k hk => ?_)
    show u k ≤ (if k = m ∧ ¬ isD b k then u k + 1 else u k)
    split <;> omega
  · rename_i g
    have h2 : INV n u (rl2S n b (spdS n R m) m) := by
      unfold rl2S
      split
      · rename_i g2
        exact INV_rel b hu2 h1 hm g2
      · exact h1
    have h3 : INV n u (tk2S (rl2S n b (spdS n R m) m) m) := by
      generalize rl2S n b (spdS n R m) m = Q at h2 ⊢
      unfold tk2S
      split
      · rename_i g2
        exact INV_tak h2 hm g2
      · exact h2
    refine (INV_wrk b hu h3 hm).mono (fun k hk => ?_)
    show (if k = m then u k + 1 else u k) ≤ (if k = m ∧ ¬ isD b k then u k + 1 else u k)
    by_cases k1 : k = m
    · subst k1
      rw [if_pos rfl, if_pos ⟨rfl, g⟩]
      omega
    · rw [if_neg k1, if_neg (fun z => k1 z.1)]
      omega
theorem INV_trs {n : Nat} (b : Int32) : ∀ (j : Nat) (u : Nat → Int) (R : SL), j ≤ n → (∀ k, k < n → u k + j ≤ 99999) → INV n u R → INV n (fun k => if k < j ∧ ¬ isD b k then u k + 1 else u k) (trsS n b j R)
  | 0, u, R, hj, hu, h => h.mono (fun k hk => by
      show u k ≤ (if k < 0 ∧ ¬ isD b k then u k + 1 else u k)
      split <;> omega)
  | j + 1, u, R, hj, hu, h => by
    have h1 := INV_tur (m := j) b (fun k hk => by have := hu k hk; omega) h (by omega)
    have h2 := INV_trs b j _ _ (by omega) (fun k hk => by
      have := hu k hk
      show (if k = j ∧ ¬ isD b k then u k + 1 else u k) + (j : Int) ≤ 99999
      split <;> omega) h1
    refine h2.mono (fun k hk => ?_)
    show (if k < j ∧ ¬ isD b k then (if k = j ∧ ¬ isD b k then u k + 1 else u k) + 1 else (if k = j ∧ ¬ isD b k then u k + 1 else u k)) ≤ (if k < j + 1 ∧ ¬ isD b k then u k + 1 else u k)
    by_cases k0 : isD b k
    · rw [if_neg (fun z => z.2 k0), if_neg (fun z => z.2 k0), if_neg (fun z => z.2 k0)]
      omega
    · by_cases k1 : k = j
      · rw [if_neg (show ¬ (k < j ∧ ¬ isD b k) from fun z => by have := z.1; omega), if_pos (show k = j ∧ ¬ isD b k from ⟨k1, k0⟩), if_pos (show k < j + 1 ∧ ¬ isD b k from ⟨by omega, k0⟩)]
        omega
      · rw [if_neg (show ¬ (k = j ∧ ¬ isD b k) from fun z => k1 z.1)]
        by_cases k2 : k < j
        · rw [if_pos (show k < j ∧ ¬ isD b k from ⟨k2, k0⟩), if_pos (show k < j + 1 ∧ ¬ isD b k from ⟨by omega, k0⟩)]
          omega
        · rw [if_neg (show ¬ (k < j ∧ ¬ isD b k) from fun z => k2 z.1), if_neg (show ¬ (k < j + 1 ∧ ¬ isD b k) from fun z => by have := z.1; omega)]
          omega
theorem INV_fls {n : Nat} {u : Nat → Int} : ∀ (k : Nat) (R : SL), INV n u R → INV n u (flsS k R)
  | 0, _, h => h
  | k + 1, R, h => by
    have ih := INV_fls k R h
    show INV n u (fl1S (flsS k R) k)
    unfold fl1S
    split
    · exact ih.oth _ (by omega)
    · exact (ih.oth _ (by omega)).oth _ (by omega)
theorem INV_tic {n : Nat} (b : Int32) {u : Nat → Int} {R : SL} (hn : n ≤ 8) (hu : ∀ k, k < n → u k ≤ 90000) (h : INV n u R) : INV n (fun k => u k + if isD b k then 0 else 1) (ticS n b R) := by
  unfold ticS
  refine INV_fls _ _ ((INV_trs b n u R (Nat.le_refl n) (fun k hk => by have := hu k hk; omega) h).mono (fun k hk => ?_))
  show (if k < n ∧ ¬ isD b k then u k + 1 else u k) ≤ u k + if isD b k then 0 else 1
  by_cases k0 : isD b k
  · rw [if_neg (fun z => z.2 k0), if_pos k0]
    omega
  · rw [if_pos ⟨hk, k0⟩, if_neg k0]
    omega
theorem INV_pas {n p : Nat} {S : SL} (hn : n ≤ 8) : ∀ (j t : Nat) (R : SL), t + j ≤ 10000 → INV n (fun k => (upN S p k t : Int)) R → INV n (fun k => (upN S p k (t + j) : Int)) (pasS n p S j t R)
  | 0, t, R, _, h => h
  | j + 1, t, R, ht, h => by
    have h1 := INV_tic (dbS S (t + 1) p) hn (fun k hk => by
      have := upN_le S p k t
      show (upN S p k t : Int) ≤ 90000
      omega) h
    have h2 : INV n (fun k => (upN S p k (t + 1) : Int)) (ticS n (dbS S (t + 1) p) R) := h1.mono (fun k hk => by
      show (upN S p k t : Int) + (if isD (dbS S (t + 1) p) k then 0 else 1) ≤ ((upN S p k t + if isD (dbS S (t + 1) p) k then 0 else 1 : Nat) : Int)
      by_cases k0 : isD (dbS S (t + 1) p) k
      · rw [if_pos k0, if_pos k0]
        omega
      · rw [if_neg k0, if_neg k0]
        omega)
    have h3 := INV_pas hn j (t + 1) _ (by omega) h2
    rw [show t + (j + 1) = t + 1 + j by omega]
    exact h3
theorem INV_all {n t p m : Nat} {R S : SL} {c : Int32} (hW : WF ((n, t, p), R, S)) : INV n (fun k => (upN S p k 0 : Int)) (allS n (up2 R m 4 c)) := by
  have ein : ∀ k q, k < n → 5 ≤ q → q < 16 → vZ (allS n (up2 R m 4 c)) k q = (emv q).toInt := fun k q h1 h2 h3 => by
    unfold vZ allS
    rw [if_pos ⟨h1, h2, h3⟩]
  have eou : ∀ k q, q < 4 → vZ (allS n (up2 R m 4 c)) k q = vZ R k q := fun k q h1 => by
    unfold vZ allS
    rw [if_neg (by omega), up2_q (by omega)]
  have z5 : (emv 5).toInt = 0 := rfl
  have z6 : (emv 6).toInt = -1 := rfl
  have z13 : (emv 13).toInt = 0 := rfl
  refine ⟨fun k hk => ?_, fun k hk => ?_⟩
  · have hw := hW.2.2.2.1 k hk
    unfold INA
    rw [ein k 6 hk (by omega) (by omega), ein k 13 hk (by omega) (by omega), ein k 5 hk (by omega) (by omega), eou k 0 (by omega), eou k 1 (by omega), z5, z6, z13, prg_n1, Int.mul_zero]
    have h0 : (upN S p k 0 : Int) = 0 := rfl
    unfold vZ
    have a1 : 1 ≤ (R k 1).toInt := hw.1
    have a2 : (R k 1).toInt ≤ (R k 0).toInt := hw.2.1
    have a3 : (R k 0).toInt ≤ 20 := hw.2.2.1
    refine ⟨a1, a2, a3, by omega, by omega, by omega, by omega, ?_⟩
    show (0 : Int) + 0 ≤ (upN S p k 0 : Int)
    rw [h0]
    omega
  · unfold INF
    rw [ein k 13 (by omega) (by omega) (by omega), ein (k + 1) 13 hk (by omega) (by omega), ein k 5 (by omega) (by omega) (by omega), ein (k + 1) 6 hk (by omega) (by omega), z5, z6, z13, occ_n1]
    omega
theorem INV_chain {n : Nat} {u : Nat → Int} {R : SL} (h : INV n u R) : ∀ (d k : Nat), k + d + 1 = n → vZ R (n - 1) 13 ≤ vZ R k 13
  | 0, k, hk => by
    rw [show n - 1 = k by omega]
    omega
  | d + 1, k, hk => by
    have ih := INV_chain h d (k + 1) (by omega)
    have f := h.2 k (by omega)
    have g := (h.1 k (by omega)).2.2.2.2.2.2.1
    unfold INF occZ at f
    split at f <;> omega
theorem md_le {n t p m T k : Nat} {R S : SL} {c : Int32} (hW : WF ((n, t, p), R, S)) (hk : k < n) (hT : T ≤ 2000) : mdW n p R S m c T ≤ mstS S R p T k := by
  have hn : n ≤ 8 := hW.1
  have h0 := INV_pas (p := p) (S := S) hn T 0 _ (by omega) (INV_all (m := m) (c := c) hW)
  rw [Nat.zero_add] at h0
  have hw := hW.2.2.2.1 k hk
  have hch := INV_chain h0 (n - 1 - k) k (by omega)
  have gk := h0.1 k hk
  have gl := h0.1 (n - 1) (by omega)
  have e1 : vZ (pasS n p S T 0 (allS n (up2 R m 4 c))) k 1 = vZ R k 1 := by
    unfold vZ
    rw [KP_pas n p S T 0 _ k 1 (by omega), KP_all n _ k 1 (by omega), up2_q (by omega)]
  unfold INA at gk
  rw [e1] at gk
  have gl13 := gl.2.2.2.2.2.1
  have hup := upN_le S p k T
  unfold mdW outR
  rw [if_neg (by omega)]
  unfold rowW
  generalize pasS n p S T 0 (allS n (up2 R m 4 c)) = Q at *
  have hm : vZ R k 1 * vZ Q (n - 1) 13 ≤ vZ R k 1 * vZ Q k 13 := Int.mul_le_mul_of_nonneg_left hch (by have := gk.1; omega)
  have hp := prg_nn (f := vZ R k 1) (r := vZ Q k 6)
  have hle : vZ R k 1 * vZ Q (n - 1) 13 ≤ (upN S p k T : Int) := by
    have q : vZ R k 1 * vZ Q k 13 + prgZ (vZ R k 1) (vZ Q k 6) ≤ (upN S p k T : Int) := gk.2.2.2.2.2.2.2
    omega
  obtain ⟨a, ha, ea⟩ := nI_of (x := Q (n - 1) 13) (fun z => by
    rw [Int32.lt_iff_toInt_lt, i_0] at z
    unfold vZ at gl13
    omega)
  obtain ⟨f, hf, ef⟩ := nI_of (x := R k 1) (fun z => by
    rw [Int32.lt_iff_toInt_lt, i_0] at z
    have : 1 ≤ (R k 1).toInt := hw.1
    omega)
  have va : vZ Q (n - 1) 13 = (a : Int) := by
    unfold vZ
    rw [ea, nI_toInt ha]
  have vf : vZ R k 1 = (f : Int) := by
    unfold vZ
    rw [ef, nI_toInt hf]
  rw [va, vf, ← Int.natCast_mul] at hle
  have hle2 : f * a ≤ upN S p k T := Int.ofNat_le.mp hle
  have hf1 : 1 ≤ f := by
    have := gk.1
    rw [vf] at this
    omega
  unfold mstS
  rw [ea, ef, pk_div (by omega) (by omega) hf]
  have hd : a ≤ upN S p k T / f := (Nat.le_div_iff_mul_le (by omega)).mpr (by rw [Nat.mul_comm]; exact hle2)
  have hq : upN S p k T / f ≤ upN S p k T := Nat.div_le_self _ _
  exact nI_le hd (by omega)
