/-! THE MEANING, 9: call against call: what changes the line -/
def codB (k : Nat) : Nat := if k = 1 then 3 else if k = 2 then 1 else 0
def codC (k : Nat) : Nat := if k = 1 then 3 else if k = 2 then 1 else 2
theorem CL.put {n t p m c : Nat} {L R S : SL} (hm : m < 8) (h : CL n t p L R S) (v : Int32) : CL n t p (up2 L (2 + m) c v) (up2 R m c v) S := by
  obtain ⟨h2, h3, hp, hR, hS⟩ := h
  refine ⟨by rw [up2_q (by omega)]; exact h2, by rw [up2_q (by omega)]; exact h3, by rw [up2_q (by omega)]; exact hp, hR.put _ _ _, fun k hk => ?_⟩
  rw [up2_q (by omega), up2_q (by omega), up2_q (by omega)]
  exact hS k hk
theorem WR.put {n m c : Nat} {R : SL} {v : Int32} (h : WR n R) (hc : c ≠ 0 ∧ c ≠ 1 ∧ c ≠ 4) : WR n (up2 R m c v) := fun q hq => by
  rw [up2_q (by omega), up2_q (by omega), up2_q (by omega)]
  exact h q hq
theorem i_20 : (20 : Int32).toInt = 20 := rfl
theorem i_40 : (40 : Int32).toInt = 40 := rfl
theorem WF_set {n t p m : Nat} {R S : SL} {a b c d : Int32} (h : WF ((n, t, p), R, S)) (hm : m < n) (hc : cyc a b) : WF ((n, t, p), up2 (up2 (up2 (up2 R m 0 a) m 1 b) m 2 c) m 3 d, S) := by
  obtain ⟨h1, h2, h3, h4, h5, h6, h7⟩ := h
  obtain ⟨⟨a1, a2⟩, b1, b2⟩ := hc
  rw [Int32.le_iff_toInt_le] at a1 a2 b1 b2
  rw [i_1] at a1 b1
  rw [i_20] at a2
  refine ⟨h1, h2, h3, fun q hq => ?_, fun q hq => ?_, h6, h7.ki ((((KI.rf.put (by omega)).put (by omega)).put (by omega)).put (by omega))⟩
  · have := h4 q hq
    show 1 ≤ (up2 (up2 (up2 (up2 R m 0 a) m 1 b) m 2 c) m 3 d q 1).toInt ∧ (up2 (up2 (up2 (up2 R m 0 a) m 1 b) m 2 c) m 3 d q 1).toInt ≤ (up2 (up2 (up2 (up2 R m 0 a) m 1 b) m 2 c) m 3 d q 0).toInt ∧ (up2 (up2 (up2 (up2 R m 0 a) m 1 b) m 2 c) m 3 d q 0).toInt ≤ 20 ∧ 0 ≤ (up2 (up2 (up2 (up2 R m 0 a) m 1 b) m 2 c) m 3 d q 4).toInt ∧ (up2 (up2 (up2 (up2 R m 0 a) m 1 b) m 2 c) m 3 d q 4).toInt ≤ 40
    have e4 : up2 (up2 (up2 (up2 R m 0 a) m 1 b) m 2 c) m 3 d q 4 = R q 4 := by rw [up2_q (by omega), up2_q (by omega), up2_q (by omega), up2_q (by omega)]
    have e1 : up2 (up2 (up2 (up2 R m 0 a) m 1 b) m 2 c) m 3 d q 1 = if q = m then b else R q 1 := by
      rw [up2_q (by omega), up2_q (by omega), up2_ap]
      by_cases e : q = m
      · rw [if_pos ⟨e, rfl⟩, if_pos e]
      · rw [if_neg (fun z => e z.1), if_neg e, up2_q (by omega)]
    have e0 : up2 (up2 (up2 (up2 R m 0 a) m 1 b) m 2 c) m 3 d q 0 = if q = m then a else R q 0 := by
      rw [up2_q (by omega), up2_q (by omega), up2_q (by omega), up2_ap]
      by_cases e : q = m
      · rw [if_pos ⟨e, rfl⟩, if_pos e]
      · rw [if_neg (fun z => e z.1), if_neg e]
    rw [e4, e1, e0]
    by_cases e : q = m
    · rw [if_pos e, if_pos e]
      exact ⟨b1, b2, a2, this.2.2.2⟩
    · rw [if_neg e, if_neg e]
      exact this
  · exact FN_oth (FN_oth (FN_oth (FN_oth h5 _ (by omega)) _ (by omega)) _ (by omega)) _ (by omega) q hq
theorem WF_cap {n t p m : Nat} {R S : SL} {a : Int32} (h : WF ((n, t, p), R, S)) (ha : 0 ≤ a ∧ a ≤ 40) : WF ((n, t, p), up2 R m 4 a, S) := by
  obtain ⟨h1, h2, h3, h4, h5, h6, h7⟩ := h
  obtain ⟨a1, a2⟩ := ha
  rw [Int32.le_iff_toInt_le] at a1 a2
  rw [i_0] at a1
  rw [i_40] at a2
  refine ⟨h1, h2, h3, fun q hq => ?_, fun q hq => ?_, h6, h7.ki (KI.rf.put (by omega))⟩
  · have g := h4 q hq
    show 1 ≤ (up2 R m 4 a q 1).toInt ∧ (up2 R m 4 a q 1).toInt ≤ (up2 R m 4 a q 0).toInt ∧ (up2 R m 4 a q 0).toInt ≤ 20 ∧ 0 ≤ (up2 R m 4 a q 4).toInt ∧ (up2 R m 4 a q 4).toInt ≤ 40
    rw [up2_q (by omega), up2_q (by omega)]
    by_cases e : q = m
    · subst e
      rw [up2_s]
      exact ⟨g.1, g.2.1, g.2.2.1, a1, a2⟩
    · rw [up2_q (by omega)]
      exact g
  · have g := h5 q hq
    show 0 ≤ (up2 R m 4 a q 5).toInt ∧ (up2 R m 4 a q 5).toInt ≤ 40 ∧ (up2 R m 4 a q 4).toInt ≤ 40
    rw [up2_q (by omega)]
    by_cases e : q = m
    · subst e
      rw [up2_s]
      exact ⟨g.1, g.2.1, a2⟩
    · rw [up2_q (by omega)]
      exact g
theorem i_200 : (200 : Int32).toInt = 200 := rfl
theorem i_10000 : (10000 : Int32).toInt = 10000 := rfl
theorem WF_pla {n t p : Nat} {R S : SL} {a b c : Int32} (h : WF ((n, t, p), R, S)) (hp : p < 40) (hb : 1 ≤ b.toInt ∧ b.toInt ≤ 10000) (hc : 1 ≤ c.toInt ∧ c.toInt ≤ 200) : WF ((n, t, p + 1), R, plaS S p a b c) := by
  obtain ⟨h1, h2, h3, h4, h5, h6, h7⟩ := h
  refine ⟨h1, h2, by show p + 1 ≤ 40; omega, h4, h5, fun k hk => ?_, h7⟩
  show 1 ≤ (plaS S p a b c k 1).toInt ∧ (plaS S p a b c k 1).toInt ≤ 10000 ∧ 1 ≤ (plaS S p a b c k 2).toInt ∧ (plaS S p a b c k 2).toInt ≤ 200
  unfold plaS
  by_cases e : k = p
  · subst e
    rw [up2_s, up2_q (by omega), up2_s]
    exact ⟨hb.1, hb.2, hc.1, hc.2⟩
  · rw [up2_q (by omega), up2_q (by omega), up2_q (by omega), up2_q (by omega), up2_q (by omega), up2_q (by omega)]
    exact h6 k (show k < p by have : k < p + 1 := hk; omega)
