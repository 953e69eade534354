/-! THE MEANING, 9: call against call: what changes the line -/
def codB (k : Nat) : Nat := if k = 1 then 3 else if k = 2 then 1 else 0
def codC (k : Nat) : Nat := if k = 1 then 3 else if k = 2 then 1 else 2
theorem CL.put {n t p m c : Nat} {L R S : SL} (hm : m < 8) (h : CL n t p L R S) (v : Int32) : CL n t p (up2 L (2 + m) c v) (up2 R m c v) S := by
  obtain ⟨h2, h3, hp, hR, hS⟩ := h
  refine ⟨by rw [up2_q (by omega)]; exact h2, by rw [up2_q (by omega)]; exact h3, by rw [up2_q (by omega)]; exact hp, hR.put _ _ _, fun k hk => ?_⟩
  rw [up2_q (by omega), up2_q (by omega), up2_q (by omega)]
  exact hS k hk
theorem ML.put {n t p m c : Nat} {M R S : SL} (hm : m < 8) (hc : c < 16) (h : ML n t p M R S) (v : Int32) : ML n t p (up2 M 1 (3 + 16 * m + c) v) (up2 R m c v) S := by
  obtain ⟨h0, h1, h2, hR, hS⟩ := h
  exact ⟨by rw [up2_q (by omega)]; exact h0, by rw [up2_q (by omega)]; exact h1, by rw [up2_q (by omega)]; exact h2, hR.put m hc v, fun k w hk hw => by rw [up2_q (by omega)]; exact hS k w hk hw⟩
theorem WR.put {n m c : Nat} {R : SL} {v : Int32} (h : WR n R) (hc : c ≠ 0 ∧ c ≠ 1 ∧ c ≠ 4) : WR n (up2 R m c v) := fun q hq => by
  rw [up2_q (by omega), up2_q (by omega), up2_q (by omega)]
  exact h q hq
theorem i_20 : (20 : Int32).toInt = 20 := rfl
theorem i_40 : (40 : Int32).toInt = 40 := rfl
theorem WF_set {n t p m : Nat} {R S : SL} {a b c d : Int32} (h : WF ((n, t, p), R, S)) (hm : m < n) (hc : cyc a b) : WF ((n, t, p), up2 (up2 (up2 (up2 R m 0 a) m 1 b) m 2 c) m 3 d, S) := by
  obtain ⟨h1, h2, h3, h4, h5, h6, h7⟩ := h
  obtain ⟨⟨a1, a2⟩, b1, b2⟩ := hc
  rw [Int32.le_iff_toInt_le] at a1 a2 b1 b2
  rw [i_1] at a1 b1
  rw [i_20] at a2
  refine ⟨h1, h2, h3, fun q hq => ?_, fun q hq => ?_, h6, h7.ki ((((KI.rf.put (by omega)).put (by omega)).put (by omega)).put (by omega))⟩
  · have := h4 q hq
    show 1 ≤ (up2 (up2 (up2 (up2 R m 0 a) m 1 b) m 2 c) m 3 d q 1).toInt ∧ (up2 (up2 (up2 (up2 R m 0 a) m 1 b) m 2 c) m 3 d q 1).toInt ≤ (up2 (up2 (up2 (up2 R m 0 a) m 1 b) m 2 c) m 3 d q 0).toInt ∧ (up2 (up2 (up2 (up2 R m 0 a) m 1 b) m 2 c) m 3 d q 0).toInt ≤ 20 ∧ 0 ≤ (up2 (up2 (up2 (up2 R m 0 a) m 1 b) m 2 c) m 3 d q 4).toInt ∧ (up2 (up2 (up2 (up2 R m 0 a) m 1 b) m 2 c) m 3 d q 4).toInt ≤ 40
    have e4 : up2 (up2 (up2 (up2 R m 0 a) m 1 b) m 2 c) m 3 d q 4 = R q 4 := by rw [up2_q (by omega), up2_q (by omega), up2_q (by omega), up2_q (by omega)]
    have e1 : up2 (up2 (up2 (up2 R m 0 a) m 1 b) m 2 c) m 3 d q 1 = if q = m then b else R q 1 := by
      rw [up2_q (by omega), up2_q (by omega), up2_ap]
      by_cases e : q = m
      · rw [if_pos ⟨e, rfl⟩, if_pos e]
      · rw [if_neg (fun z => e z.1), if_neg e, up2_q (by omega)]
    have e0 : up2 (up2 (up2 (up2 R m 0 a) m 1 b) m 2 c) m 3 d q 0 = if q = m then a else R q 0 := by
      rw [up2_q (by omega), up2_q (by omega), up2_q (by omega), up2_ap]
      by_cases e : q = m
      · rw [if_pos ⟨e, rfl⟩, if_pos e]
      · rw [if_neg (fun z => e z.1), if_neg e]
    rw [e4, e1, e0]
    by_cases e : q = m
    · rw [if_pos e, if_pos e]
      exact ⟨b1, b2, a2, this.2.2.2⟩
    · rw [if_neg e, if_neg e]
      exact this
  · exact FN_oth (FN_oth (FN_oth (FN_oth h5 _ (by omega)) _ (by omega)) _ (by omega)) _ (by omega) q hq
theorem s_setMachine {Ls : Nat → SL} {Hs T M : SL} (h : SS Ls Hs T M) (x1 x2 x3 x4 x5 : Int32) : R2 codB Ls Hs T (f_X5_setMachine Ls Hs x1 x2 x3 x4 x5) (f_X6_setMachine M x1 x2 x3 x4 x5) := by
  have h' := h
  obtain ⟨⟨⟨n, t, p⟩, R, S⟩, hA, cA, mA, hF⟩ := h
  have hn : n ≤ 8 := hA.1
  have c0 : CL n t p (Ls 0) R S := cA
  have m0 : ML n t p M R S := mA
  unfold f_X5_setMachine f_X6_setMachine f_X6_setMachine_b35 f_X5_setMachine_b35 f_X6_setMachine_b36
  rw [m_need hn m0.1, bd_s]
  rw [c_cycs, m_cycs, m_mrk, is_in, is_in]
  simp only [lt_n, bd_s, m_ref0, m_ref1, m_ref2, bd2_s, i00, i10, if_true, if_false]
  rcases c_need hn c0.1 x1 with ⟨m, rfl, hm, e⟩ | ⟨hno, e⟩
  · rw [e, bd_s]
    simp only [sx, bI0t ((m_isM hn (nI m)).mpr ⟨m, rfl, hm⟩), not_false_eq_true, if_true]
    by_cases g1 : cyc x2 x3
    · by_cases g2 : 0 ≤ x5 ∧ x5 ≤ 40
      · by_cases g3 : 0 ≤ x4 ∧ x4 ≤ x5
        · simp only [bI0t g1, bI0t g2, bI0t g3, bI0t (show mrk x4 x5 from ⟨g2, g3⟩), if_false, if_true, not_false_eq_true]
          obtain ⟨Ls', Hs', M', e1, e2, d1, d2, d3, d4, d5, d6⟩ := kept hA cA mA hF 0
          have d1' : CL n t p (Ls' 0) R S := d1
          have d2' : ML n t p M' R S := d2
          rw [e1, e2, bd2_s, bd_s, n_chk (by omega) (by omega), gd_n, nI_clamp (by omega), va_0, va_0, m_of, bd_s]
          obtain ⟨L2, e3, j1⟩ := c_mark (m := m) hn hm ((d1'.put (m := m) (c := 0) (by omega) x2).put (m := m) (c := 1) (by omega) x3) x4 x5
          rw [e3, bd_s, d1'.2.2.2.1 m 1 hm (by omega)]
          simp (disch := omega) only [n_lit, n_chk, gd_n, nI_clamp]
          rw [d2'.2.2.2.1 m 1 hm (by omega)]
          have j2 := (((d2'.put (m := m) (c := 0) (by omega) (by omega) x2).put (m := m) (c := 1) (by omega) (by omega) x3).put (m := m) (c := 2) (by omega) (by omega) x4).put (m := m) (c := 3) (by omega) (by omega) x5
          exact ⟨R m 1, _, rfl, Or.inl ⟨by rw [up2_q (by omega), up2_q (by omega), up2_q (by omega), up2_q (by omega)]; exact d3, _, _, rfl, ((n, t, p), up2 (up2 (up2 (up2 R m 0 x2) m 1 x3) m 2 x4) m 3 x5, S), WF_set hA hm g1, by rw [va_0]; exact j1, j2, (d4.cls (fun q hq => by rw [va_up_ne _ _ (by omega), va_up_ne _ _ (by omega), va_up_ne _ _ (by omega)])).k1 ((((K1.rf.put _ _).put _ _).put _ _).put _ _)⟩⟩
        · simp only [bI0t g1, bI0t g2, bI0f g3, bI0f (show ¬ mrk x4 x5 from fun z => g3 z.2), if_false, if_true, not_true_eq_false]
          exact ⟨0, _, rfl, Or.inr ⟨2, Or.inr (Or.inl ⟨rfl, by decide⟩), rfl, up2_s _ _ _ _, h'.ref _⟩⟩
      · simp only [bI0t g1, bI0f g2, bI0f (show ¬ mrk x4 x5 from fun z => g2 z.1), if_false, if_true]
        exact ⟨0, _, rfl, Or.inr ⟨2, Or.inr (Or.inl ⟨rfl, by decide⟩), rfl, up2_s _ _ _ _, h'.ref _⟩⟩
    · simp only [bI0f g1, if_true]
      exact ⟨0, _, rfl, Or.inr ⟨2, Or.inr (Or.inl ⟨rfl, by decide⟩), rfl, up2_s _ _ _ _, h'.ref _⟩⟩
  · rw [e, bd_s]
    simp only [sx, bI0f (fun z => hno ((m_isM hn x1).mp z)), not_true_eq_false, if_false]
    exact ⟨0, _, rfl, Or.inr ⟨1, Or.inl rfl, rfl, up2_s _ _ _ _, h'.ref _⟩⟩
theorem WF_cap {n t p m : Nat} {R S : SL} {a : Int32} (h : WF ((n, t, p), R, S)) (ha : 0 ≤ a ∧ a ≤ 40) : WF ((n, t, p), up2 R m 4 a, S) := by
  obtain ⟨h1, h2, h3, h4, h5, h6, h7⟩ := h
  obtain ⟨a1, a2⟩ := ha
  rw [Int32.le_iff_toInt_le] at a1 a2
  rw [i_0] at a1
  rw [i_40] at a2
  refine ⟨h1, h2, h3, fun q hq => ?_, fun q hq => ?_, h6, h7.ki (KI.rf.put (by omega))⟩
  · have g := h4 q hq
    show 1 ≤ (up2 R m 4 a q 1).toInt ∧ (up2 R m 4 a q 1).toInt ≤ (up2 R m 4 a q 0).toInt ∧ (up2 R m 4 a q 0).toInt ≤ 20 ∧ 0 ≤ (up2 R m 4 a q 4).toInt ∧ (up2 R m 4 a q 4).toInt ≤ 40
    rw [up2_q (by omega), up2_q (by omega)]
    by_cases e : q = m
    · subst e
      rw [up2_s]
      exact ⟨g.1, g.2.1, g.2.2.1, a1, a2⟩
    · rw [up2_q (by omega)]
      exact g
  · have g := h5 q hq
    show 0 ≤ (up2 R m 4 a q 5).toInt ∧ (up2 R m 4 a q 5).toInt ≤ 40 ∧ (up2 R m 4 a q 4).toInt ≤ 40
    rw [up2_q (by omega)]
    by_cases e : q = m
    · subst e
      rw [up2_s]
      exact ⟨g.1, g.2.1, a2⟩
    · rw [up2_q (by omega)]
      exact g
theorem s_setCapacity {Ls : Nat → SL} {Hs T M : SL} (h : SS Ls Hs T M) (x1 x2 : Int32) : R2 codB Ls Hs T (f_X5_setCapacity Ls Hs x1 x2) (f_X6_setCapacity M x1 x2) := by
  have h' := h
  obtain ⟨⟨⟨n, t, p⟩, R, S⟩, hA, cA, mA, hF⟩ := h
  have hn : n ≤ 8 := hA.1
  have c0 : CL n t p (Ls 0) R S := cA
  have m0 : ML n t p M R S := mA
  unfold f_X5_setCapacity f_X6_setCapacity f_X6_setCapacity_b25
  rw [m_need hn m0.1, bd_s, m_capa, is_in]
  simp only [lt_n, bd_s, m_ref0, m_ref1, m_ref2, bd2_s, i00, i10, if_true, if_false]
  rcases c_need hn c0.1 x1 with ⟨m, rfl, hm, e⟩ | ⟨hno, e⟩
  · rw [e, bd_s]
    simp only [sx, bI0t ((m_isM hn (nI m)).mpr ⟨m, rfl, hm⟩), not_false_eq_true, if_true]
    by_cases g2 : 0 ≤ x2 ∧ x2 ≤ 40
    · simp only [bI0t g2, if_false, if_true, not_false_eq_true]
      obtain ⟨Ls', Hs', M', e1, e2, d1, d2, d3, d4, d5, d6⟩ := kept hA cA mA hF 0
      have d1' : CL n t p (Ls' 0) R S := d1
      have d2' : ML n t p M' R S := d2
      rw [e1, e2, bd2_s, bd_s, n_chk (by omega) (by omega), gd_n, nI_clamp (by omega), m_of, bd_s, bd_s, d1'.2.2.2.1 m 4 hm (by omega)]
      simp (disch := omega) only [n_lit, n_chk, gd_n, nI_clamp]
      rw [d2'.2.2.2.1 m 4 hm (by omega)]
      exact ⟨R m 4, _, rfl, Or.inl ⟨by rw [up2_q (by omega)]; exact d3, _, _, rfl, ((n, t, p), up2 R m 4 x2, S), WF_cap hA g2, by rw [va_0]; exact d1'.put (by omega) x2, d2'.put (by omega) (by omega) x2, (d4.cls (fun q hq => va_up_ne _ _ (by omega))).k1 (K1.rf.put _ _)⟩⟩
    · simp only [bI0f g2, if_false, if_true, not_true_eq_false]
      exact ⟨0, _, rfl, Or.inr ⟨2, Or.inr (Or.inl ⟨rfl, by decide⟩), rfl, up2_s _ _ _ _, h'.ref _⟩⟩
  · rw [e, bd_s]
    simp only [sx, bI0f (fun z => hno ((m_isM hn x1).mp z)), not_true_eq_false, if_false]
    exact ⟨0, _, rfl, Or.inr ⟨1, Or.inl rfl, rfl, up2_s _ _ _ _, h'.ref _⟩⟩
theorem i_200 : (200 : Int32).toInt = 200 := rfl
theorem i_10000 : (10000 : Int32).toInt = 10000 := rfl
theorem WF_pla {n t p : Nat} {R S : SL} {a b c : Int32} (h : WF ((n, t, p), R, S)) (hp : p < 40) (hb : 1 ≤ b.toInt ∧ b.toInt ≤ 10000) (hc : 1 ≤ c.toInt ∧ c.toInt ≤ 200) : WF ((n, t, p + 1), R, plaS S p a b c) := by
  obtain ⟨h1, h2, h3, h4, h5, h6, h7⟩ := h
  refine ⟨h1, h2, by show p + 1 ≤ 40; omega, h4, h5, fun k hk => ?_, h7⟩
  show 1 ≤ (plaS S p a b c k 1).toInt ∧ (plaS S p a b c k 1).toInt ≤ 10000 ∧ 1 ≤ (plaS S p a b c k 2).toInt ∧ (plaS S p a b c k 2).toInt ≤ 200
  unfold plaS
  by_cases e : k = p
  · subst e
    rw [up2_s, up2_q (by omega), up2_s]
    exact ⟨hb.1, hb.2, hc.1, hc.2⟩
  · rw [up2_q (by omega), up2_q (by omega), up2_q (by omega), up2_q (by omega), up2_q (by omega), up2_q (by omega)]
    exact h6 k (show k < p by have : k < p + 1 := hk; omega)
theorem s_addStop {Ls : Nat → SL} {Hs T M : SL} (h : SS Ls Hs T M) (x1 x2 x3 : Int32) : R2 codC Ls Hs T (f_X5_addStop Ls Hs x1 x2 x3) (f_X6_addStop M x1 x2 x3) := by
  have h' := h
  obtain ⟨⟨⟨n, t, p⟩, R, S⟩, hA, cA, mA, hF⟩ := h
  have hn : n ≤ 8 := hA.1
  have ht : t ≤ 10000 := hA.2.1
  have hp : p ≤ 40 := hA.2.2.1
  have c0 : CL n t p (Ls 0) R S := cA
  have m0 : ML n t p M R S := mA
  have sp : ¬ p < 40 → nI p = 40 := fun g => by rw [show p = 40 by omega]; rfl
  unfold f_X5_addStop f_X6_addStop f_X6_addStop_b33 f_X6_addStop_b34 f_X6_addStop_b74 f_X5_addStop_b34
  rw [m_need hn m0.1]
  simp only [lt_n, bd_s, m_ref0, m_ref1, m_ref2, m_ref3, bd2_s, is_in, m_in, i00, i10, if_true, if_false]
  rw [c0.2.1, m0.2.1, m0.2.2.1, nI_1]
  rcases c_need hn c0.1 x1 with ⟨m, rfl, hm, e⟩ | ⟨hno, e⟩
  · rw [e, bd_s]
    simp only [sx, bI0t ((m_isM hn (nI m)).mpr ⟨m, rfl, hm⟩), not_false_eq_true, not_true_eq_false, if_true, if_false]
    by_cases g1 : nI (t + 1) ≤ x2 ∧ x2 ≤ 10000
    · have q1 : ¬ x2 ≤ nI t := fun z => by
        have := (nI_leI (a := t + 1) (b := t) (by omega) (by omega)).mp (i_lele g1.1 z)
        omega
      by_cases g2 : 1 ≤ x3 ∧ x3 ≤ 200
      · simp only [bI0t g1, bI0t g2, if_neg q1, if_neg (i_nlt g1.2), not_false_eq_true, if_true, if_false]
        rw [c0.2.2.1]
        by_cases g3 : p < 40
        · simp only [show (nI p < 40) = True from eq_true (nI_lt (a := p) (b := 40) g3 (by omega)), show (nI p = 40) = False from eq_false (fun z => absurd ((nI_eq (a := p) (b := 40) (by omega) (by omega)).mp z) (by omega)), not_false_eq_true, if_true]
          obtain ⟨Ls', Hs', M', e1, e2, d1, d2, d3, d4, d5, d6⟩ := kept hA cA mA hF 0
          obtain ⟨L2, e3, j1⟩ := c_plan (L := Ls' 0) hn g3 d1 (nI m) x2 x3
          obtain ⟨M2, e4, j2, j3⟩ := m_plans (M := M') hn g3 d2 (nI m) x2 x3
          rw [e1, e2, bd2_s, bd_s, e3, bd_s, e4, bd_s, j2.2.2.1, va_0, j1.2.2.1]
          have w2 : 1 ≤ x2.toInt ∧ x2.toInt ≤ 10000 := by
            have z := g1
            rw [Int32.le_iff_toInt_le, Int32.le_iff_toInt_le, nI_toInt (by omega), i_10000] at z
            omega
          have w3 : 1 ≤ x3.toInt ∧ x3.toInt ≤ 200 := by
            have z := g2
            rw [Int32.le_iff_toInt_le, Int32.le_iff_toInt_le, i_1, i_200] at z
            exact z
          exact ⟨nI (p + 1), M2, rfl, Or.inl ⟨by rw [j3 0 (by omega)]; exact d3, _, _, rfl, ((n, t, p + 1), R, plaS S p (nI m) x2 x3), WF_pla hA g3 w2 w3, by rw [va_0]; exact j1, j2, (d4.cls (fun q hq => va_up_ne _ _ (by omega))).k1 j3⟩⟩
        · simp only [show (nI p < 40) = False from eq_false (by rw [sp g3]; decide), show (nI p = 40) = True from eq_true (sp g3), not_true_eq_false, if_false]
          exact ⟨0, _, rfl, Or.inr ⟨3, Or.inr (Or.inr ⟨rfl, rfl, rfl⟩), rfl, up2_s _ _ _ _, h'.ref _⟩⟩
      · simp only [bI0t g1, bI0f g2, if_neg q1, if_neg (i_nlt g1.2), not_true_eq_false, if_true, if_false]
        exact ⟨0, _, rfl, Or.inr ⟨2, Or.inr (Or.inl ⟨rfl, by decide⟩), rfl, up2_s _ _ _ _, h'.ref _⟩⟩
    · simp only [bI0f g1, if_true]
      by_cases q1 : x2 ≤ nI t
      · simp only [if_pos q1]
        exact ⟨0, _, rfl, Or.inr ⟨2, Or.inr (Or.inl ⟨rfl, by decide⟩), rfl, up2_s _ _ _ _, h'.ref _⟩⟩
      · have q2 : 10000 < x2 := i_lt (fun z => g1 ⟨by
          rw [Int32.le_iff_toInt_le] at q1 ⊢
          rw [nI_toInt (by omega)] at q1 ⊢
          omega, z⟩)
        simp only [if_neg q1, if_pos q2]
        exact ⟨0, _, rfl, Or.inr ⟨2, Or.inr (Or.inl ⟨rfl, by decide⟩), rfl, up2_s _ _ _ _, h'.ref _⟩⟩
  · rw [e, bd_s]
    simp only [sx, bI0f (fun z => hno ((m_isM hn x1).mp z)), not_true_eq_false, if_false, ite_self]
    exact ⟨0, _, rfl, Or.inr ⟨1, Or.inl rfl, rfl, up2_s _ _ _ _, h'.ref _⟩⟩
