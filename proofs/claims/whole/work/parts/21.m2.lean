/-! THE MEANING, 2: the reference's rows; a tick -/
def RM (n : Nat) (M R : SL) : Prop := ∀ m c : Nat, m < n → c < 16 → M 1 (3 + 16 * m + c) = R m c
theorem RM.put {n : Nat} {M R : SL} (h : RM n M R) (m : Nat) {c : Nat} (hc : c < 16) (v : Int32) : RM n (up2 M 1 (3 + 16 * m + c) v) (up2 R m c v) := by
  intro m' c' hm hc'
  rw [up2_ap, up2_ap]
  by_cases e : m' = m ∧ c' = c
  · rw [if_pos (by omega), if_pos e]
  · rw [if_neg (by omega), if_neg e]
    exact h m' c' hm hc'
/-- what of the reference stays: all cells but the row, and of the row all but the machines -/
def KM (M M' : SL) : Prop := (∀ k, k ≠ 1 → M' k = M k) ∧ ∀ j, (j < 3 ∨ 131 ≤ j) → M' 1 j = M 1 j
theorem KM.rf {M : SL} : KM M M := ⟨fun _ _ => rfl, fun _ _ => rfl⟩
theorem KM.tr {A B C : SL} (h : KM A B) (h2 : KM B C) : KM A C := ⟨fun k hk => (h2.1 k hk).trans (h.1 k hk), fun j hj => (h2.2 j hj).trans (h.2 j hj)⟩
theorem KM.put {A M : SL} (h : KM A M) {m c : Nat} {v : Int32} (hm : m < 8) (hc : c < 16) : KM A (up2 M 1 (3 + 16 * m + c) v) := ⟨fun k hk => (up2_row hk).trans (h.1 k hk), fun j hj => by rw [up2_ap, if_neg (by omega)]; exact h.2 j hj⟩
theorem m_of (m : Nat) : f_X6_of (nI m) = some (nI (3 + 16 * m)) := by
  unfold f_X6_of
  simp only [lt_e, n_lit]
theorem m_cyc {n m : Nat} {M R : SL} (hn : n ≤ 8) (hm : m < n) (hR : RM n M R) : f_X6_cycle M (nI (3 + 16 * m)) = some (cyS R m) := by
  unfold f_X6_cycle cyS
  simp (disch := omega) only [lt_e, n_chk, gd_t, nI_clamp, n_lit]
  rw [hR m 7 hm (by omega), show M 1 (3 + 16 * m) = R m 0 from hR m 0 hm (by omega), hR m 1 hm (by omega)]
  by_cases h : R m 7 = 1
  · rw [if_neg (fun q => q h), if_pos h]
  · rw [if_pos h, if_neg h]
theorem m_isD (M : SL) {m t : Nat} (ht : t ≤ 10000) : f_X6_isDown M (nI m) (nI t) = some (if isD (M 5 t) m then 1 else 0) := by
  unfold f_X6_isDown
  simp (disch := omega) only [lt_e, n_chk, gd_t, nI_clamp]
  by_cases h : isD (M 5 t) m
  · rw [if_neg (fun q => q h), if_pos h]
  · rw [if_pos h, if_neg h]
theorem m_out {n m : Nat} {M R : SL} (hn : n ≤ 8) (hm : m < n) (hR : RM n M R) : ∃ M', f_X6_leaves_b118 M (nI (3 + 16 * m)) 1 = some M' ∧ RM n M' (outS R m) ∧ KM M M' := by
  refine ⟨up2 (up2 M 1 (3 + 16 * m + 6) (-1)) 1 (3 + 16 * m + 13) (M 1 (3 + 16 * m + 13) + 1), ?_, ?_, (KM.rf.put (by omega) (by omega)).put (by omega) (by omega)⟩
  · unfold f_X6_leaves_b118
    rw [if_neg (by decide)]
    simp (disch := omega) only [lt_e, n_chk, gd_t, nI_clamp, n_lit]
    rw [show 3 + 16 * m + 9 + 4 = 3 + 16 * m + 13 by omega, up2_ap, if_neg (by omega)]
  · unfold outS
    rw [hR m 13 hm (by omega)]
    exact (hR.put _ (by omega) _).put _ (by omega) _
theorem m_b118z (M : SL) (x : Int32) : f_X6_leaves_b118 M x 0 = some M := by
  unfold f_X6_leaves_b118
  simp only [if_true]
theorem m_b81g (M : SL) (x3 x5 i5 i4 : Int32) (j5 j4 : Nat) (e5 : x3 + 5 = i5) (e4 : x3 + 4 = i4) (c5 : chk i5 251 = true) (c4 : chk i4 251 = true) (n5 : i5.toNatClampNeg = j5) (n4 : i4.toNatClampNeg = j4) : f_X6_leaves_b81 M x3 x5 = if M 1 j4 ≤ M 1 j5 then some M else f_X6_leaves_b118 (up2 M 1 j5 (M 1 j5 + 1)) x3 x5 := by
  unfold f_X6_leaves_b81
  simp only [lt_e]
  rw [e5, e4, c5, gd_t, c4, gd_t, gd_t, n5, n4, m_b118z]
theorem m_b81 {M : SL} {m : Nat} (hm : m < 8) : f_X6_leaves_b81 M (nI (3 + 16 * m)) 1 = if M 1 (3 + 16 * m + 4) ≤ M 1 (3 + 16 * m + 5) then some M else f_X6_leaves_b118 (up2 M 1 (3 + 16 * m + 5) (M 1 (3 + 16 * m + 5) + 1)) (nI (3 + 16 * m)) 1 :=
  m_b81g M _ _ _ _ _ _ (nI_add _ 5) (nI_add _ 4) (n_chk (by omega) (by omega)) (n_chk (by omega) (by omega)) (nI_clamp (by omega)) (nI_clamp (by omega))
theorem m_rel81 {n m : Nat} {M R : SL} (hn : n ≤ 8) (hm : m < n) (hR : RM n M R) : ∃ M', f_X6_leaves_b81 M (nI (3 + 16 * m)) 1 = some M' ∧ RM n M' (if R m 5 < R m 4 then outS (up2 R m 5 (R m 5 + 1)) m else R) ∧ KM M M' := by
  rw [m_b81 (by omega), hR m 4 hm (by omega), hR m 5 hm (by omega)]
  by_cases h : R m 4 ≤ R m 5
  · rw [if_pos h, if_neg (i_nlt h)]
    exact ⟨M, rfl, hR, KM.rf⟩
  · rw [if_neg h, if_pos (i_lt h)]
    obtain ⟨M', e, h1, h2⟩ := m_out hn hm (hR.put m (c := 5) (by omega) (R m 5 + 1))
    have k9 : KM M (up2 M 1 (3 + 16 * m + 5) (R m 5 + 1)) := KM.rf.put (by omega) (by omega)
    exact ⟨M', e, h1, k9.tr h2⟩
theorem m_rel {n m t : Nat} {M R : SL} (hn : n ≤ 8) (hm : m < n) (ht : t ≤ 10000) (h2 : M 1 0 = nI n) (hR : RM n M R) : ∃ M', f_X6_leaves M (nI m) (nI t) = some M' ∧ RM n M' (relS n (M 5 t) R m) ∧ KM M M' := by
  unfold f_X6_leaves relS
  rw [m_of, bd_s]
  simp (disch := omega) only [lt_e, n_chk, gd_t, nI_clamp, h2, n_lit, nI_leI]
  by_cases h1 : m + 1 < n
  · rw [if_neg (by omega), if_pos h1]
    rw [show 3 + 16 * m + 16 + 6 = 3 + 16 * (m + 1) + 6 by omega, show 3 + 16 * m + 16 = 3 + 16 * (m + 1) by omega]
    rw [hR m 5 hm (by omega), hR (m + 1) 6 h1 (by omega), m_isD M ht]
    by_cases a1 : R m 5 = 0
    · rw [if_neg (fun q => q a1)]
      by_cases a2 : R (m + 1) 6 = -1
      · rw [if_neg (fun q => q a2), bd_s]
        by_cases a3 : isD (M 5 t) (m + 1)
        · rw [if_pos a3, if_pos (by decide), if_neg (fun q => q.2.2 a3)]
          exact m_rel81 hn hm hR
        · rw [if_neg a3, if_neg (by decide), if_pos ⟨a1, a2, a3⟩, m_cyc hn h1 hR, bd_s]
          obtain ⟨M', e, g1, g2⟩ := m_out hn hm (hR.put (m + 1) (c := 6) (by omega) (cyS R (m + 1)))
          exact ⟨M', e, g1, (KM.rf.put (by omega) (by omega)).tr g2⟩
      · rw [if_pos a2, if_neg (fun q => a2 q.2.1)]
        exact m_rel81 hn hm hR
    · rw [if_pos a1, if_neg (fun q => a1 q.1)]
      exact m_rel81 hn hm hR
  · rw [if_pos (by omega), if_neg h1]
    exact m_out hn hm hR
theorem m_spd {n m : Nat} {M R : SL} (hn : n ≤ 8) (hm : m < n) (h2 : M 1 0 = nI n) (hR : RM n M R) : ∃ M', f_X6_speeds M (nI m) = some M' ∧ RM n M' (spdS n R m) ∧ KM M M' := by
  have k1 : ∀ v, KM M (up2 M 1 (3 + 16 * m + 7) v) := fun v => KM.rf.put (by omega) (by omega)
  have r1 : ∀ v, RM n (up2 M 1 (3 + 16 * m + 7) v) (up2 R m 7 v) := fun v => hR.put m (by omega) v
  unfold f_X6_speeds spdS f_X6_speeds_b38 f_X6_speeds_b43
  rw [m_of, bd_s]
  simp (disch := omega) only [lt_e, n_chk, gd_t, nI_clamp, h2, n_lit, nI_eq, i10, if_true, if_false]
  rw [hR m 5 hm (by omega), hR m 2 hm (by omega), hR m 3 hm (by omega), hR m 7 hm (by omega)]
  by_cases h1 : m + 1 = n
  · rw [if_pos (by omega), if_pos (Or.inl h1)]
    exact ⟨_, rfl, r1 _, k1 _⟩
  · rw [if_neg (by omega)]
    by_cases a1 : R m 5 ≤ R m 2
    · rw [if_pos (show m + 1 = n ∨ R m 5 ≤ R m 2 from Or.inr a1), if_neg (i_nlt a1)]
      exact ⟨_, rfl, r1 _, k1 _⟩
    · rw [if_neg (show ¬ (m + 1 = n ∨ R m 5 ≤ R m 2) from fun q => q.elim h1 a1), if_pos (i_lt a1)]
      by_cases a2 : R m 3 ≤ R m 5
      · rw [if_neg (i_nlt a2), if_pos a2]
        exact ⟨_, rfl, r1 _, k1 _⟩
      · rw [if_pos (i_lt a2), if_neg a2]
        refine ⟨_, rfl, ?_, k1 _⟩
        intro m' c' hm' hc'
        rw [up2_ap]
        by_cases e : m' = m ∧ c' = 7
        · rw [if_pos (by omega), e.1, e.2]
        · rw [if_neg (by omega)]
          exact hR m' c' hm' hc'
/-- the fills stand between 0 and 40, the capacities too -/
def FN (n : Nat) (R : SL) : Prop := ∀ m, m < n → 0 ≤ (R m 5).toInt ∧ (R m 5).toInt ≤ 40 ∧ (R m 4).toInt ≤ 40
theorem i_pos_ne {x : Int32} (h : 0 ≤ x.toInt) : x ≤ 0 ↔ x = 0 := by
  rw [Int32.le_iff_toInt_le, ← Int32.toInt_inj]
  show x.toInt ≤ 0 ↔ x.toInt = 0
  omega
theorem m_tak {n m : Nat} {M R : SL} (hn : n ≤ 8) (hm : m < n) (hF : FN n R) (hR : RM n M R) : ∃ M', f_X6_takes M (nI m) = some M' ∧ RM n M' (takS R m) ∧ KM M M' := by
  unfold f_X6_takes takS f_X6_takes_b23 f_X6_takes_b28
  rw [m_of, bd_s]
  simp (disch := omega) only [n_lit, i10, if_true, if_false]
  by_cases h0 : m = 0
  · rw [if_pos (by omega), if_pos h0]
    simp (disch := omega) only [lt_e, n_chk, gd_t, nI_clamp, n_lit]
    rw [m_cyc hn hm hR, bd_s, if_pos (by omega)]
    exact ⟨_, rfl, hR.put _ (by omega) _, KM.rf.put (by omega) (by omega)⟩
  · rw [if_neg (by omega), if_neg h0]
    simp (disch := omega) only [lt_e, n_chk, gd_t, nI_clamp, n_lit]
    rw [show 3 + 16 * m - 16 + 5 = 3 + 16 * (m - 1) + 5 by omega, hR (m - 1) 5 (by omega) (by omega)]
    by_cases a1 : R (m - 1) 5 = 0
    · rw [if_pos ((i_pos_ne (hF (m - 1) (by omega)).1).mpr a1), if_pos a1]
      exact ⟨M, rfl, hR, KM.rf⟩
    · rw [if_neg (fun q => a1 ((i_pos_ne (hF (m - 1) (by omega)).1).mp q)), if_neg a1, m_cyc hn hm hR, bd_s, if_neg (by omega)]
      rw [up2_ap, if_neg (by omega), hR (m - 1) 5 (by omega) (by omega)]
      refine ⟨_, rfl, ?_, (KM.rf.put (by omega) (by omega)).put (by omega) (by omega)⟩
      have q := (hR.put m (c := 6) (by omega) (cyS R m)).put (m - 1) (c := 5) (by omega) (R (m - 1) 5 - 1)
      intro m' c' hm' hc'
      rw [q m' c' hm' hc', up2_ap, up2_ap, up2_ap, up2_ap]
      by_cases e1 : m' = m - 1 ∧ c' = 5
      · rw [if_pos e1, if_neg (by omega), if_pos e1]
      · rw [if_neg e1]
        by_cases e2 : m' = m ∧ c' = 6
        · rw [if_pos e2, if_pos e2]
        · rw [if_neg e2, if_neg e2, if_neg e1]
/-- a turn, ahead of its note: which it is, and the rows -/
def corS (n : Nat) (b : Int32) (R : SL) (m : Nat) : Nat × SL :=
  if isD b m then (4, spdS n R m)
  else if 0 < tk2S (rl2S n b (spdS n R m) m) m m 6 then
    (1, if tk2S (rl2S n b (spdS n R m) m) m m 6 - 1 = 0 then relS n b (up2 (tk2S (rl2S n b (spdS n R m) m) m) m 6 (tk2S (rl2S n b (spdS n R m) m) m m 6 - 1)) m else up2 (tk2S (rl2S n b (spdS n R m) m) m) m 6 (tk2S (rl2S n b (spdS n R m) m) m m 6 - 1))
  else (if tk2S (rl2S n b (spdS n R m) m) m m 6 = 0 then 3 else 2, tk2S (rl2S n b (spdS n R m) m) m)
theorem up2_comm (L : SL) {a c x y : Nat} (v w : Int32) (h : ¬ (a = x ∧ c = y)) : up2 (up2 L a c v) x y w = up2 (up2 L x y w) a c v := by
  funext k j
  rw [up2_ap, up2_ap, up2_ap, up2_ap]
  by_cases e1 : k = x ∧ j = y
  · rw [if_pos e1, if_neg (by omega), if_pos e1]
  · rw [if_neg e1]
    by_cases e2 : k = a ∧ j = c
    · rw [if_pos e2, if_pos e2]
    · rw [if_neg e2, if_neg e2, if_neg e1]
theorem not_up (Q : SL) (m k : Nat) {a c : Nat} (v : Int32) (h : ¬ (a = m ∧ (c = 8 ∨ c = 8 + k))) : up2 (notS Q m k) a c v = notS (up2 Q a c v) m k := by
  unfold notS
  rw [show up2 Q a c v m (8 + k) = Q m (8 + k) from up2_q (by omega), up2_comm (up2 Q m 8 (nI k)) (a := m) (c := 8 + k) (x := a) (y := c) _ _ (by omega), up2_comm Q (a := m) (c := 8) (x := a) (y := c) _ _ (by omega)]
theorem not_at (Q : SL) (m k : Nat) {a c : Nat} (h : ¬ (a = m ∧ (c = 8 ∨ c = 8 + k))) : notS Q m k a c = Q a c := by
  unfold notS
  rw [up2_ap, if_neg (by omega), up2_ap, if_neg (by omega)]
theorem not_out (Q : SL) (m : Nat) : outS (notS Q m 1) m = notS (outS Q m) m 1 := by
  unfold outS
  rw [not_at Q m 1 (by omega), not_up Q m 1 _ (by omega), not_up _ m 1 _ (by omega)]
theorem not_rel (n : Nat) (b : Int32) (R : SL) (m : Nat) : relS n b (notS R m 1) m = notS (relS n b R m) m 1 := by
  have e6 : ∀ c, notS R m 1 (m + 1) c = R (m + 1) c := fun c => not_at R m 1 (by omega)
  have e5 : notS R m 1 m 5 = R m 5 := not_at R m 1 (by omega)
  have e4 : notS R m 1 m 4 = R m 4 := not_at R m 1 (by omega)
  have cy : cyS (notS R m 1) (m + 1) = cyS R (m + 1) := by unfold cyS; rw [e6, e6, e6]
  unfold relS
  rw [e5, e4, e6, cy]
  by_cases h1 : m + 1 < n
  · rw [if_pos h1, if_pos h1]
    by_cases h2 : R m 5 = 0 ∧ R (m + 1) 6 = -1 ∧ ¬ isD b (m + 1)
    · rw [if_pos h2, if_pos h2, not_up _ _ _ _ (by omega), not_out]
    · rw [if_neg h2, if_neg h2]
      by_cases h3 : R m 5 < R m 4
      · rw [if_pos h3, if_pos h3, not_up _ _ _ _ (by omega), not_out]
      · rw [if_neg h3, if_neg h3]
  · rw [if_neg h1, if_neg h1, not_out]
theorem tur_cor (n : Nat) (b : Int32) (R : SL) (m : Nat) : turS n b R m = notS (corS n b R m).2 m (corS n b R m).1 := by
  unfold turS corS wrkS
  by_cases h0 : isD b m
  · rw [if_pos h0, if_pos h0]
  · rw [if_neg h0, if_neg h0]
    generalize tk2S (rl2S n b (spdS n R m) m) m = R3
    by_cases h1 : 0 < R3 m 6
    · rw [if_pos h1, if_pos h1]
      by_cases h2 : R3 m 6 - 1 = 0
      · rw [if_pos h2, if_pos h2, not_rel]
      · rw [if_neg h2, if_neg h2]
    · rw [if_neg h1, if_neg h1]
theorem i_bmod {z : Int} (h1 : -2147483648 ≤ z) (h2 : z < 2147483648) : z.bmod (2 ^ 32) = z := by
  rw [Int.bmod_def]
  omega
theorem i_add {x y : Int32} (h1 : -2147483648 ≤ x.toInt + y.toInt) (h2 : x.toInt + y.toInt < 2147483648) : (x + y).toInt = x.toInt + y.toInt := by
  rw [Int32.toInt_add]
  exact i_bmod h1 h2
theorem i_sub {x y : Int32} (h1 : -2147483648 ≤ x.toInt - y.toInt) (h2 : x.toInt - y.toInt < 2147483648) : (x - y).toInt = x.toInt - y.toInt := by
  rw [Int32.toInt_sub]
  exact i_bmod h1 h2
theorem i_1 : (1 : Int32).toInt = 1 := rfl
theorem i_0 : (0 : Int32).toInt = 0 := rfl
theorem FN_oth {n : Nat} {R : SL} (h : FN n R) {a c : Nat} (v : Int32) (hc : c ≠ 5 ∧ c ≠ 4) : FN n (up2 R a c v) := fun m hm => by
  rw [up2_ap, if_neg (by omega), up2_ap, if_neg (by omega)]
  exact h m hm
theorem FN_out {n : Nat} {R : SL} (h : FN n R) (m : Nat) : FN n (outS R m) := FN_oth (FN_oth h _ (by omega)) _ (by omega)
theorem FN_not {n : Nat} {R : SL} (h : FN n R) (m k : Nat) : FN n (notS R m k) := FN_oth (FN_oth h _ (by omega)) _ (by omega)
theorem FN_spd {n : Nat} {R : SL} (h : FN n R) (m : Nat) : FN n (spdS n R m) := by
  unfold spdS
  split
  · exact FN_oth h _ (by omega)
  · split
    · exact FN_oth h _ (by omega)
    · exact h
theorem FN_rel {n : Nat} {R : SL} (h : FN n R) (b : Int32) (m : Nat) : FN n (relS n b R m) := by
  unfold relS
  split
  · split
    · exact FN_out (FN_oth h _ (by omega)) m
    · split
      · refine FN_out (fun q hq => ?_) m
        rename_i h1 h2 h3
        rw [up2_ap, up2_ap, if_neg (show ¬ (q = m ∧ 4 = 5) by omega)]
        by_cases e : q = m ∧ 5 = 5
        · rw [if_pos e]
          obtain ⟨rfl, -⟩ := e
          obtain ⟨a1, a2, a3⟩ := h q hq
          rw [Int32.lt_iff_toInt_lt] at h3
          rw [i_add (by rw [i_1]; omega) (by rw [i_1]; omega), i_1]
          omega
        · rw [if_neg e]; exact h q hq
      · exact h
  · exact FN_out h m
theorem FN_tak {n : Nat} {R : SL} (h : FN n R) {m : Nat} (hm : m < n) : FN n (takS R m) := by
  unfold takS
  split
  · exact FN_oth h _ (by omega)
  · split
    · exact h
    · refine FN_oth (fun q hq => ?_) _ (by omega)
      rename_i h1 h2
      rw [up2_ap, up2_ap, if_neg (show ¬ (q = m - 1 ∧ 4 = 5) by omega)]
      by_cases e : q = m - 1 ∧ 5 = 5
      · rw [if_pos e]
        obtain ⟨rfl, -⟩ := e
        obtain ⟨a1, a2, a3⟩ := h (m - 1) hq
        have h3 : (R (m - 1) 5).toInt ≠ 0 := fun z => h2 (Int32.toInt_inj.mp z)
        rw [i_sub (by rw [i_1]; omega) (by rw [i_1]; omega), i_1]
        omega
      · rw [if_neg e]; exact h q hq
theorem FN_rl2 {n : Nat} {R : SL} (h : FN n R) (b : Int32) (m : Nat) : FN n (rl2S n b R m) := by
  unfold rl2S
  split
  · exact FN_rel h b m
  · exact h
theorem FN_tk2 {n : Nat} {R : SL} (h : FN n R) {m : Nat} (hm : m < n) : FN n (tk2S R m) := by
  unfold tk2S
  split
  · exact FN_tak h hm
  · exact h
theorem FN_cor {n : Nat} {R : SL} (h : FN n R) (b : Int32) {m : Nat} (hm : m < n) : FN n (corS n b R m).2 := by
  have h3 := FN_tk2 (FN_rl2 (FN_spd h m) b m) hm
  unfold corS
  split
  · exact FN_spd h m
  · split
    · dsimp only
      split
      · exact FN_rel (FN_oth h3 _ (by omega)) b m
      · exact FN_oth h3 _ (by omega)
    · exact h3
theorem FN_tur {n : Nat} {R : SL} (h : FN n R) (b : Int32) {m : Nat} (hm : m < n) : FN n (turS n b R m) := by
  rw [tur_cor]
  exact FN_not (FN_cor h b hm) _ _
theorem FN_trs {n : Nat} (b : Int32) : ∀ (k : Nat) (R : SL), k ≤ n → FN n R → FN n (trsS n b k R)
  | 0, _, _, h => h
  | k + 1, _, hk, h => FN_trs b k _ (by omega) (FN_tur h b (by omega))
theorem FN_fls {n : Nat} : ∀ (k : Nat) (R : SL), FN n R → FN n (flsS k R)
  | 0, _, h => h
  | k + 1, R, h => by
    have ih := FN_fls k R h
    show FN n (fl1S _ _)
    unfold fl1S
    split
    · exact FN_oth ih _ (by omega)
    · exact FN_oth (FN_oth ih _ (by omega)) _ (by omega)
theorem FN_tic {n : Nat} {R : SL} (h : FN n R) (b : Int32) : FN n (ticS n b R) := FN_fls _ _ (FN_trs b n R (Nat.le_refl n) h)
theorem FN_pas {n p : Nat} {S : SL} : ∀ (j t : Nat) (R : SL), FN n R → FN n (pasS n p S j t R)
  | 0, _, _, h => h
  | j + 1, t, R, h => FN_pas j (t + 1) _ (FN_tic h _)
theorem m_tk2 {n m t : Nat} {M R : SL} (hn : n ≤ 8) (hm : m < n) (ht : t ≤ 10000) (h2 : M 1 0 = nI n) (hF : FN n R) (hR : RM n M R) :
    ∃ M', f_X6_turns_b39 M (nI m) (nI t) (nI (3 + 16 * m)) = some ((if 0 < tk2S R m m 6 then 1 else if tk2S R m m 6 = 0 then 3 else 2), M') ∧
      RM n M' (if 0 < tk2S R m m 6 then (if tk2S R m m 6 - 1 = 0 then relS n (M 5 t) (up2 (tk2S R m) m 6 (tk2S R m m 6 - 1)) m else up2 (tk2S R m) m 6 (tk2S R m m 6 - 1)) else tk2S R m) ∧ KM M M' := by
  have key : ∀ (M1 R1 : SL), M1 1 0 = nI n → RM n M1 R1 → ∃ M', f_X6_turns_b57 M1 (nI m) (nI t) (nI (3 + 16 * m)) = some ((if 0 < R1 m 6 then 1 else if R1 m 6 = 0 then 3 else 2), M') ∧
      RM n M' (if 0 < R1 m 6 then (if R1 m 6 - 1 = 0 then relS n (M1 5 t) (up2 R1 m 6 (R1 m 6 - 1)) m else up2 R1 m 6 (R1 m 6 - 1)) else R1) ∧ KM M1 M' := by
    intro M1 R1 h2 hR
    unfold f_X6_turns_b57
    simp (disch := omega) only [lt_e, n_chk, gd_t, nI_clamp, n_lit]
    rw [hR m 6 hm (by omega)]
    by_cases a0 : 0 < R1 m 6
    · rw [if_neg (i_nle a0), if_pos a0, if_pos a0, up2_s]
      have r1 := hR.put m (c := 6) (by omega) (R1 m 6 - 1)
      have k1 : KM M1 (up2 M1 1 (3 + 16 * m + 6) (R1 m 6 - 1)) := KM.rf.put (by omega) (by omega)
      by_cases a1 : R1 m 6 - 1 = 0
      · rw [if_neg (fun q => q a1), if_pos a1]
        obtain ⟨M2, e2, r2, k2⟩ := m_rel hn hm ht (by rw [k1.2 0 (by omega)]; exact h2) r1
        rw [e2, bd_s]
        rw [k1.1 5 (by omega)] at r2
        exact ⟨M2, rfl, r2, k1.tr k2⟩
      · rw [if_pos a1, if_neg a1]
        exact ⟨_, rfl, r1, k1⟩
    · rw [if_pos (i_le a0), if_neg a0, if_neg a0]
      by_cases a1 : R1 m 6 = 0
      · rw [if_neg (fun q => q a1), if_pos a1]
        exact ⟨M1, rfl, hR, KM.rf⟩
      · rw [if_pos a1, if_neg a1]
        exact ⟨M1, rfl, hR, KM.rf⟩
  unfold f_X6_turns_b39 tk2S
  simp (disch := omega) only [lt_e, n_chk, gd_t, nI_clamp, n_lit]
  rw [hR m 6 hm (by omega)]
  by_cases a0 : R m 6 = -1
  · rw [if_neg (fun q => q a0)]
    simp only [if_pos a0]
    obtain ⟨M1, e1, r1, k1⟩ := m_tak hn hm hF hR
    rw [e1, bd_s]
    obtain ⟨M2, e2, r2, k2⟩ := key M1 _ (by rw [k1.2 0 (by omega)]; exact h2) r1
    rw [k1.1 5 (by omega)] at r2
    exact ⟨M2, e2, r2, k1.tr k2⟩
  · rw [if_pos a0]
    simp only [if_neg a0]
    exact key M R h2 hR
theorem m_tur {n m t : Nat} {M R : SL} (hn : n ≤ 8) (hm : m < n) (ht : t ≤ 10000) (h2 : M 1 0 = nI n) (hF : FN n R) (hR : RM n M R) : ∃ M', f_X6_turns M (nI m) (nI t) = some (nI (corS n (M 5 t) R m).1, M') ∧ RM n M' (corS n (M 5 t) R m).2 ∧ KM M M' := by
  have fin : ∀ M1 : SL, KM M M1 → (∃ M', f_X6_turns_b39 M1 (nI m) (nI t) (nI (3 + 16 * m)) = some ((if 0 < tk2S (rl2S n (M 5 t) (spdS n R m) m) m m 6 then 1 else if tk2S (rl2S n (M 5 t) (spdS n R m) m) m m 6 = 0 then 3 else 2), M') ∧
      RM n M' (if 0 < tk2S (rl2S n (M 5 t) (spdS n R m) m) m m 6 then (if tk2S (rl2S n (M 5 t) (spdS n R m) m) m m 6 - 1 = 0 then relS n (M 5 t) (up2 (tk2S (rl2S n (M 5 t) (spdS n R m) m) m) m 6 (tk2S (rl2S n (M 5 t) (spdS n R m) m) m m 6 - 1)) m else up2 (tk2S (rl2S n (M 5 t) (spdS n R m) m) m) m 6 (tk2S (rl2S n (M 5 t) (spdS n R m) m) m m 6 - 1)) else tk2S (rl2S n (M 5 t) (spdS n R m) m) m) ∧ KM M1 M') →
      ¬ isD (M 5 t) m → ∃ M', f_X6_turns_b39 M1 (nI m) (nI t) (nI (3 + 16 * m)) = some (nI (corS n (M 5 t) R m).1, M') ∧ RM n M' (corS n (M 5 t) R m).2 ∧ KM M M' := by
    rintro M1 k ⟨M2, e2, r2, k2⟩ hd
    refine ⟨M2, ?_, ?_, k.tr k2⟩
    · rw [e2]
      unfold corS
      rw [if_neg hd]
      by_cases a0 : 0 < tk2S (rl2S n (M 5 t) (spdS n R m) m) m m 6
      · rw [if_pos a0, if_pos a0]; rfl
      · rw [if_neg a0, if_neg a0]
        by_cases a1 : tk2S (rl2S n (M 5 t) (spdS n R m) m) m m 6 = 0
        · simp only [if_pos a1]; rfl
        · simp only [if_neg a1]; rfl
    · unfold corS
      rw [if_neg hd]
      by_cases a0 : 0 < tk2S (rl2S n (M 5 t) (spdS n R m) m) m m 6
      · rw [if_pos a0] at r2 ⊢; exact r2
      · rw [if_neg a0] at r2 ⊢; exact r2
  unfold f_X6_turns
  rw [m_of, bd_s]
  obtain ⟨M1, e1, r1, k1⟩ := m_spd hn hm h2 hR
  rw [e1, bd_s, m_isD M1 ht, bd_s, k1.1 5 (by omega)]
  by_cases a0 : isD (M 5 t) m
  · rw [if_pos a0, if_neg (by decide)]
    refine ⟨M1, ?_, ?_, k1⟩
    · unfold corS; rw [if_pos a0]; rfl
    · unfold corS; rw [if_pos a0]; exact r1
  · rw [if_neg a0, if_pos rfl]
    have h3 : M1 1 0 = nI n := by rw [k1.2 0 (by omega)]; exact h2
    simp (disch := omega) only [lt_e, n_chk, gd_t, nI_clamp, n_lit]
    rw [r1 m 6 hm (by omega)]
    by_cases a1 : spdS n R m m 6 = 0
    · rw [if_neg (fun q => q a1)]
      obtain ⟨M2, e2, r2, k2⟩ := m_rel hn hm ht h3 r1
      rw [k1.1 5 (by omega)] at r2
      rw [e2, bd_s]
      have hr : rl2S n (M 5 t) (spdS n R m) m = relS n (M 5 t) (spdS n R m) m := if_pos a1
      refine fin M2 (k1.tr k2) ?_ a0
      have := m_tk2 hn hm ht (by rw [k2.2 0 (by omega)]; exact h3) (FN_rel (FN_spd hF m) (M 5 t) m) r2
      rw [k2.1 5 (by omega), k1.1 5 (by omega)] at this
      rw [hr]
      exact this
    · rw [if_pos a1]
      have hr : rl2S n (M 5 t) (spdS n R m) m = spdS n R m := if_neg a1
      refine fin M1 k1 ?_ a0
      have := m_tk2 hn hm ht h3 (FN_spd hF m) r1
      rw [k1.1 5 (by omega)] at this
      rw [hr]
      exact this
theorem cor_1 (n : Nat) (b : Int32) (R : SL) (m : Nat) : 1 ≤ (corS n b R m).1 ∧ (corS n b R m).1 ≤ 4 := by
  unfold corS
  split
  · exact ⟨by omega, by omega⟩
  · split
    · exact ⟨by omega, by omega⟩
    · show 1 ≤ (if _ then 3 else 2 : Nat) ∧ (if _ then 3 else 2 : Nat) ≤ 4
      split <;> omega
