/-! THE MEANING, 8: call against call: the settings -/
def AF (Ls : Nat → SL) (Hs T M : SL) : Prop := ∃ (B : Nat → LN) (v w len : Nat), v ≤ 4 ∧ w < 4 ∧ len ≤ 120 ∧ HI Ls Hs M v w B ∧ TI T M len
def SS (Ls : Nat → SL) (Hs T M : SL) : Prop := ∃ A : LN, WF A ∧ CA (Ls 0) A ∧ MA (M 1) A ∧ AF Ls Hs T M
theorem AF.cls {Ls Ls' : Nat → SL} {Hs T M : SL} (h : AF Ls Hs T M) (he : ∀ q, 2 ≤ q → Ls' q = Ls q) : AF Ls' Hs T M := by
  obtain ⟨B, v, w, len, hv, hw, hl, ⟨h1, h2, h3, h4⟩, hT⟩ := h
  exact ⟨B, v, w, len, hv, hw, hl, ⟨h1, h2, h3, fun j hj => by rw [he _ (by omega)]; exact h4 j hj⟩, hT⟩
theorem AF.mod {Ls : Nat → SL} {Hs T M M' : SL} (h : AF Ls Hs T M) (h2 : M' 2 = M 2) (h4 : M' 4 = M 4) (h03 : M' 0 3 = M 0 3) (h06 : M' 0 6 = M 0 6) : AF Ls Hs T M' := by
  obtain ⟨B, v, w, len, hv, hw, hl, ⟨a1, a2, a3, a4⟩, b1, b2, b3⟩ := h
  exact ⟨B, v, w, len, hv, hw, hl, ⟨a1, a2, h03.trans a3, fun j hj => by rw [h2]; exact a4 j hj⟩, b1, h06.trans b2, fun i hi => by rw [h4]; exact b3 i hi⟩
theorem AF.k1 {Ls : Nat → SL} {Hs T M M' : SL} (h : AF Ls Hs T M) (k : K1 M M') : AF Ls Hs T M' := h.mod (k 2 (by omega)) (k 4 (by omega)) (by rw [k 0 (by omega)]) (by rw [k 0 (by omega)])
theorem AF.ref {Ls : Nat → SL} {Hs T M : SL} (h : AF Ls Hs T M) (x : Int32) : AF Ls Hs T (up2 M 0 4 x) := h.mod (up2_row (by omega)) (up2_row (by omega)) (up2_q (by omega)) (up2_q (by omega))
theorem SS.ref {Ls : Nat → SL} {Hs T M : SL} (h : SS Ls Hs T M) (x : Int32) : SS Ls Hs T (up2 M 0 4 x) := by
  obtain ⟨A, h1, h2, h3, h4⟩ := h
  exact ⟨A, h1, h2, by rw [up2_row (by omega)]; exact h3, h4.ref x⟩
theorem kept {Ls : Nat → SL} {Hs T M : SL} {A : LN} (hA : WF A) (cA : CA (Ls 0) A) (mA : MA (M 1) A) (h : AF Ls Hs T M) (x : Int32) : ∃ (Ls' : Nat → SL) (Hs' M' : SL), f_X1_keep 0 Ls Hs = some (Ls', Hs') ∧ f_X6_saves (up2 M 0 4 x) = some M' ∧ CA (Ls' 0) A ∧ MA (M' 1) A ∧ M' 0 4 = x ∧ AF Ls' Hs' T M' ∧ Ls' 1 = Ls 1 ∧ ∀ k, k ≠ 2 → k ≠ 0 → M' k = M k := by
  obtain ⟨B, v, w, len, hv, hw, hl, hH, b1, b2, b3⟩ := h
  have hH2 : HI Ls Hs (up2 M 0 4 x) v w B := ⟨hH.1, hH.2.1, by rw [up2_q (by omega)]; exact hH.2.2.1, fun j hj => by rw [up2_row (by omega)]; exact hH.2.2.2 j hj⟩
  obtain ⟨Ls', Hs', M', w', B', e1, e2, hw', hH', kL, kM, kM0⟩ := keep_ok hv hw hA cA (by rw [up2_row (by omega)]; exact mA) hH2
  have kr : ∀ k, k ≠ 2 → k ≠ 0 → M' k = M k := fun k g1 g2 => (kM k g1 g2).trans (up2_row g2)
  refine ⟨Ls', Hs', M', e1, e2, by rw [kL 0 (by omega)]; exact cA, by rw [kr 1 (by omega) (by omega)]; exact mA, by rw [kM0 4 (by omega), up2_s], ⟨B', min (v + 1) 4, w', len, by omega, hw', hl, hH', b1, by rw [kM0 6 (by omega), up2_q (by omega)]; exact b2, fun i hi => by rw [kr 4 (by omega) (by omega)]; exact b3 i hi⟩, kL 1 (by omega), kr⟩
abbrev bI (P : Prop) [Decidable P] : Int32 := if P then 1 else 0
theorem bI_t {P : Prop} [Decidable P] (h : P) : bI P = 1 := if_pos h
theorem bI_f {P : Prop} [Decidable P] (h : ¬ P) : bI P = 0 := if_neg h
theorem bI_B (P : Prop) [Decidable P] : isB (bI P) = true := by
  by_cases h : P
  · rw [bI_t h]; rfl
  · rw [bI_f h]; rfl
theorem bI0t {P : Prop} [Decidable P] (h : P) : (bI P = 0) = False := by
  rw [bI_t h]
  exact i10
theorem bI0f {P : Prop} [Decidable P] (h : ¬ P) : (bI P = 0) = True := by
  rw [bI_f h]
  exact i00
theorem m_ref0 (M : SL) : f_X6_refused M 0 = some (0, up2 M 0 4 0) := rfl
theorem m_ref1 (M : SL) : f_X6_refused M 1 = some (1, up2 M 0 4 1) := rfl
theorem m_ref2 (M : SL) : f_X6_refused M 2 = some (1, up2 M 0 4 2) := rfl
theorem m_ref3 (M : SL) : f_X6_refused M 3 = some (1, up2 M 0 4 3) := rfl
theorem is_in (x a b : Int32) : f_X5_isIn x a b = some (bI (a ≤ x ∧ x ≤ b)) := by
  unfold f_X5_isIn f_X5_isIn_b14
  by_cases h1 : x < a
  · rw [if_pos h1, bI_f (show ¬ (a ≤ x ∧ x ≤ b) from fun q => i_nle h1 q.1)]
  · rw [if_neg h1]
    by_cases h2 : b < x
    · rw [if_pos h2, bI_f (show ¬ (a ≤ x ∧ x ≤ b) from fun q => i_nle h2 q.2)]
    · rw [if_neg h2, bI_t (show a ≤ x ∧ x ≤ b from ⟨i_le h1, i_le h2⟩)]
theorem m_in (x a b : Int32) : f_X6_within x a b = some (bI (a ≤ x ∧ x ≤ b)) := by
  unfold f_X6_within f_X6_within_b14
  by_cases h1 : x < a
  · rw [if_pos h1, bI_f (show ¬ (a ≤ x ∧ x ≤ b) from fun q => i_nle h1 q.1)]
  · rw [if_neg h1]
    by_cases h2 : b < x
    · rw [if_pos h2, bI_f (show ¬ (a ≤ x ∧ x ≤ b) from fun q => i_nle h2 q.2)]
    · rw [if_neg h2, bI_t (show a ≤ x ∧ x ≤ b from ⟨i_le h1, i_le h2⟩)]
abbrev cyc (a b : Int32) : Prop := (1 ≤ a ∧ a ≤ 20) ∧ (1 ≤ b ∧ b ≤ a)
abbrev mrk (a b : Int32) : Prop := (0 ≤ b ∧ b ≤ 40) ∧ (0 ≤ a ∧ a ≤ b)
theorem c_cycs (a b : Int32) : f_X5_areCycles a b = some (bI (cyc a b)) := by
  unfold f_X5_areCycles f_X5_areCycles_b23
  rw [is_in, bd_s, is_in, bd_s]
  by_cases h1 : 1 ≤ a ∧ a ≤ 20
  · by_cases h2 : 1 ≤ b ∧ b ≤ a
    · simp only [bI0t h1, bI0t h2, if_false]
      rw [bI_t (show cyc a b from ⟨h1, h2⟩)]
    · simp only [bI0t h1, bI0f h2, if_false, if_true]
      rw [bI_f (show ¬ cyc a b from fun z => h2 z.2)]
  · simp only [bI0f h1, if_true]
    rw [bI_f (show ¬ cyc a b from fun z => h1 z.1)]
theorem m_cycs (a b : Int32) : f_X6_areCycles a b = some (bI (cyc a b)) := by
  unfold f_X6_areCycles f_X6_areCycles_b23
  rw [m_in, bd_s, m_in, bd_s]
  by_cases h1 : 1 ≤ a ∧ a ≤ 20
  · by_cases h2 : 1 ≤ b ∧ b ≤ a
    · simp only [bI0t h1, bI0t h2, if_false]
      rw [bI_t (show cyc a b from ⟨h1, h2⟩)]
    · simp only [bI0t h1, bI0f h2, if_false, if_true]
      rw [bI_f (show ¬ cyc a b from fun z => h2 z.2)]
  · simp only [bI0f h1, if_true]
    rw [bI_f (show ¬ cyc a b from fun z => h1 z.1)]
theorem m_mrk (a b : Int32) : f_X6_areMarks a b = some (bI (mrk a b)) := by
  unfold f_X6_areMarks f_X6_areMarks_b23
  rw [m_in, bd_s, m_in, bd_s]
  by_cases h1 : 0 ≤ b ∧ b ≤ 40
  · by_cases h2 : 0 ≤ a ∧ a ≤ b
    · simp only [bI0t h1, bI0t h2, if_false]
      rw [bI_t (show mrk a b from ⟨h1, h2⟩)]
    · simp only [bI0t h1, bI0f h2, if_false, if_true]
      rw [bI_f (show ¬ mrk a b from fun z => h2 z.2)]
  · simp only [bI0f h1, if_true]
    rw [bI_f (show ¬ mrk a b from fun z => h1 z.1)]
theorem m_capa (a : Int32) : f_X6_isCapacity a = some (bI (0 ≤ a ∧ a ≤ 40)) := by
  unfold f_X6_isCapacity
  rw [m_in, bd_s, bI_B]
  rfl
/-- the first place of an index below k -/
theorem i_nat {x : Int32} {n : Nat} (hn : n < 2147483648) (h0 : ¬ x < 0) (h1 : x < nI n) : ∃ m, x = nI m ∧ m < n := by
  obtain ⟨u, hu, e⟩ := nI_of h0
  refine ⟨u, e, ?_⟩
  rw [e] at h1
  exact (nI_ltI (by omega) (by omega)).mp h1
theorem c_need {L : Nat → SL} {n : Nat} (hn : n ≤ 8) (h : L 0 0 2 = nI n) (x : Int32) : (∃ m, x = nI m ∧ m < n ∧ f_X5_needMachine L x = some (Sum.inl ())) ∨ ((¬ ∃ m, x = nI m ∧ m < n) ∧ f_X5_needMachine L x = some (Sum.inr 3)) := by
  unfold f_X5_needMachine f_X5_needMachine_b15
  rw [lt_n, h]
  by_cases h0 : x < 0
  · refine Or.inr ⟨?_, if_pos h0⟩
    rintro ⟨m, rfl, hm⟩
    have := (nI_ltI (a := m) (b := 0) (by omega) (by omega)).mp h0
    omega
  · by_cases h1 : x < nI n
    · obtain ⟨m, e, hm⟩ := i_nat (by omega) h0 h1
      exact Or.inl ⟨m, e, hm, by rw [if_neg h0, if_pos h1]⟩
    · refine Or.inr ⟨?_, by rw [if_neg h0, if_neg h1]⟩
      rintro ⟨m, rfl, hm⟩
      exact h1 (nI_lt hm (by omega))
theorem m_need {M : SL} {n : Nat} (hn : n ≤ 8) (h : M 1 0 = nI n) (x : Int32) : f_X6_isMachine M x = some (bI (0 ≤ x ∧ x ≤ nI n - 1)) := by
  unfold f_X6_isMachine
  rw [lt_n, lt_n, h, m_in, bd_s, bI_B]
  rfl
theorem m_isM {n : Nat} (hn : n ≤ 8) (x : Int32) : (0 ≤ x ∧ x ≤ nI n - 1) ↔ ∃ m, x = nI m ∧ m < n := by
  constructor
  · rintro ⟨h0, h1⟩
    have h0' : ¬ x < 0 := fun q => i_nle q h0
    by_cases hz : n = 0
    · subst hz
      exact absurd (i_lele h0 h1) (by decide)
    · have h2 : x < nI n := by
        rw [show nI n - 1 = nI (n - 1) from pk_sub (b := 1) (by omega)] at h1
        exact i_lt (fun q => by
          have := (nI_leI (a := n) (b := n - 1) (by omega) (by omega)).mp (i_lele q h1)
          omega)
      exact i_nat (by omega) h0' h2
  · rintro ⟨m, rfl, hm⟩
    rw [show nI n - 1 = nI (n - 1) from pk_sub (b := 1) (by omega)]
    exact ⟨nI_le (a := 0) (by omega) (by omega), nI_le (by omega) (by omega)⟩
/-- what a call answers on both sides -/
def R2 (cod : Nat → Nat) (Ls : Nat → SL) (Hs T : SL) (fC : Option (Sum (Int32 × (Nat → SL) × SL) Nat)) (fM : Option (Int32 × SL)) : Prop :=
  ∃ (b : Int32) (M' : SL), fM = some (b, M') ∧ ((M' 0 4 = 0 ∧ ∃ (Ls' : Nat → SL) (Hs' : SL), fC = some (Sum.inl (b, Ls', Hs')) ∧ SS Ls' Hs' T M') ∨ ∃ k : Nat, (k = 1 ∨ k = 2 ∧ ¬ cod 2 = cod 1 ∨ k = 3 ∧ cod 3 = 2 ∧ cod 1 = 3) ∧ fC = some (Sum.inr (cod k)) ∧ M' 0 4 = nI k ∧ SS Ls Hs T M')
theorem va_0 (Ls : Nat → SL) (L : SL) : va_up Ls 0 L 0 = L := va_up_self _ _ _
theorem WF_join {n t p : Nat} {R S : SL} {a b c : Int32} (h : WF ((n, t, p), R, S)) (hn : n < 8) (hc : cyc a b) (hk : 0 ≤ c ∧ c ≤ 40) : WF ((n + 1, t, p), joinS R n a b c, S) := by
  obtain ⟨h1, h2, h3, h4, h5, h6, h7⟩ := h
  obtain ⟨⟨a1, a2⟩, b1, b2⟩ := hc
  obtain ⟨k1, k2⟩ := hk
  rw [Int32.le_iff_toInt_le] at a1 a2 b1 b2 k1 k2
  have q20 : (20 : Int32).toInt = 20 := rfl
  have q40 : (40 : Int32).toInt = 40 := rfl
  rw [i_1] at a1 b1
  rw [i_0] at k1
  rw [q20] at a2
  rw [q40] at k2
  have hj : ∀ m q, m ≠ n → joinS R n a b c m q = R m q := by
    intro m q hm
    unfold joinS empS
    rw [if_neg (by omega)]
    simp only [up2_ap]
    grind
  have hi : joinS R n a b c n 0 = a ∧ joinS R n a b c n 1 = b ∧ joinS R n a b c n 4 = c ∧ joinS R n a b c n 5 = 0 ∧ joinS R n a b c n 10 = 0 ∧ joinS R n a b c n 11 = 0 := by
    unfold joinS empS emv
    simp only [up2_ap]
    grind
  refine ⟨by show n + 1 ≤ 8; omega, h2, h3, fun m hm => ?_, fun m hm => ?_, h6, fun m hm => ?_⟩
  · show 1 ≤ (joinS R n a b c m 1).toInt ∧ (joinS R n a b c m 1).toInt ≤ (joinS R n a b c m 0).toInt ∧ (joinS R n a b c m 0).toInt ≤ 20 ∧ 0 ≤ (joinS R n a b c m 4).toInt ∧ (joinS R n a b c m 4).toInt ≤ 40
    by_cases e : m = n
    · subst e
      rw [hi.1, hi.2.1, hi.2.2.1]
      omega
    · rw [hj _ _ e, hj _ _ e, hj _ _ e]
      exact h4 m (show m < n by have : m < n + 1 := hm; omega)
  · show 0 ≤ (joinS R n a b c m 5).toInt ∧ (joinS R n a b c m 5).toInt ≤ 40 ∧ (joinS R n a b c m 4).toInt ≤ 40
    by_cases e : m = n
    · subst e
      rw [hi.2.2.1, hi.2.2.2.1, i_0]
      omega
    · rw [hj _ _ e, hj _ _ e]
      exact h5 m (show m < n by have : m < n + 1 := hm; omega)
  · show BI t (joinS R n a b c) m
    unfold BI
    by_cases e : m = n
    · subst e
      rw [hi.2.2.2.2.1, hi.2.2.2.2.2, i_0]
      omega
    · rw [hj _ _ e, hj _ _ e]
      exact h7 m (show m < n by have : m < n + 1 := hm; omega)
theorem s_addMachine {Ls : Nat → SL} {Hs T M : SL} (h : SS Ls Hs T M) (x1 x2 x3 : Int32) : R2 (fun k => k) Ls Hs T (f_X5_addMachine Ls Hs x1 x2 x3) (f_X6_addMachine M x1 x2 x3) := by
  have h' := h
  obtain ⟨⟨⟨n, t, p⟩, R, S⟩, hA, cA, mA, hF⟩ := h
  have hn : n ≤ 8 := hA.1
  have ht : t ≤ 10000 := hA.2.1
  have c0 : CL n t p (Ls 0) R S := cA
  have m0 : ML n t p M R S := mA
  have sn : ¬ n < 8 → nI n = 8 := fun g => by rw [show n = 8 by omega]; rfl
  unfold f_X5_addMachine f_X6_addMachine f_X6_addMachine_b16 f_X6_addMachine_b40 f_X5_addMachine_b18 f_X5_addMachine_b50
  rw [c_cycs, m_cycs, bd_s, bd_s, is_in, m_capa, bd_s, bd_s]
  simp only [lt_n, f_X6_addMachine_b45, m_ref0, m_ref1, m_ref2, bd2_s, i00, i10, if_true, if_false]
  by_cases g1 : cyc x1 x2
  · by_cases g2 : 0 ≤ x3 ∧ x3 ≤ 40
    · simp only [bI0t g1, bI0t g2, if_false, if_true, not_false_eq_true]
      rw [c0.1, c0.2.1, m0.1, m0.2.1]
      by_cases g3 : n < 8
      · simp only [show ((8 : Int32) ≤ nI n) = False from eq_false (nI_ge (a := n) (b := 8) (by omega) (by omega)), show (nI n = 8) = False from eq_false (fun z => absurd ((nI_eq (a := n) (b := 8) (by omega) (by omega)).mp z) (by omega)), if_false]
        by_cases g4 : t = 0
        · simp only [show (nI t = 0) = True from eq_true (by rw [g4]; rfl), show (nI t ≤ 0) = True from eq_true (by rw [g4]; decide), if_true]
          obtain ⟨Ls', Hs', M', e1, e2, d1, d2, d3, d4, d5, d6⟩ := kept hA cA mA hF 0
          obtain ⟨L2, e3, j1⟩ := c_join (L := Ls' 0) g3 d1 x1 x2 x3
          obtain ⟨M2, e4, j2, j3⟩ := m_adds (M := M') g3 d2 x1 x2 x3
          rw [e1, e2, bd2_s, bd_s, e3, bd2_s, e4, bd_s, j2.1, nI_m1]
          exact ⟨nI n, M2, rfl, Or.inl ⟨by rw [j3 0 (by omega)]; exact d3, _, _, rfl, ((n + 1, t, p), joinS R n x1 x2 x3, S), WF_join hA g3 g1 g2, by rw [va_0]; exact j1, j2, (d4.cls (fun q hq => va_up_ne _ _ (by omega))).k1 j3⟩⟩
        · simp only [show (nI t = 0) = False from eq_false (fun z => g4 ((nI_eq (a := t) (b := 0) (by omega) (by omega)).mp z)), show (nI t ≤ 0) = False from eq_false (fun z => absurd ((nI_leI (a := t) (b := 0) (by omega) (by omega)).mp z) (by omega)), if_false]
          exact ⟨0, _, rfl, Or.inr ⟨2, Or.inr (Or.inl ⟨rfl, by decide⟩), rfl, up2_s _ _ _ _, h'.ref _⟩⟩
      · simp only [show ((8 : Int32) ≤ nI n) = True from eq_true (by rw [sn g3]; decide), show (nI n = 8) = True from eq_true (sn g3), if_true]
        exact ⟨0, _, rfl, Or.inr ⟨2, Or.inr (Or.inl ⟨rfl, by decide⟩), rfl, up2_s _ _ _ _, h'.ref _⟩⟩
    · simp only [bI0t g1, bI0f g2, if_false, if_true, not_true_eq_false]
      exact ⟨0, _, rfl, Or.inr ⟨1, Or.inl rfl, rfl, up2_s _ _ _ _, h'.ref _⟩⟩
  · simp only [bI0f g1, if_true]
    exact ⟨0, _, rfl, Or.inr ⟨1, Or.inl rfl, rfl, up2_s _ _ _ _, h'.ref _⟩⟩
