/-! THE MEANING, 25: the class alone: what a call does to the line and to the saved ones -/
def HC (Ls : Nat → SL) (Hs : SL) (v w : Nat) (B : Nat → LN) : Prop := Hs 0 1 = nI w ∧ Hs 0 2 = nI v ∧ ∀ j, j < v → CA (Ls (2 + plc v w j)) (B j) ∧ WF (B j)
/-- a line's rows keep what F says; it is a line -/
def GL (F : Nat → Nat → SL → Prop) (A : LN) : Prop := WF A ∧ F A.1.1 A.1.2.1 A.2.1
def SC (F : Nat → Nat → SL → Prop) (Ls : Nat → SL) (Hs : SL) (A : LN) (v : Nat) (B : Nat → LN) : Prop := GL F A ∧ CA (Ls 0) A ∧ v ≤ 4 ∧ (∀ j, j < v → GL F (B j)) ∧ ∃ w, w < 4 ∧ HC Ls Hs v w B
/-- A has just been saved: the newest of v', the one before it the newest of v -/
def NX (A : LN) (v : Nat) (B : Nat → LN) (v' : Nat) (B' : Nat → LN) : Prop := 1 ≤ v' ∧ B' (v' - 1) = A ∧ (1 ≤ v → 2 ≤ v' ∧ B' (v' - 2) = B (v - 1))
theorem HC.cls {Ls Ls' : Nat → SL} {Hs : SL} {v w : Nat} {B : Nat → LN} (h : HC Ls Hs v w B) (e : ∀ q, 2 ≤ q → Ls' q = Ls q) : HC Ls' Hs v w B :=
  ⟨h.1, h.2.1, fun j hj => by rw [e _ (by omega)]; exact h.2.2 j hj⟩
theorem SC.cls {F : Nat → Nat → SL → Prop} {Ls Ls' : Nat → SL} {Hs : SL} {A : LN} {v : Nat} {B : Nat → LN} (h : SC F Ls Hs A v B) (e0 : CA (Ls' 0) A) (e : ∀ q, 2 ≤ q → Ls' q = Ls q) : SC F Ls' Hs A v B := by
  obtain ⟨h1, h2, h3, h4, w, h5, h6⟩ := h
  exact ⟨h1, e0, h3, h4, w, h5, h6.cls e⟩
theorem keepC {F : Nat → Nat → SL → Prop} {Ls : Nat → SL} {Hs : SL} {A : LN} {v : Nat} {B : Nat → LN} (h : SC F Ls Hs A v B) : ∃ (Ls' : Nat → SL) (Hs' : SL) (v' : Nat) (B' : Nat → LN), f_X1_keep 0 Ls Hs = some (Ls', Hs') ∧ SC F Ls' Hs' A v' B' ∧ NX A v B v' B' := by
  obtain ⟨hA, cA, hv, hF, w, hw, h1, h2, hB⟩ := h
  obtain ⟨Ls', e2, c2, c3⟩ := c_copy (i := 0) (j := 2 + (w + 1) % 4) (by omega) hA.1.1 hA.1.2.2.1 cA
  refine ⟨Ls', if v = 4 then up2 Hs 0 1 (nI ((w + 1) % 4)) else up2 (up2 Hs 0 1 (nI ((w + 1) % 4))) 0 2 (nI (v + 1)), min (v + 1) 4, fun j => if j = min v 3 then A else B (if v = 4 then j + 1 else j), ?_, ⟨hA, by rw [c3 0 (by omega)]; exact cA, by omega, fun j hj => ?_, (w + 1) % 4, by omega, ?_, ?_, fun j hj => ?_⟩, by omega, ?_, fun hv1 => ⟨by omega, ?_⟩⟩
  · unfold f_X1_keep
    simp only [lt_n]
    rw [h1, nI_1, n_mod4 (by omega), up2_s, n_chk (by omega) (by omega), gd_n, nI_clamp (by omega), e2, bd_s, show up2 Hs 0 1 (nI ((w + 1) % 4)) 0 2 = Hs 0 2 from up2_q (by omega), h2]
    by_cases g : v = 4
    · rw [if_pos g, if_pos (show (4 : Int32) ≤ nI v from nI_le (a := 4) (b := v) (by omega) (by omega))]
    · rw [if_neg g, if_neg (show ¬ (4 : Int32) ≤ nI v from nI_ge (a := v) (b := 4) (by omega) (by omega)), nI_1]
  · dsimp only
    by_cases g : j = min v 3
    · rw [if_pos g]; exact hA
    · rw [if_neg g]
      exact hF _ (by split <;> omega)
  · split
    · rw [up2_s]
    · rw [up2_q (by omega), up2_s]
  · split
    · rename_i g
      rw [up2_q (by omega), h2, g]; rfl
    · rw [up2_s, show min (v + 1) 4 = v + 1 by omega]
  · dsimp only
    by_cases g : j = min v 3
    · rw [if_pos g]
      refine ⟨?_, hA.1⟩
      have : plc (min (v + 1) 4) ((w + 1) % 4) j = (w + 1) % 4 := by unfold plc; omega
      rw [this]; exact c2
    · rw [if_neg g]
      have hj2 : (if v = 4 then j + 1 else j) < v := by split <;> omega
      obtain ⟨b1, b3⟩ := hB _ hj2
      have hp : plc (min (v + 1) 4) ((w + 1) % 4) j = plc v w (if v = 4 then j + 1 else j) := by
        unfold plc
        split <;> omega
      have hne : 2 + plc v w (if v = 4 then j + 1 else j) ≠ 2 + (w + 1) % 4 := by
        unfold plc
        split <;> omega
      refine ⟨?_, b3⟩
      rw [hp, c3 _ hne]; exact b1
  · exact if_pos (by omega)
  · dsimp only
    rw [if_neg (by omega)]
    congr 1
    split <;> omega
theorem backC {F : Nat → Nat → SL → Prop} {Ls : Nat → SL} {Hs : SL} {A : LN} {v : Nat} {B : Nat → LN} (h : SC F Ls Hs A v B) (hv0 : 0 < v) : ∃ (Ls' : Nat → SL) (Hs' : SL), f_X1_giveBack 0 Ls Hs = some (Ls', Hs') ∧ Hs' 0 2 = nI (v - 1) ∧ SC F Ls' Hs' (B (v - 1)) (v - 1) B := by
  obtain ⟨hA, cA, hv, hF, w, hw, h1, h2, hB⟩ := h
  obtain ⟨b1, b3⟩ := hB (v - 1) (by omega)
  have hpl : plc v w (v - 1) = w := by unfold plc; omega
  rw [hpl] at b1
  obtain ⟨Ls', e2, c2, c3⟩ := c_copy (i := 2 + w) (j := 0) (by omega) b3.1 b3.2.2.1 b1
  refine ⟨Ls', up2 (up2 Hs 0 1 (nI ((w + 3) % 4))) 0 2 (nI (v - 1)), ?_, up2_s _ _ _ _, hF (v - 1) (by omega), c2, by omega, fun j hj => hF j (by omega), (w + 3) % 4, by omega, ?_, up2_s _ _ _ _, fun j hj => ?_⟩
  · unfold f_X1_giveBack
    simp only [lt_n]
    rw [h2, h1, if_pos (show ¬ nI v = 0 from fun z => absurd ((nI_eq (a := v) (b := 0) (by omega) (by omega)).mp z) (by omega)), n_chk (by omega) (by omega), gd_n, nI_clamp (by omega), e2, bd_s, show nI w + 4 = nI (w + 4) from nI_add w 4, show nI (w + 4) - 1 = nI (w + 3) from nI_m1 (w + 3), n_mod4 (by omega), show up2 Hs 0 1 (nI ((w + 3) % 4)) 0 2 = Hs 0 2 from up2_q (by omega), h2, show nI v - 1 = nI (v - 1) from pk_sub (b := 1) (by omega)]
  · rw [up2_q (by omega), up2_s]
  · obtain ⟨d1, d3⟩ := hB j (by omega)
    have hp : plc (v - 1) ((w + 3) % 4) j = plc v w j := by unfold plc; omega
    refine ⟨?_, d3⟩
    rw [hp, c3 _ (by omega)]; exact d1
/-- the line's first cell row is written anew -/
theorem SC.put {F : Nat → Nat → SL → Prop} {Ls : Nat → SL} {L : SL} {Hs : SL} {A A2 : LN} {v : Nat} {B : Nat → LN} (h : SC F Ls Hs A v B) (g : GL F A2) (c : CA L A2) : SC F (va_up Ls 0 L) Hs A2 v B := by
  obtain ⟨h1, h2, h3, h4, w, h5, h6⟩ := h
  exact ⟨g, by rw [va_0]; exact c, h3, h4, w, h5, h6.cls (fun q hq => va_up_ne _ _ (by omega))⟩
/-- what a call that changes the line comes to -/
def C2 (F : Nat → Nat → SL → Prop) (A A2 : LN) (v : Nat) (B : Nat → LN) (b : Int32) (fC : Option (Sum (Int32 × (Nat → SL) × SL) Nat)) : Prop := ∃ (Ls' : Nat → SL) (Hs' : SL) (v' : Nat) (B' : Nat → LN), fC = some (Sum.inl (b, Ls', Hs')) ∧ SC F Ls' Hs' A2 v' B' ∧ NX A v B v' B'
section CALLS
variable {F : Nat → Nat → SL → Prop} {Ls : Nat → SL} {Hs : SL} {n t p v : Nat} {R S : SL} {B : Nat → LN}
theorem a_add (h : SC F Ls Hs ((n, t, p), R, S) v B) {x1 x2 x3 : Int32} (g1 : cyc x1 x2) (g2 : 0 ≤ x3 ∧ x3 ≤ 40) (hF : n < 8 → t = 0 → F (n + 1) t (joinS R n x1 x2 x3)) : (n < 8 ∧ t = 0 ∧ C2 F ((n, t, p), R, S) ((n + 1, t, p), joinS R n x1 x2 x3, S) v B (nI n) (f_X5_addMachine Ls Hs x1 x2 x3)) ∨ f_X5_addMachine Ls Hs x1 x2 x3 = some (Sum.inr 2) := by
  have hn : n ≤ 8 := h.1.1.1
  have ht : t ≤ 10000 := h.1.1.2.1
  have c0 : CL n t p (Ls 0) R S := h.2.1
  unfold f_X5_addMachine f_X5_addMachine_b18 f_X5_addMachine_b50
  rw [c_cycs, bd_n, is_in, bd_n]
  simp only [lt_n, bI0t g1, bI0t g2, if_false, not_false_eq_true, if_true]
  rw [c0.1, c0.2.1]
  by_cases g3 : n < 8
  · rw [if_neg (show ¬ (8 : Int32) ≤ nI n from nI_ge (a := n) (b := 8) (by omega) (by omega))]
    by_cases g4 : t = 0
    · subst g4
      obtain ⟨Ls', Hs', v', B', e1, d, nx⟩ := keepC h
      obtain ⟨L2, e3, j1⟩ := c_join (L := Ls' 0) g3 d.2.1 x1 x2 x3
      refine Or.inl ⟨g3, rfl, va_up Ls' 0 L2, Hs', v', B', ?_, d.put ⟨WF_join h.1.1 g3 g1 g2, hF g3 rfl⟩ j1, nx⟩
      rw [if_pos (show nI 0 = 0 from rfl), e1, bd2_n, e3, bd2_n]
    · refine Or.inr ?_
      rw [if_neg (show ¬ nI t = 0 from fun z => g4 ((nI_eq (a := t) (b := 0) (by omega) (by omega)).mp z))]
  · refine Or.inr ?_
    rw [if_pos (show (8 : Int32) ≤ nI n from nI_le (a := 8) (b := n) (by omega) (by omega))]
theorem a_addR {x1 x2 x3 : Int32} (g1 : ¬ cyc x1 x2) : f_X5_addMachine Ls Hs x1 x2 x3 = some (Sum.inr 1) := by
  unfold f_X5_addMachine f_X5_addMachine_b18
  rw [c_cycs, bd_n]
  simp only [bI0f g1, if_true]
theorem a_need (h : SC F Ls Hs ((n, t, p), R, S) v B) {m : Nat} (hm : m < n) : f_X5_needMachine Ls (nI m) = some (Sum.inl ()) := by
  rcases c_need h.1.1.1 (show Ls 0 0 2 = nI n from h.2.1.1) (nI m) with ⟨m', e, h1, h2⟩ | ⟨h1, h2⟩
  · exact h2
  · exact absurd ⟨m, rfl, hm⟩ h1
theorem a_needR (h : SC F Ls Hs ((n, t, p), R, S) v B) {x : Int32} (hx : ¬ ∃ m, x = nI m ∧ m < n) : f_X5_needMachine Ls x = some (Sum.inr 3) := by
  rcases c_need h.1.1.1 (show Ls 0 0 2 = nI n from h.2.1.1) x with ⟨m', e, h1, h2⟩ | ⟨h1, h2⟩
  · exact absurd ⟨m', e, h1⟩ hx
  · exact h2
theorem a_set (h : SC F Ls Hs ((n, t, p), R, S) v B) {m : Nat} (hm : m < n) {x2 x3 x4 x5 : Int32} (g1 : cyc x2 x3) (g2 : 0 ≤ x5 ∧ x5 ≤ 40) (g3 : 0 ≤ x4 ∧ x4 ≤ x5) (hF : F n t (up2 (up2 (up2 (up2 R m 0 x2) m 1 x3) m 2 x4) m 3 x5)) : C2 F ((n, t, p), R, S) ((n, t, p), up2 (up2 (up2 (up2 R m 0 x2) m 1 x3) m 2 x4) m 3 x5, S) v B (R m 1) (f_X5_setMachine Ls Hs (nI m) x2 x3 x4 x5) := by
  have hn : n ≤ 8 := h.1.1.1
  unfold f_X5_setMachine f_X5_setMachine_b35
  rw [a_need h hm, bd_n, sx_i, c_cycs, bd_n, is_in, bd_n, is_in, bd_n]
  simp only [lt_n, bI0t g1, bI0t g2, bI0t g3, if_false]
  obtain ⟨Ls', Hs', v', B', e1, d, nx⟩ := keepC h
  have d1' : CL n t p (Ls' 0) R S := d.2.1
  rw [e1, bd2_n, n_chk (by omega) (by omega), gd_n, nI_clamp (by omega), va_0, va_0]
  obtain ⟨L2, e3, j1⟩ := c_mark (m := m) hn hm ((d1'.put (m := m) (c := 0) (by omega) x2).put (m := m) (c := 1) (by omega) x3) x4 x5
  rw [e3, bd_n, d1'.2.2.2.1 m 1 hm (by omega)]
  refine ⟨_, Hs', v', B', rfl, ?_, nx⟩
  have q : SC F (va_up Ls' 0 L2) Hs' ((n, t, p), up2 (up2 (up2 (up2 R m 0 x2) m 1 x3) m 2 x4) m 3 x5, S) v' B' := d.put ⟨WF_set h.1.1 hm g1, hF⟩ j1
  refine q.cls (by rw [va_0]; exact j1) (fun z hz => ?_)
  rw [va_up_ne _ _ (by omega), va_up_ne _ _ (by omega), va_up_ne _ _ (by omega), va_up_ne _ _ (by omega)]
theorem a_setR (h : SC F Ls Hs ((n, t, p), R, S) v B) {x1 x2 x3 x4 x5 : Int32} (hx : ¬ ∃ m, x1 = nI m ∧ m < n) : f_X5_setMachine Ls Hs x1 x2 x3 x4 x5 = some (Sum.inr 3) := by
  unfold f_X5_setMachine
  rw [a_needR h hx, bd_n, sx_r]
theorem a_cap (h : SC F Ls Hs ((n, t, p), R, S) v B) {m : Nat} (hm : m < n) {x2 : Int32} (g2 : 0 ≤ x2 ∧ x2 ≤ 40) (hF : F n t (up2 R m 4 x2)) : C2 F ((n, t, p), R, S) ((n, t, p), up2 R m 4 x2, S) v B (R m 4) (f_X5_setCapacity Ls Hs (nI m) x2) := by
  have hn : n ≤ 8 := h.1.1.1
  unfold f_X5_setCapacity
  rw [a_need h hm, bd_n, sx_i, is_in, bd_n]
  simp only [lt_n, bI0t g2, if_false]
  obtain ⟨Ls', Hs', v', B', e1, d, nx⟩ := keepC h
  have d1' : CL n t p (Ls' 0) R S := d.2.1
  rw [if_pos not_false, e1, bd2_n, n_chk (by omega) (by omega), gd_n, nI_clamp (by omega), d1'.2.2.2.1 m 4 hm (by omega)]
  exact ⟨_, Hs', v', B', rfl, d.put ⟨WF_cap h.1.1 g2, hF⟩ (d1'.put (by omega) x2), nx⟩
theorem a_capR (h : SC F Ls Hs ((n, t, p), R, S) v B) {x1 x2 : Int32} (hx : ¬ ∃ m, x1 = nI m ∧ m < n) : f_X5_setCapacity Ls Hs x1 x2 = some (Sum.inr 3) := by
  unfold f_X5_setCapacity
  rw [a_needR h hx, bd_n, sx_r]
theorem a_stp (h : SC F Ls Hs ((n, t, p), R, S) v B) {m : Nat} (hm : m < n) {x2 x3 : Int32} (g1 : nI (t + 1) ≤ x2 ∧ x2 ≤ 10000) (g2 : 1 ≤ x3 ∧ x3 ≤ 200) : (p < 40 ∧ C2 F ((n, t, p), R, S) ((n, t, p + 1), R, plaS S p (nI m) x2 x3) v B (nI (p + 1)) (f_X5_addStop Ls Hs (nI m) x2 x3)) ∨ f_X5_addStop Ls Hs (nI m) x2 x3 = some (Sum.inr 2) := by
  have hn : n ≤ 8 := h.1.1.1
  have ht : t ≤ 10000 := h.1.1.2.1
  have hp : p ≤ 40 := h.1.1.2.2.1
  have c0 : CL n t p (Ls 0) R S := h.2.1
  have q1 : ¬ x2 ≤ nI t := fun z => by
    have := (nI_leI (a := t + 1) (b := t) (by omega) (by omega)).mp (i_lele g1.1 z)
    omega
  unfold f_X5_addStop f_X5_addStop_b34
  rw [a_need h hm, bd_n, sx_i]
  simp only [lt_n]
  rw [c0.2.1, if_neg q1, if_neg (i_nlt g1.2), is_in, bd_n]
  simp only [bI0t g2, not_false_eq_true, if_true]
  rw [c0.2.2.1]
  by_cases g3 : p < 40
  · rw [if_pos (show nI p < 40 from nI_lt (a := p) (b := 40) g3 (by omega))]
    obtain ⟨Ls', Hs', v', B', e1, d, nx⟩ := keepC h
    have d1' : CL n t p (Ls' 0) R S := d.2.1
    obtain ⟨L2, e3, j1⟩ := c_plan (L := Ls' 0) hn g3 d1' (nI m) x2 x3
    rw [e1, bd2_n, e3, bd_n, va_0, j1.2.2.1]
    have w2 : 1 ≤ x2.toInt ∧ x2.toInt ≤ 10000 := by
      have z := g1
      rw [Int32.le_iff_toInt_le, Int32.le_iff_toInt_le, nI_toInt (by omega), i_10000] at z
      omega
    have w3 : 1 ≤ x3.toInt ∧ x3.toInt ≤ 200 := by
      have z := g2
      rw [Int32.le_iff_toInt_le, Int32.le_iff_toInt_le, i_1, i_200] at z
      exact z
    exact Or.inl ⟨g3, _, Hs', v', B', rfl, d.put ⟨WF_pla h.1.1 g3 w2 w3, h.1.2⟩ j1, nx⟩
  · refine Or.inr ?_
    rw [if_neg (show ¬ nI p < 40 by rw [show p = 40 by omega]; decide)]
theorem a_stpR (h : SC F Ls Hs ((n, t, p), R, S) v B) {x1 x2 x3 : Int32} (hx : ¬ ∃ m, x1 = nI m ∧ m < n) : f_X5_addStop Ls Hs x1 x2 x3 = some (Sum.inr 3) := by
  unfold f_X5_addStop
  rw [a_needR h hx, bd_n, sx_r]
theorem a_rndL {up dn num m : Nat} (hu : 1 ≤ up ∧ up ≤ 500) (hd : 1 ≤ dn ∧ dn ≤ 100) (hnum : num ≤ 40) : ∀ (j k f : Nat) (Ls : Nat → SL) (S : SL) (p e a : Nat), k + j = num → j < f → a < 2147483648 → e ≤ 10200 → p + j ≤ 40 → WF ((n, t, p), R, S) → CA (Ls 0) ((n, t, p), R, S) →
    ∃ (p' : Nat) (S' : SL) (Ls' : Nat → SL), f_X5_addRandomStops_h119 f Ls Hs (nI m) (nI up) (nI dn) (nI num) (nI e) (nI k) (lN a) = some (Sum.inl (nI p', Ls', Hs)) ∧ WF ((n, t, p'), R, S') ∧ CA (Ls' 0) ((n, t, p'), R, S') ∧ ∀ q, q ≠ 0 → Ls' q = Ls q := by
  intro j
  induction j with
  | zero =>
    intro k f Ls S p e a hk hf ha he hp hW cA
    obtain ⟨f', rfl⟩ : ∃ f', f = f' + 1 := ⟨f - 1, by omega⟩
    have c0 : CL n t p (Ls 0) R S := cA
    refine ⟨p, S, Ls, ?_, hW, cA, fun _ _ => rfl⟩
    show f_X5_addRandomStops_b119 _ Ls Hs _ _ _ _ _ _ _ = _
    unfold f_X5_addRandomStops_b119 f_X5_addRandomStops_b195
    rw [if_pos (nI_le (by omega) (by omega)), lt_n, c0.2.2.1]
  | succ j ih =>
    intro k f Ls S p e a hk hf ha he hp hW cA
    obtain ⟨f', rfl⟩ : ∃ f', f = f' + 1 := ⟨f - 1, by omega⟩
    have hn : n ≤ 8 := hW.1
    have c0 : CL n t p (Ls 0) R S := cA
    have hb := drA_b a
    have hb2 := drA_b (drA a)
    have r1 : drA a / 65536 % (2 * up) < 2 * up := Nat.mod_lt _ (by omega)
    have r2 : drA (drA a) / 65536 % (2 * dn) < 2 * dn := Nat.mod_lt _ (by omega)
    have eC : f_X5_addRandomStops_h119 (f' + 1) Ls Hs (nI m) (nI up) (nI dn) (nI num) (nI e) (nI k) (lN a) = if nI (e + 1 + drA a / 65536 % (2 * up)) ≤ 10000 then bd (f_X4_plan (Ls 0) (nI m) (nI (e + 1 + drA a / 65536 % (2 * up))) (nI (1 + drA (drA a) / 65536 % (2 * dn)))) (fun L14 => f_X5_addRandomStops_h119 f' (va_up Ls 0 L14) Hs (nI m) (nI up) (nI dn) (nI num) (nI (e + 1 + drA a / 65536 % (2 * up) + (1 + drA (drA a) / 65536 % (2 * dn)) - 1)) (nI (k + 1)) (lN (drA (drA a)))) else some (Sum.inl (nI p, Ls, Hs)) := by
      show f_X5_addRandomStops_b119 _ Ls Hs _ _ _ _ _ _ _ = _
      unfold f_X5_addRandomStops_b119 f_X5_addRandomStops_b195
      simp only [lt_n]
      rw [if_neg (nI_ge (by omega) (by omega)), nI_1, show 2 * nI up = nI (2 * up) from pk_mul 2 up, show 2 * nI dn = nI (2 * dn) from pk_mul 2 dn, c_draw ha (by omega), bd2_n, nI_add, c_draw hb (by omega), bd2_n, show 1 + nI (drA (drA a) / 65536 % (2 * dn)) = nI (1 + drA (drA a) / 65536 % (2 * dn)) from nI_add 1 _, nI_add, nI_1, c0.2.2.1, show nI (e + 1 + drA a / 65536 % (2 * up) + (1 + drA (drA a) / 65536 % (2 * dn))) - 1 = nI (e + 1 + drA a / 65536 % (2 * up) + (1 + drA (drA a) / 65536 % (2 * dn)) - 1) from pk_sub (b := 1) (by omega)]
    by_cases z : e + 1 + drA a / 65536 % (2 * up) ≤ 10000
    · rw [eC, if_pos (show nI (e + 1 + drA a / 65536 % (2 * up)) ≤ 10000 from nI_le (b := 10000) z (by omega))]
      obtain ⟨L2, e3, j1⟩ := c_plan (L := Ls 0) hn (show p < 40 by omega) c0 (nI m) (nI (e + 1 + drA a / 65536 % (2 * up))) (nI (1 + drA (drA a) / 65536 % (2 * dn)))
      rw [e3, bd_n]
      obtain ⟨p', S', Ls', a1, a2, a3, a4⟩ := ih (k + 1) f' (va_up Ls 0 L2) (plaS S p (nI m) (nI (e + 1 + drA a / 65536 % (2 * up))) (nI (1 + drA (drA a) / 65536 % (2 * dn)))) (p + 1) (e + 1 + drA a / 65536 % (2 * up) + (1 + drA (drA a) / 65536 % (2 * dn)) - 1) (drA (drA a)) (by omega) (by omega) hb2 (by omega) (by omega) (WF_pla hW (by omega) (by rw [nI_toInt (by omega)]; omega) (by rw [nI_toInt (by omega)]; omega)) (by rw [va_0]; exact j1)
      exact ⟨p', S', Ls', a1, a2, a3, fun q hq => (a4 q hq).trans (va_up_ne _ _ hq)⟩
    · rw [eC, if_neg (show ¬ nI (e + 1 + drA a / 65536 % (2 * up)) ≤ 10000 from nI_ge (a := 10000) (by omega) (by omega))]
      exact ⟨p, S, Ls, rfl, hW, cA, fun _ _ => rfl⟩
theorem a_rnd (h : SC F Ls Hs ((n, t, p), R, S) v B) {m : Nat} (hm : m < n) {x2 x3 x4 x5 : Int32} (g1 : 0 ≤ x2 ∧ x2 ≤ 999999) (g2 : 1 ≤ x3 ∧ x3 ≤ 500) (g3 : 1 ≤ x4 ∧ x4 ≤ 100) (g4 : 1 ≤ x5 ∧ x5 ≤ 40) : (∃ (p' : Nat) (S' : SL), C2 F ((n, t, p), R, S) ((n, t, p'), R, S') v B (nI p') (f_X5_addRandomStops Ls Hs (nI m) x2 x3 x4 x5) ∧ p' ≤ 40) ∨ f_X5_addRandomStops Ls Hs (nI m) x2 x3 x4 x5 = some (Sum.inr 2) := by
  have hn : n ≤ 8 := h.1.1.1
  have ht : t ≤ 10000 := h.1.1.2.1
  have hp : p ≤ 40 := h.1.1.2.2.1
  have c0 : CL n t p (Ls 0) R S := h.2.1
  have hF2 : 100 < fuel := by unfold fuel; omega
  unfold f_X5_addRandomStops f_X5_addRandomStops_b48
  generalize fuel = FU at hF2 ⊢
  rw [a_need h hm, bd_n, sx_i]
  simp only [lt_n, bd_n, is_in, bI0t g1, bI0t g2, bI0t g3, bI0t g4, not_false_eq_true, if_true, if_false]
  rw [c0.2.2.1]
  obtain ⟨s0, rfl, hs0⟩ := i_rng (K := 999999) (by omega) g1
  obtain ⟨up, rfl, hu1, hu2⟩ := i_rngA (A := 1) (K := 500) (by omega) (by omega) g2
  obtain ⟨dn, rfl, hd1, hd2⟩ := i_rngA (A := 1) (K := 100) (by omega) (by omega) g3
  obtain ⟨num, rfl, hm1, hm2⟩ := i_rngA (A := 1) (K := 40) (by omega) (by omega) g4
  rw [nI_add]
  by_cases g5 : p + num ≤ 40
  · rw [if_pos (show nI (p + num) ≤ 40 from nI_le (b := 40) g5 (by omega))]
    obtain ⟨Ls', Hs', v', B', e1, d, nx⟩ := keepC h
    have d1' : CL n t p (Ls' 0) R S := d.2.1
    rw [e1, bd2_n, nI_l (by omega), d1'.2.1]
    obtain ⟨p', S', L2, a1, a2, a3, a4⟩ := a_rndL (R := R) (Hs := Hs') (n := n) (t := t) (m := m) (up := up) (dn := dn) (num := num) ⟨hu1, hu2⟩ ⟨hd1, hd2⟩ hm2 num 0 FU Ls' S p t s0 (by omega) (by omega) (by omega) (by omega) (by omega) h.1.1 d.2.1
    refine Or.inl ⟨p', S', ⟨L2, Hs', v', B', a1, ?_, nx⟩, a2.2.2.1⟩
    obtain ⟨h1, h2, h3, h4, w, h5, h6⟩ := d
    exact ⟨⟨a2, h.1.2⟩, a3, h3, h4, w, h5, h6.cls (fun q hq => a4 q (by omega))⟩
  · refine Or.inr ?_
    rw [if_neg (show ¬ nI (p + num) ≤ 40 from nI_ge (a := 40) (by omega) (by omega))]
theorem a_rndR (h : SC F Ls Hs ((n, t, p), R, S) v B) {x1 x2 x3 x4 x5 : Int32} (hx : ¬ ∃ m, x1 = nI m ∧ m < n) : f_X5_addRandomStops Ls Hs x1 x2 x3 x4 x5 = some (Sum.inr 3) := by
  unfold f_X5_addRandomStops
  rw [a_needR h hx, bd_n, sx_r]
theorem a_clr (h : SC F Ls Hs ((n, t, p), R, S) v B) : ∃ (Ls' : Nat → SL) (Hs' : SL) (v' : Nat) (B' : Nat → LN) (q : Nat), f_X5_clearStops Ls Hs = some (nI q, Ls', Hs') ∧ q ≤ 40 ∧ SC F Ls' Hs' ((n, t, (drpS S t p).1), R, (drpS S t p).2) v' B' ∧ NX ((n, t, p), R, S) v B v' B' := by
  have hn : n ≤ 8 := h.1.1.1
  have hp : p ≤ 40 := h.1.1.2.2.1
  obtain ⟨Ls', Hs', v', B', e1, d, nx⟩ := keepC h
  have d1' : CL n t p (Ls' 0) R S := d.2.1
  obtain ⟨L2, e3, j1⟩ := c_drop hn hp d1'
  have hq := drp_le S t p
  have hA := h.1.1
  unfold f_X5_clearStops
  simp only [lt_n]
  rw [e1, bd2_n, d1'.2.1, e3, bd2_n]
  exact ⟨_, _, v', B', _, rfl, by omega, d.put ⟨⟨hn, hA.2.1, by show (drpS S t p).1 ≤ 40; omega, hA.2.2.2.1, hA.2.2.2.2.1, WS_drp hA.2.2.2.2.2.1 p (Nat.le_refl p), hA.2.2.2.2.2.2⟩, h.1.2⟩ j1, nx⟩
theorem a_run (h : SC F Ls Hs ((n, t, p), R, S) v B) (hn0 : 0 < n) {T : Nat} (hT : T ≤ 2000) (g : t + T ≤ 10000) (hF : F n (t + T) (pasS n p S T t R)) : C2 F ((n, t, p), R, S) ((n, t + T, p), pasS n p S T t R, S) v B (outR n (pasS n p S T t R) - outR n R) (f_X5_run Ls Hs (nI T)) := by
  have hA := h.1.1
  have hn : n ≤ 8 := hA.1
  have hp : p ≤ 40 := hA.2.2.1
  have c0 : CL n t p (Ls 0) R S := h.2.1
  unfold f_X5_run f_X5_needMachines
  simp only [lt_n, bd_n, is_in, bI0t (show 0 ≤ nI T ∧ nI T ≤ 2000 from ⟨nI_le (a := 0) (by omega) (by omega), nI_le (a := T) (b := 2000) hT (by omega)⟩), not_false_eq_true, if_true]
  rw [c0.1, if_pos (show (1 : Int32) ≤ nI n from nI_le (a := 1) (b := n) (by omega) (by omega)), bd_n, sx_i, c0.2.1, nI_add, if_pos (show nI (t + T) ≤ 10000 from nI_le (a := t + T) (b := 10000) g (by omega))]
  obtain ⟨Ls', Hs', v', B', e1, d, nx⟩ := keepC h
  have d1' : CL n t p (Ls' 0) R S := d.2.1
  obtain ⟨L2, e3, j1⟩ := c_pas (n := n) (t := t) (p := p) (R := R) (S := S) (T := T) hn (by omega) hp (by omega) (by omega) d1'
  rw [e1, bd2_n, c_outs hn d1', bd_n, e3, bd_n, va_0, c_outs hn j1, bd_n]
  exact ⟨_, Hs', v', B', rfl, d.put ⟨⟨hn, g, hp, hA.2.2.2.1.kp (KP_pas _ _ _ _ _ _), FN_pas _ _ _ hA.2.2.2.2.1, hA.2.2.2.2.2.1, TN_pas T t R g hA.2.2.2.2.2.2⟩, hF⟩ j1, nx⟩
theorem a_run0 (h : SC F Ls Hs ((0, t, p), R, S) v B) {T : Nat} (hT : T ≤ 2000) : f_X5_run Ls Hs (nI T) = some (Sum.inr 2) := by
  have c0 : CL 0 t p (Ls 0) R S := h.2.1
  unfold f_X5_run f_X5_needMachines
  simp only [lt_n, bd_n, is_in, bI0t (show 0 ≤ nI T ∧ nI T ≤ 2000 from ⟨nI_le (a := 0) (by omega) (by omega), nI_le (a := T) (b := 2000) hT (by omega)⟩), not_false_eq_true, if_true]
  rw [c0.1, if_neg (show ¬ (1 : Int32) ≤ nI 0 by decide), bd_n, sx_r]
theorem a_runR {x : Int32} (g : ¬ (0 ≤ x ∧ x ≤ 2000)) : f_X5_run Ls Hs x = some (Sum.inr 1) := by
  unfold f_X5_run
  simp only [lt_n, bd_n, is_in, bI0f g, not_true_eq_false, if_false]
theorem a_rst (h : SC F Ls Hs ((n, t, p), R, S) v B) (hF : F n 0 (allS n R)) : ∃ (Ls' : Nat → SL) (Hs' : SL) (v' : Nat) (B' : Nat → LN), f_X5_restart Ls Hs = some (nI t, Ls', Hs') ∧ SC F Ls' Hs' ((n, 0, p), allS n R, S) v' B' ∧ NX ((n, t, p), R, S) v B v' B' := by
  have hA := h.1.1
  have hn : n ≤ 8 := hA.1
  have hp : p ≤ 40 := hA.2.2.1
  obtain ⟨Ls', Hs', v', B', e1, d, nx⟩ := keepC h
  have d1' : CL n t p (Ls' 0) R S := d.2.1
  obtain ⟨L2, e3, j1⟩ := c_new hn d1'
  unfold f_X5_restart
  simp only [lt_n]
  rw [e1, bd2_n, d1'.2.1, e3, bd_n]
  exact ⟨_, Hs', v', B', rfl, d.put ⟨⟨hn, by show 0 ≤ 10000; omega, hp, hA.2.2.2.1.kp (KP_all _ _), FN_all hA.2.2.2.2.1, hA.2.2.2.2.2.1, TN_all _ _ _⟩, hF⟩ j1, nx⟩
theorem a_und {A : LN} (h : SC F Ls Hs A v B) (hv0 : 0 < v) : ∃ (Ls' : Nat → SL) (Hs' : SL), f_X5_undo Ls Hs = some (Sum.inl (nI (v - 1), Ls', Hs')) ∧ SC F Ls' Hs' (B (v - 1)) (v - 1) B := by
  obtain ⟨Ls', Hs', e2, a1, a2⟩ := backC h hv0
  obtain ⟨hA, cA, hv, hF, w, hw, h1, h2, hB⟩ := h
  unfold f_X5_undo
  simp only [lt_n]
  rw [h2, if_pos (show ¬ nI v = 0 from fun z => absurd ((nI_eq (a := v) (b := 0) (by omega) (by omega)).mp z) (by omega)), e2, bd2_n, a1]
  exact ⟨_, _, rfl, a2⟩
theorem a_und0 {A : LN} (h : SC F Ls Hs A 0 B) : f_X5_undo Ls Hs = some (Sum.inr 2) := by
  obtain ⟨hA, cA, hv, hF, w, hw, h1, h2, hB⟩ := h
  unfold f_X5_undo
  simp only [lt_n]
  rw [h2, if_neg (fun z => z rfl)]
end CALLS
