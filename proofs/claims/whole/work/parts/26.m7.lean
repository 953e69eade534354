/-! THE MEANING, 7: the two states side by side; what is saved -/
/-- a line: machines, tick, planned stops; rows; stops -/
abbrev LN : Type := (Nat × Nat × Nat) × SL × SL
def CA (L : SL) (A : LN) : Prop := CL A.1.1 A.1.2.1 A.1.2.2 L A.2.1 A.2.2
def MA (X : Nat → Int32) (A : LN) : Prop := MB A.1.1 A.1.2.1 A.1.2.2 X A.2.1 A.2.2
def WR (n : Nat) (R : SL) : Prop := ∀ m, m < n → 1 ≤ (R m 1).toInt ∧ (R m 1).toInt ≤ (R m 0).toInt ∧ (R m 0).toInt ≤ 20 ∧ 0 ≤ (R m 4).toInt ∧ (R m 4).toInt ≤ 40
def WS (p : Nat) (S : SL) : Prop := ∀ k, k < p → 1 ≤ (S k 1).toInt ∧ (S k 1).toInt ≤ 10000 ∧ 1 ≤ (S k 2).toInt ∧ (S k 2).toInt ≤ 200
def WF (A : LN) : Prop := A.1.1 ≤ 8 ∧ A.1.2.1 ≤ 10000 ∧ A.1.2.2 ≤ 40 ∧ WR A.1.1 A.2.1 ∧ FN A.1.1 A.2.1 ∧ WS A.1.2.2 A.2.2 ∧ TN A.1.1 A.1.2.1 A.2.1
/-- where the saved line j lies -/
def plc (v w j : Nat) : Nat := (w + 4 - (v - 1 - j)) % 4
def HI (Ls : Nat → SL) (Hs M : SL) (v w : Nat) (B : Nat → LN) : Prop := Hs 0 1 = nI w ∧ Hs 0 2 = nI v ∧ M 0 3 = nI v ∧ ∀ j, j < v → CA (Ls (2 + plc v w j)) (B j) ∧ MA (fun c => M 2 (251 * j + c)) (B j) ∧ WF (B j)
def TI (T M : SL) (len : Nat) : Prop := T 0 1 = nI len ∧ M 0 6 = nI len ∧ ∀ i, i < len → T 1 i = M 4 i
def ST (Ls : Nat → SL) (Hs T M : SL) : Prop := ∃ (A : LN) (B : Nat → LN) (v w len : Nat), v ≤ 4 ∧ w < 4 ∧ len ≤ 120 ∧ WF A ∧ CA (Ls 0) A ∧ MA (M 1) A ∧ HI Ls Hs M v w B ∧ TI T M len
theorem n_mod4 {a : Nat} (ha : a < 100) : nI a - nI a / 4 * 4 = nI (a % 4) := by
  rw [show nI a / 4 = nI (a / 4) from pk_div (d := 4) (by omega) (by omega) (by omega), show nI (a / 4) * 4 = nI (a / 4 * 4) from pk_mul _ 4, pk_sub (by omega), show a - a / 4 * 4 = a % 4 by omega]
theorem keep_ok {Ls : Nat → SL} {Hs M : SL} {A : LN} {B : Nat → LN} {v w : Nat} (hv : v ≤ 4) (hw : w < 4) (hA : WF A) (cA : CA (Ls 0) A) (mA : MA (M 1) A) (h : HI Ls Hs M v w B) : ∃ (Ls' : Nat → SL) (Hs' M' : SL) (w' : Nat) (B' : Nat → LN), f_X1_keep 0 Ls Hs = some (Ls', Hs') ∧ f_X6_saves M = some M' ∧ w' < 4 ∧ HI Ls' Hs' M' (min (v + 1) 4) w' B' ∧ (∀ q, q < 2 → Ls' q = Ls q) ∧ (∀ k, k ≠ 2 → k ≠ 0 → M' k = M k) ∧ ∀ q, q ≠ 3 → M' 0 q = M 0 q := by
  obtain ⟨h1, h2, h3, hB⟩ := h
  obtain ⟨M', e, k1, k2, k3, k4, k5⟩ := m_saves hv h3
  obtain ⟨Ls', e2, c2, c3⟩ := c_copy (i := 0) (j := 2 + (w + 1) % 4) (by omega) hA.1 hA.2.2.1 cA
  refine ⟨Ls', if v = 4 then up2 Hs 0 1 (nI ((w + 1) % 4)) else up2 (up2 Hs 0 1 (nI ((w + 1) % 4))) 0 2 (nI (v + 1)), M', (w + 1) % 4, fun j => if j = min v 3 then A else B (if v = 4 then j + 1 else j), ?_, e, by omega, ⟨?_, ?_, k3, fun j hj => ?_⟩, fun q hq => c3 q (by omega), k1, k2⟩
  · unfold f_X1_keep
    simp only [lt_n]
    rw [h1, nI_1, n_mod4 (by omega), up2_s, n_chk (by omega) (by omega), gd_n, nI_clamp (by omega), e2, bd_s, show up2 Hs 0 1 (nI ((w + 1) % 4)) 0 2 = Hs 0 2 from up2_q (by omega), h2]
    by_cases g : v = 4
    · rw [if_pos g, if_pos (show (4 : Int32) ≤ nI v from nI_le (a := 4) (b := v) (by omega) (by omega))]
    · rw [if_neg g, if_neg (show ¬ (4 : Int32) ≤ nI v from nI_ge (a := v) (b := 4) (by omega) (by omega)), nI_1]
  · split
    · rw [up2_s]
    · rw [up2_q (by omega), up2_s]
  · split
    · rename_i g
      rw [up2_q (by omega), h2, g]; rfl
    · rw [up2_s, show min (v + 1) 4 = v + 1 by omega]
  · dsimp only
    by_cases g : j = min v 3
    · rw [if_pos g]
      refine ⟨?_, ?_, hA⟩
      · have : plc (min (v + 1) 4) ((w + 1) % 4) j = (w + 1) % 4 := by unfold plc; omega
        rw [this]; exact c2
      · exact MB.congr hA.1 hA.2.2.1 mA (fun c hc => by rw [g]; exact k4 c hc)
    · rw [if_neg g]
      have hj2 : (if v = 4 then j + 1 else j) < v := by split <;> omega
      obtain ⟨b1, b2, b3⟩ := hB _ hj2
      have hp : plc (min (v + 1) 4) ((w + 1) % 4) j = plc v w (if v = 4 then j + 1 else j) := by
        unfold plc
        split <;> omega
      have hne : 2 + plc v w (if v = 4 then j + 1 else j) ≠ 2 + (w + 1) % 4 := by
        unfold plc
        split <;> omega
      refine ⟨?_, ?_, b3⟩
      · rw [hp, c3 _ hne]; exact b1
      · exact MB.congr b3.1 b3.2.2.1 b2 (fun c hc => by exact k5 j c (by omega) hc)
theorem back_ok {Ls : Nat → SL} {Hs M M' : SL} {B : Nat → LN} {v w : Nat} (hv : v ≤ 4) (hv0 : 0 < v) (hw : w < 4) (h : HI Ls Hs M v w B) (k2 : M' 2 = M 2) (k3 : M' 0 3 = nI (v - 1)) : ∃ (Ls' : Nat → SL) (Hs' : SL), f_X1_giveBack 0 Ls Hs = some (Ls', Hs') ∧ Hs' 0 2 = nI (v - 1) ∧ HI Ls' Hs' M' (v - 1) ((w + 3) % 4) B ∧ CA (Ls' 0) (B (v - 1)) := by
  obtain ⟨h1, h2, h3, hB⟩ := h
  obtain ⟨b1, b2, b3⟩ := hB (v - 1) (by omega)
  have hpl : plc v w (v - 1) = w := by unfold plc; omega
  rw [hpl] at b1
  obtain ⟨Ls', e2, c2, c3⟩ := c_copy (i := 2 + w) (j := 0) (by omega) b3.1 b3.2.2.1 b1
  refine ⟨Ls', up2 (up2 Hs 0 1 (nI ((w + 3) % 4))) 0 2 (nI (v - 1)), ?_, up2_s _ _ _ _, ⟨?_, up2_s _ _ _ _, k3, fun j hj => ?_⟩, c2⟩
  · unfold f_X1_giveBack
    simp only [lt_n]
    rw [h2, h1, if_pos (show ¬ nI v = 0 from fun z => absurd ((nI_eq (a := v) (b := 0) (by omega) (by omega)).mp z) (by omega)), n_chk (by omega) (by omega), gd_n, nI_clamp (by omega), e2, bd_s, show nI w + 4 = nI (w + 4) from nI_add w 4, show nI (w + 4) - 1 = nI (w + 3) from nI_m1 (w + 3), n_mod4 (by omega), show up2 Hs 0 1 (nI ((w + 3) % 4)) 0 2 = Hs 0 2 from up2_q (by omega), h2, show nI v - 1 = nI (v - 1) from pk_sub (b := 1) (by omega)]
  · rw [up2_q (by omega), up2_s]
  · obtain ⟨d1, d2, d3⟩ := hB j (by omega)
    have hp : plc (v - 1) ((w + 3) % 4) j = plc v w j := by unfold plc; omega
    refine ⟨?_, ?_, d3⟩
    · rw [hp, c3 _ (by omega)]; exact d1
    · rw [k2]; exact d2
