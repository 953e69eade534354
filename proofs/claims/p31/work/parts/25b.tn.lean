/-! THE MEANING, 6b: the idle ticks are no more than the ticks -/
def KI (R R' : SL) : Prop := ∀ m c : Nat, (c = 10 ∨ c = 11) → R' m c = R m c
theorem KI.rf {R : SL} : KI R R := fun _ _ _ => rfl
theorem KI.tr {A B C : SL} (h : KI A B) (h2 : KI B C) : KI A C := fun m c hc => (h2 m c hc).trans (h m c hc)
theorem KI.put {A R : SL} (h : KI A R) {m c : Nat} {v : Int32} (hc : c ≠ 10 ∧ c ≠ 11) : KI A (up2 R m c v) := fun q k hk => (up2_q (by omega)).trans (h q k hk)
theorem KI_out (R : SL) (m : Nat) : KI R (outS R m) := (KI.rf.put (by omega)).put (by omega)
theorem KI_rel (n : Nat) (b : Int32) (R : SL) (m : Nat) : KI R (relS n b R m) := by
  unfold relS
  split
  · split
    · exact (KI.rf.put (by omega)).tr (KI_out _ _)
    · split
      · exact (KI.rf.put (by omega)).tr (KI_out _ _)
      · exact KI.rf
  · exact KI_out _ _
theorem KI_spd (n : Nat) (R : SL) (m : Nat) : KI R (spdS n R m) := by
  unfold spdS
  split
  · exact KI.rf.put (by omega)
  · split
    · exact KI.rf.put (by omega)
    · exact KI.rf
theorem KI_tak (R : SL) (m : Nat) : KI R (takS R m) := by
  unfold takS
  split
  · exact KI.rf.put (by omega)
  · split
    · exact KI.rf
    · exact (KI.rf.put (by omega)).put (by omega)
theorem KI_rl2 (n : Nat) (b : Int32) (R : SL) (m : Nat) : KI R (rl2S n b R m) := by
  unfold rl2S
  split
  · exact KI_rel _ _ _ _
  · exact KI.rf
theorem KI_tk2 (R : SL) (m : Nat) : KI R (tk2S R m) := by
  unfold tk2S
  split
  · exact KI_tak _ _
  · exact KI.rf
theorem KI_cor (n : Nat) (b : Int32) (R : SL) (m : Nat) : KI R (corS n b R m).2 := by
  have h3 := ((KI_spd n R m).tr (KI_rl2 n b _ m)).tr (KI_tk2 _ m)
  unfold corS
  split
  · exact KI_spd _ _ _
  · split
    · dsimp only
      split
      · exact (h3.put (by omega)).tr (KI_rel _ _ _ _)
      · exact h3.put (by omega)
    · exact h3
/-- a machine's idle ticks, no more than x -/
def BI (x : Nat) (R : SL) (m : Nat) : Prop := 0 ≤ (R m 10).toInt ∧ 0 ≤ (R m 11).toInt ∧ (R m 10).toInt + (R m 11).toInt ≤ x
def TN (n t : Nat) (R : SL) : Prop := ∀ m, m < n → BI t R m
theorem BI.ki {x : Nat} {R R' : SL} {m : Nat} (h : BI x R m) (k : KI R R') : BI x R' m := by
  unfold BI
  rw [k m 10 (Or.inl rfl), k m 11 (Or.inr rfl)]
  exact h
theorem BI.not_ {x : Nat} {R : SL} {m q k : Nat} (h : BI x R m) (hx : x ≤ 20000) : BI (if m = q then x + 1 else x) (notS R q k) m := by
  obtain ⟨h1, h2, h3⟩ := h
  unfold BI notS
  by_cases e : m = q
  · subst e
    rw [if_pos rfl]
    by_cases e1 : 8 + k = 10
    · rw [e1, up2_s, up2_q (by omega), up2_q (by omega), i_add (by rw [i_1]; omega) (by rw [i_1]; omega), i_1]
      omega
    · by_cases e2 : 8 + k = 11
      · rw [e2, up2_s, up2_q (by omega), up2_q (by omega), i_add (by rw [i_1]; omega) (by rw [i_1]; omega), i_1]
        omega
      · rw [up2_q (by omega), up2_q (by omega), up2_q (by omega), up2_q (by omega)]
        omega
  · rw [if_neg e, up2_q (by omega), up2_q (by omega), up2_q (by omega), up2_q (by omega)]
    exact ⟨h1, h2, h3⟩
theorem BI_tur {n x q : Nat} {b : Int32} {R : SL} {m : Nat} (h : BI x R m) (hx : x ≤ 20000) : BI (if m = q then x + 1 else x) (turS n b R q) m := by
  rw [tur_cor]
  exact (h.ki (KI_cor n b R q)).not_ hx
theorem TN_trs {n t : Nat} (b : Int32) (ht : t ≤ 10000) : ∀ (k : Nat) (R : SL), k ≤ n → (∀ m, m < n → BI (if m < k then t else t + 1) R m) → TN n (t + 1) (trsS n b k R)
  | 0, _, _, h => h
  | k + 1, R, hk, h => by
    refine TN_trs b ht k _ (by omega) (fun m hm => ?_)
    have g := BI_tur (n := n) (b := b) (q := k) (h m hm) (by split <;> omega)
    by_cases e : m = k
    · subst e
      rw [if_pos rfl, if_pos (by omega)] at g
      rw [if_neg (by omega)]
      exact g
    · rw [if_neg e] at g
      by_cases e2 : m < k
      · rw [if_pos (by omega)] at g
        rw [if_pos e2]
        exact g
      · rw [if_neg (by omega)] at g
        rw [if_neg e2]
        exact g
theorem KI_fls : ∀ (k : Nat) (R : SL), KI R (flsS k R)
  | 0, _ => KI.rf
  | k + 1, R => by
    refine (KI_fls k R).tr ?_
    show KI (flsS k R) (fl1S (flsS k R) k)
    unfold fl1S
    split
    · exact KI.rf.put (by omega)
    · exact (KI.rf.put (by omega)).put (by omega)
theorem TN_pas {n p : Nat} {S : SL} : ∀ (j t : Nat) (R : SL), t + j ≤ 10000 → TN n t R → TN n (t + j) (pasS n p S j t R)
  | 0, _, _, _, h => h
  | j + 1, t, R, hj, h => by
    have g := TN_pas (n := n) (p := p) (S := S) j (t + 1) (ticS n (dbS S (t + 1) p) R) (by omega) (fun m hm => (TN_trs _ (by omega) n R (Nat.le_refl n) (fun q hq => by rw [if_pos hq]; exact h q hq) m hm).ki (KI_fls _ _))
    rw [show t + (j + 1) = t + 1 + j by omega]
    exact g
theorem TN.ki {n t : Nat} {R R' : SL} (h : TN n t R) (k : KI R R') : TN n t R' := fun m hm => (h m hm).ki k
theorem TN_all (n t : Nat) (R : SL) : TN n t (allS n R) := fun m hm => by
  have a : ∀ c, (c = 10 ∨ c = 11) → allS n R m c = 0 := fun c hc => (if_pos ⟨hm, by omega, by omega⟩).trans (by rcases hc with rfl | rfl <;> rfl)
  unfold BI
  rw [a 10 (Or.inl rfl), a 11 (Or.inr rfl), i_0]
  omega
theorem TN_zero {n t : Nat} {R : SL} (h : TN n t R) (hn : 0 < n) (ht : t ≤ 10000) : ¬ (1000000 : Int32) ≤ idl R 0 := fun z => by
  obtain ⟨h1, h2, h3⟩ := h 0 hn
  rw [Int32.le_iff_toInt_le] at z
  unfold idl at z
  rw [i_add (by omega) (by omega), show (1000000 : Int32).toInt = 1000000 from rfl] at z
  omega
