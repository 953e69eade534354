/-! THE MEANING, 10: call against call: what passes, what is taken back -/
def KP (R R' : SL) : Prop := ∀ m c : Nat, c < 5 → R' m c = R m c
theorem KP.rf {R : SL} : KP R R := fun _ _ _ => rfl
theorem KP.tr {A B C : SL} (h : KP A B) (h2 : KP B C) : KP A C := fun m c hc => (h2 m c hc).trans (h m c hc)
theorem KP.put {A R : SL} (h : KP A R) {m c : Nat} {v : Int32} (hc : 5 ≤ c) : KP A (up2 R m c v) := fun q k hk => (up2_q (by omega)).trans (h q k hk)
theorem KP_out (R : SL) (m : Nat) : KP R (outS R m) := (KP.rf.put (by omega)).put (by omega)
theorem KP_not (R : SL) (m k : Nat) : KP R (notS R m k) := (KP.rf.put (by omega)).put (by omega)
theorem KP_rel (n : Nat) (b : Int32) (R : SL) (m : Nat) : KP R (relS n b R m) := by
  unfold relS
  split
  · split
    · exact (KP.rf.put (by omega)).tr (KP_out _ _)
    · split
      · exact (KP.rf.put (by omega)).tr (KP_out _ _)
      · exact KP.rf
  · exact KP_out _ _
theorem KP_spd (n : Nat) (R : SL) (m : Nat) : KP R (spdS n R m) := by
  unfold spdS
  split
  · exact KP.rf.put (by omega)
  · split
    · exact KP.rf.put (by omega)
    · exact KP.rf
theorem KP_tak (R : SL) (m : Nat) : KP R (takS R m) := by
  unfold takS
  split
  · exact KP.rf.put (by omega)
  · split
    · exact KP.rf
    · exact (KP.rf.put (by omega)).put (by omega)
theorem KP_rl2 (n : Nat) (b : Int32) (R : SL) (m : Nat) : KP R (rl2S n b R m) := by
  unfold rl2S
  split
  · exact KP_rel _ _ _ _
  · exact KP.rf
theorem KP_tk2 (R : SL) (m : Nat) : KP R (tk2S R m) := by
  unfold tk2S
  split
  · exact KP_tak _ _
  · exact KP.rf
theorem KP_wrk (n : Nat) (b : Int32) (R : SL) (m : Nat) : KP R (wrkS n b R m) := by
  unfold wrkS
  split
  · split
    · exact ((KP.rf.put (by omega)).tr (KP_not _ _ _)).tr (KP_rel _ _ _ _)
    · exact (KP.rf.put (by omega)).tr (KP_not _ _ _)
  · exact KP_not _ _ _
theorem KP_tur (n : Nat) (b : Int32) (R : SL) (m : Nat) : KP R (turS n b R m) := by
  unfold turS
  split
  · exact (KP_spd _ _ _).tr (KP_not _ _ _)
  · exact (((KP_spd _ _ _).tr (KP_rl2 _ _ _ _)).tr (KP_tk2 _ _)).tr (KP_wrk _ _ _ _)
theorem KP_trs (n : Nat) (b : Int32) : ∀ (k : Nat) (R : SL), KP R (trsS n b k R)
  | 0, _ => KP.rf
  | k + 1, R => (KP_tur n b R k).tr (KP_trs n b k _)
theorem KP_fls : ∀ (k : Nat) (R : SL), KP R (flsS k R)
  | 0, _ => KP.rf
  | k + 1, R => by
    refine (KP_fls k R).tr ?_
    show KP (flsS k R) (fl1S (flsS k R) k)
    unfold fl1S
    split
    · exact KP.rf.put (by omega)
    · exact (KP.rf.put (by omega)).put (by omega)
theorem KP_pas (n p : Nat) (S : SL) : ∀ (j t : Nat) (R : SL), KP R (pasS n p S j t R)
  | 0, _, _ => KP.rf
  | j + 1, t, R => ((KP_trs n _ n R).tr (KP_fls _ _)).tr (KP_pas n p S j (t + 1) _)
theorem WR.kp {n : Nat} {R R' : SL} (h : WR n R) (k : KP R R') : WR n R' := fun m hm => by
  rw [k m 0 (by omega), k m 1 (by omega), k m 4 (by omega)]
  exact h m hm
theorem KP_all (n : Nat) (R : SL) : KP R (allS n R) := fun m c hc => if_neg (by omega)
theorem FN_all {n : Nat} {R : SL} (h : FN n R) : FN n (allS n R) := fun m hm => by
  rw [KP_all n R m 4 (by omega), show allS n R m 5 = 0 from (if_pos ⟨hm, by omega, by omega⟩).trans rfl, i_0]
  exact ⟨by omega, by omega, (h m hm).2.2⟩
theorem i_rng {x : Int32} {K : Nat} (hK : K < 2147483648) (h : 0 ≤ x ∧ x ≤ nI K) : ∃ T, x = nI T ∧ T ≤ K := by
  obtain ⟨u, hu, e⟩ := nI_of (fun q => i_nle q h.1)
  refine ⟨u, e, ?_⟩
  have h2 := h.2
  rw [e] at h2
  exact (nI_leI (by omega) (by omega)).mp h2
theorem WS_drp {p t : Nat} {S : SL} (h : WS p S) : ∀ k, k ≤ p → WS (drpS S t k).1 (drpS S t k).2
  | 0, _ => fun i hi => absurd hi (by show ¬ i < 0; omega)
  | k + 1, hk => by
    have ih := WS_drp (t := t) h k (by omega)
    by_cases e : S k 1 ≤ nI t
    · rw [show drpS S t (k + 1) = ((drpS S t k).1 + 1, plaS (drpS S t k).2 (drpS S t k).1 (S k 0) (S k 1) (S k 2)) from if_pos e]
      generalize drpS S t k = D at *
      intro i hi
      have hi' : i < D.1 + 1 := hi
      have g := h k (by omega)
      show 1 ≤ (plaS D.2 D.1 (S k 0) (S k 1) (S k 2) i 1).toInt ∧ (plaS D.2 D.1 (S k 0) (S k 1) (S k 2) i 1).toInt ≤ 10000 ∧ 1 ≤ (plaS D.2 D.1 (S k 0) (S k 1) (S k 2) i 2).toInt ∧ (plaS D.2 D.1 (S k 0) (S k 1) (S k 2) i 2).toInt ≤ 200
      unfold plaS
      by_cases z : i = D.1
      · rw [z, up2_s, up2_q (by omega), up2_s]
        exact g
      · rw [up2_q (by omega), up2_q (by omega), up2_q (by omega), up2_q (by omega), up2_q (by omega), up2_q (by omega)]
        exact ih i (by omega)
    · rw [show drpS S t (k + 1) = drpS S t k from if_neg e]
      exact ih
