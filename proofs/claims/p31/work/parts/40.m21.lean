/-! THE MEANING, 21: capacityFor -/
def KE (R R' : SL) : Prop := ∀ m : Nat, R' m 14 = R m 14
theorem KE.rf {R : SL} : KE R R := fun _ => rfl
theorem KE.tr {A B C : SL} (h : KE A B) (h2 : KE B C) : KE A C := fun m => (h2 m).trans (h m)
theorem KE.put {A R : SL} (h : KE A R) {m c : Nat} {v : Int32} (hc : c ≠ 14) : KE A (up2 R m c v) := fun q => (up2_q (by omega)).trans (h q)
theorem KE_out (R : SL) (m : Nat) : KE R (outS R m) := (KE.rf.put (by omega)).put (by omega)
theorem KE_not (R : SL) (m k : Nat) (hk : k ≤ 4) : KE R (notS R m k) := (KE.rf.put (by omega)).put (by omega)
theorem KE_rel (n : Nat) (b : Int32) (R : SL) (m : Nat) : KE R (relS n b R m) := by
  unfold relS
  split
  · split
    · exact (KE.rf.put (by omega)).tr (KE_out _ _)
    · split
      · exact (KE.rf.put (by omega)).tr (KE_out _ _)
      · exact KE.rf
  · exact KE_out _ _
theorem KE_spd (n : Nat) (R : SL) (m : Nat) : KE R (spdS n R m) := by
  unfold spdS
  split
  · exact KE.rf.put (by omega)
  · split
    · exact KE.rf.put (by omega)
    · exact KE.rf
theorem KE_tak (R : SL) (m : Nat) : KE R (takS R m) := by
  unfold takS
  split
  · exact KE.rf.put (by omega)
  · split
    · exact KE.rf
    · exact (KE.rf.put (by omega)).put (by omega)
theorem KE_rl2 (n : Nat) (b : Int32) (R : SL) (m : Nat) : KE R (rl2S n b R m) := by
  unfold rl2S
  split
  · exact KE_rel _ _ _ _
  · exact KE.rf
theorem KE_tk2 (R : SL) (m : Nat) : KE R (tk2S R m) := by
  unfold tk2S
  split
  · exact KE_tak _ _
  · exact KE.rf
theorem KE_wrk (n : Nat) (b : Int32) (R : SL) (m : Nat) : KE R (wrkS n b R m) := by
  unfold wrkS
  split
  · split
    · exact ((KE.rf.put (by omega)).tr (KE_not _ _ _ (by omega))).tr (KE_rel _ _ _ _)
    · exact (KE.rf.put (by omega)).tr (KE_not _ _ _ (by omega))
  · exact KE_not _ _ _ (by split <;> omega)
theorem KE_tur (n : Nat) (b : Int32) (R : SL) (m : Nat) : KE R (turS n b R m) := by
  unfold turS
  split
  · exact (KE_spd _ _ _).tr (KE_not _ _ _ (by omega))
  · exact (((KE_spd _ _ _).tr (KE_rl2 _ _ _ _)).tr (KE_tk2 _ _)).tr (KE_wrk _ _ _ _)
theorem KE_trs (n : Nat) (b : Int32) : ∀ (k : Nat) (R : SL), KE R (trsS n b k R)
  | 0, _ => KE.rf
  | k + 1, R => (KE_tur n b R k).tr (KE_trs n b k _)
theorem fls_14 (R : SL) (m : Nat) : ∀ k, flsS k R m 14 = if m < k ∧ ¬ R m 5 < R m 4 then R m 14 + 1 else R m 14
  | 0 => by rw [if_neg (by omega)]; rfl
  | k + 1 => by
    have ih := fls_14 R m k
    have e := fls_at R m k
    show fl1S (flsS k R) k m 14 = _
    by_cases g : m = k
    · subst g
      rw [if_neg (by omega)] at ih
      unfold fl1S
      rw [e.1, e.2]
      by_cases g2 : R m 5 < R m 4
      · rw [if_pos g2, if_neg (fun z => z.2 g2), up2_q (by omega), ih]
      · rw [if_neg g2, if_pos ⟨by omega, g2⟩, up2_s, ih]
    · have q : fl1S (flsS k R) k m 14 = flsS k R m 14 := by
        unfold fl1S
        split
        · rw [up2_q (by omega)]
        · rw [up2_q (by omega), up2_q (by omega)]
      rw [q, ih]
      by_cases g2 : m < k ∧ ¬ R m 5 < R m 4
      · rw [if_pos g2, if_pos ⟨by omega, g2.2⟩]
      · rw [if_neg g2, if_neg (fun z => g2 ⟨by omega, z.2⟩)]
theorem tic_14 (n : Nat) (b : Int32) (R : SL) (m : Nat) : ∃ e : Nat, e ≤ 1 ∧ ticS n b R m 14 = R m 14 + nI e ∧ (e = 0 → m + 1 < n → ticS n b R m 5 < R m 4) := by
  have k14 := KE_trs n b n R m
  have e4 : trsS n b n R m 4 = R m 4 := KP_trs n b n R m 4 (by omega)
  have ef := fls_at (trsS n b n R) m (n - 1)
  have e14 := fls_14 (trsS n b n R) m (n - 1)
  unfold ticS
  rw [ef.1, e14, k14, e4]
  by_cases g : m < n - 1 ∧ ¬ trsS n b n R m 5 < R m 4
  · rw [if_pos g]
    exact ⟨1, by omega, rfl, fun z => absurd z (by omega)⟩
  · rw [if_neg g]
    refine ⟨0, by omega, (Int32.add_zero _).symm, fun _ hm => ?_⟩
    by_cases g2 : trsS n b n R m 5 < R m 4
    · exact g2
    · exact absurd ⟨by omega, g2⟩ g
theorem pas_14 {n p : Nat} {S : SL} (m : Nat) (c : Int32) : ∀ (j t : Nat) (R : SL), R m 4 ≤ c → ∃ d : Nat, d ≤ j ∧ pasS n p S j t R m 14 = R m 14 + nI d ∧ (d = 0 → pasS n p S j t (up2 R m 4 c) = up2 (pasS n p S j t R) m 4 c)
  | 0, t, R, _ => ⟨0, Nat.le_refl 0, (Int32.add_zero _).symm, fun _ => rfl⟩
  | j + 1, t, R, hc => by
    obtain ⟨e, he, e14, hz⟩ := tic_14 n (dbS S (t + 1) p) R m
    have k4 : ticS n (dbS S (t + 1) p) R m 4 = R m 4 := ((KP_trs n _ n R).tr (KP_fls _ _)) m 4 (by omega)
    obtain ⟨d, hd, d14, dz⟩ := pas_14 (n := n) (p := p) (S := S) m c j (t + 1) (ticS n (dbS S (t + 1) p) R) (by rw [k4]; exact hc)
    refine ⟨e + d, by omega, ?_, fun z => ?_⟩
    · show pasS n p S j (t + 1) (ticS n (dbS S (t + 1) p) R) m 14 = _
      rw [d14, e14, Int32.add_assoc, show nI e + nI d = nI (e + d) from nI_add e d]
    · have u := U_tic n (dbS S (t + 1) p) R m c hc (hz (by omega))
      show pasS n p S j (t + 1) (ticS n (dbS S (t + 1) p) (up2 R m 4 c)) = up2 (pasS n p S j (t + 1) (ticS n (dbS S (t + 1) p) R)) m 4 c
      rw [u]
      exact dz (by omega)
/-- where no tick ended with a full buffer, more places change nothing -/
theorem row_more {n t p m T : Nat} {R S : SL} {a c : Int32} (hm : m < n) (hT : T ≤ 2000) (hac : a ≤ c) (h0 : rowW n p R S m a T m 14 = 0) (_hW : WF ((n, t, p), R, S)) : mdW n p R S m c T = mdW n p R S m a T := by
  have e0 : up2 (allS n R) m 4 c = up2 (up2 (allS n R) m 4 a) m 4 c := (up2_up2 _ _ _ _ _).symm
  obtain ⟨d, hd, d14, dz⟩ := pas_14 (n := n) (p := p) (S := S) m c T 0 (up2 (allS n R) m 4 a) (by rw [up2_s]; exact hac)
  have z14 : up2 (allS n R) m 4 a m 14 = 0 := by
    rw [up2_q (by omega)]
    unfold allS
    rw [if_pos (by omega)]
    rfl
  unfold rowW at h0
  rw [all_up, d14, z14, Int32.zero_add] at h0
  have d0 : d = 0 := (nI_eq (a := d) (b := 0) (by omega) (by omega)).mp h0
  unfold mdW rowW
  rw [all_up, all_up, e0, dz d0]
  unfold outR
  split
  · rfl
  · exact up2_q (by omega)
