/-! THE MEANING, 21: capacityFor -/
def KE (R R' : SL) : Prop := ∀ m : Nat, R' m 14 = R m 14
theorem KE.rf {R : SL} : KE R R := fun _ => rfl
theorem KE.tr {A B C : SL} (h : KE A B) (h2 : KE B C) : KE A C := fun m => (h2 m).trans (h m)
theorem KE.put {A R : SL} (h : KE A R) {m c : Nat} {v : Int32} (hc : c ≠ 14) : KE A (up2 R m c v) := fun q => (up2_q (by omega)).trans (h q)
theorem KE_out (R : SL) (m : Nat) : KE R (outS R m) := (KE.rf.put (by omega)).put (by omega)
theorem KE_not (R : SL) (m k : Nat) (hk : k ≤ 4) : KE R (notS R m k) := (KE.rf.put (by omega)).put (by omega)
theorem KE_rel (n : Nat) (b : Int32) (R : SL) (m : Nat) : KE R (relS n b R m) := by
  unfold relS
  split
  · split
    · exact (KE.rf.put (by omega)).tr (KE_out _ _)
    · split
      · exact (KE.rf.put (by omega)).tr (KE_out _ _)
      · exact KE.rf
  · exact KE_out _ _
theorem KE_spd (n : Nat) (R : SL) (m : Nat) : KE R (spdS n R m) := by
  unfold spdS
  split
  · exact KE.rf.put (by omega)
  · split
    · exact KE.rf.put (by omega)
    · exact KE.rf
theorem KE_tak (R : SL) (m : Nat) : KE R (takS R m) := by
  unfold takS
  split
  · exact KE.rf.put (by omega)
  · split
    · exact KE.rf
    · exact (KE.rf.put (by omega)).put (by omega)
theorem KE_rl2 (n : Nat) (b : Int32) (R : SL) (m : Nat) : KE R (rl2S n b R m) := by
  unfold rl2S
  split
  · exact KE_rel _ _ _ _
  · exact KE.rf
theorem KE_tk2 (R : SL) (m : Nat) : KE R (tk2S R m) := by
  unfold tk2S
  split
  · exact KE_tak _ _
  · exact KE.rf
theorem KE_wrk (n : Nat) (b : Int32) (R : SL) (m : Nat) : KE R (wrkS n b R m) := by
  unfold wrkS
  split
  · split
    · exact ((KE.rf.put (by omega)).tr (KE_not _ _ _ (by omega))).tr (KE_rel _ _ _ _)
    · exact (KE.rf.put (by omega)).tr (KE_not _ _ _ (by omega))
  · exact KE_not _ _ _ (by split <;> omega)
theorem KE_tur (n : Nat) (b : Int32) (R : SL) (m : Nat) : KE R (turS n b R m) := by
  unfold turS
  split
  · exact (KE_spd _ _ _).tr (KE_not _ _ _ (by omega))
  · exact (((KE_spd _ _ _).tr (KE_rl2 _ _ _ _)).tr (KE_tk2 _ _)).tr (KE_wrk _ _ _ _)
theorem KE_trs (n : Nat) (b : Int32) : ∀ (k : Nat) (R : SL), KE R (trsS n b k R)
  | 0, _ => KE.rf
  | k + 1, R => (KE_tur n b R k).tr (KE_trs n b k _)
theorem fls_14 (R : SL) (m : Nat) : ∀ k, flsS k R m 14 = if m < k ∧ ¬ R m 5 < R m 4 then R m 14 + 1 else R m 14
  | 0 => by rw [if_neg (by omega)]; rfl
  | k + 1 => by
    have ih := fls_14 R m k
    have e := fls_at R m k
    show fl1S (flsS k R) k m 14 = _
    by_cases g : m = k
    · subst g
      rw [if_neg (by omega)] at ih
      unfold fl1S
      rw [e.1, e.2]
      by_cases g2 : R m 5 < R m 4
      · rw [if_pos g2, if_neg (fun z => z.2 g2), up2_q (by omega), ih]
      · rw [if_neg g2, if_pos ⟨by omega, g2⟩, up2_s, ih]
    · have q : fl1S (flsS k R) k m 14 = flsS k R m 14 := by
        unfold fl1S
        split
        · rw [up2_q (by omega)]
        · rw [up2_q (by omega), up2_q (by omega)]
      rw [q, ih]
      by_cases g2 : m < k ∧ ¬ R m 5 < R m 4
      · rw [if_pos g2, if_pos ⟨by omega, g2.2⟩]
      · rw [if_neg g2, if_neg (fun z => g2 ⟨by omega, z.2⟩)]
theorem tic_14 (n : Nat) (b : Int32) (R : SL) (m : Nat) : ∃ e : Nat, e ≤ 1 ∧ ticS n b R m 14 = R m 14 + nI e ∧ (e = 0 → m + 1 < n → ticS n b R m 5 < R m 4) := by
  have k14 := KE_trs n b n R m
  have e4 : trsS n b n R m 4 = R m 4 := KP_trs n b n R m 4 (by omega)
  have ef := fls_at (trsS n b n R) m (n - 1)
  have e14 := fls_14 (trsS n b n R) m (n - 1)
  unfold ticS
  rw [ef.1, e14, k14, e4]
  by_cases g : m < n - 1 ∧ ¬ trsS n b n R m 5 < R m 4
  · rw [if_pos g]
    exact ⟨1, by omega, rfl, fun z => absurd z (by omega)⟩
  · rw [if_neg g]
    refine ⟨0, by omega, (Int32.add_zero _).symm, fun _ hm => ?_⟩
    by_cases g2 : trsS n b n R m 5 < R m 4
    · exact g2
    · exact absurd ⟨by omega, g2⟩ g
theorem pas_14 {n p : Nat} {S : SL} (m : Nat) (c : Int32) : ∀ (j t : Nat) (R : SL), R m 4 ≤ c → ∃ d : Nat, d ≤ j ∧ pasS n p S j t R m 14 = R m 14 + nI d ∧ (d = 0 → pasS n p S j t (up2 R m 4 c) = up2 (pasS n p S j t R) m 4 c)
  | 0, t, R, _ => ⟨0, Nat.le_refl 0, (Int32.add_zero _).symm, fun _ => rfl⟩
  | j + 1, t, R, hc => by
    obtain ⟨e, he, e14, hz⟩ := tic_14 n (dbS S (t + 1) p) R m
    have k4 : ticS n (dbS S (t + 1) p) R m 4 = R m 4 := ((KP_trs n _ n R).tr (KP_fls _ _)) m 4 (by omega)
    obtain ⟨d, hd, d14, dz⟩ := pas_14 (n := n) (p := p) (S := S) m c j (t + 1) (ticS n (dbS S (t + 1) p) R) (by rw [k4]; exact hc)
    refine ⟨e + d, by omega, ?_, fun z => ?_⟩
    · show pasS n p S j (t + 1) (ticS n (dbS S (t + 1) p) R) m 14 = _
      rw [d14, e14, Int32.add_assoc, show nI e + nI d = nI (e + d) from nI_add e d]
    · have u := U_tic n (dbS S (t + 1) p) R m c hc (hz (by omega))
      show pasS n p S j (t + 1) (ticS n (dbS S (t + 1) p) (up2 R m 4 c)) = up2 (pasS n p S j (t + 1) (ticS n (dbS S (t + 1) p) R)) m 4 c
      rw [u]
      exact dz (by omega)
/-- where no tick ended with a full buffer, more places change nothing -/
theorem row_more {n t p m T : Nat} {R S : SL} {a c : Int32} (hm : m < n) (hT : T ≤ 2000) (hac : a ≤ c) (h0 : rowW n p R S m a T m 14 = 0) (_hW : WF ((n, t, p), R, S)) : mdW n p R S m c T = mdW n p R S m a T := by
  have e0 : up2 (allS n R) m 4 c = up2 (up2 (allS n R) m 4 a) m 4 c := (up2_up2 _ _ _ _ _).symm
  obtain ⟨d, hd, d14, dz⟩ := pas_14 (n := n) (p := p) (S := S) m c T 0 (up2 (allS n R) m 4 a) (by rw [up2_s]; exact hac)
  have z14 : up2 (allS n R) m 4 a m 14 = 0 := by
    rw [up2_q (by omega)]
    unfold allS
    rw [if_pos (by omega)]
    rfl
  unfold rowW at h0
  rw [all_up, d14, z14, Int32.zero_add] at h0
  have d0 : d = 0 := (nI_eq (a := d) (b := 0) (by omega) (by omega)).mp h0
  unfold mdW rowW
  rw [all_up, all_up, e0, dz d0]
  unfold outR
  split
  · rfl
  · exact up2_q (by omega)
/-- the reference: no capacity from c on -/
theorem m_never {n t p m T : Nat} {R S : SL} {w : Int32} (hA : WF ((n, t, p), R, S)) (hm : m < n) (hT : T ≤ 2000) : ∀ (j c g : Nat) (M : SL), c + j = 41 → j < g → (∀ k, c ≤ k → k ≤ 40 → mdW n p R S m (nI k) T < w) → MA (M 1) ((n, t, p), R, S) →
    ∃ M' : SL, f_X6_capacityFor_h47 g M (nI m) (nI T) w (nI c) = some (-1, M') ∧ (∀ q, q < 251 → M' 1 q = M 1 q) ∧ ∀ k, k ≠ 1 → k ≠ 3 → k ≠ 5 → M' k = M k := by
  intro j
  induction j with
  | zero =>
    intro c g M hc hg hw mA
    obtain ⟨g', rfl⟩ : ∃ g', g = g' + 1 := ⟨g - 1, by omega⟩
    refine ⟨M, ?_, fun _ _ => rfl, fun _ _ _ _ => rfl⟩
    show f_X6_capacityFor_b47 _ M _ _ _ _ = _
    unfold f_X6_capacityFor_b47
    rw [if_pos (show (40 : Int32) < nI c from nI_lt (a := 40) (b := c) (by omega) (by omega))]
  | succ j ih =>
    intro c g M hc hg hw mA
    obtain ⟨g', rfl⟩ : ∃ g', g = g' + 1 := ⟨g - 1, by omega⟩
    have m0 : ML n t p M R S := mA
    obtain ⟨M', e2, k1, k2⟩ := m_mad (c := nI c) hA ⟨nI_le (a := 0) (by omega) (by omega), nI_le (a := c) (b := 40) (by omega) (by omega)⟩ hm hT m0
    obtain ⟨M2, e3, k3, k4⟩ := ih (c + 1) g' M' (by omega) (by omega) (fun k h1 h2 => hw k (by omega) h2) (MB.congr hA.1 hA.2.2.1 mA k1)
    refine ⟨M2, ?_, fun q hq => (k3 q hq).trans (k1 q hq), fun k a b c => (k4 k a b c).trans (k2 k a b c)⟩
    show f_X6_capacityFor_b47 _ M _ _ _ _ = _
    unfold f_X6_capacityFor_b47
    rw [if_neg (show ¬ (40 : Int32) < nI c from nI_nlt (a := 40) (b := c) (by omega) (by omega)), e2, bd2_n, if_pos (hw c (Nat.le_refl c) (by omega)), lt_n, nI_1]
    exact e3
theorem cap_L {n t p m T : Nat} {R S Hs TT : SL} {w : Int32} (hA : WF ((n, t, p), R, S)) (hm : m < n) (hT : T ≤ 2000) : ∀ (j c f g : Nat) (Ls : Nat → SL) (M : SL), c + j = 41 → j < f → j < g → CA (Ls 0) ((n, t, p), R, S) → MA (M 1) ((n, t, p), R, S) → AF Ls Hs TT M → M 0 4 = 0 →
    ∃ (b : Int32) (Ls' : Nat → SL) (M' : SL), f_X5_capacityFor_h58 f Ls (nI m) (nI T) w (nI c) = some (Sum.inl (b, Ls')) ∧ f_X6_capacityFor_h47 g M (nI m) (nI T) w (nI c) = some (b, M') ∧ SS Ls' Hs TT M' ∧ M' 0 4 = 0 := by
  have hn : n ≤ 8 := hA.1
  intro j
  induction j with
  | zero =>
    intro c f g Ls M hc hf hg cA mA hF h04
    obtain ⟨f', rfl⟩ : ∃ f', f = f' + 1 := ⟨f - 1, by omega⟩
    obtain ⟨g', rfl⟩ : ∃ g', g = g' + 1 := ⟨g - 1, by omega⟩
    refine ⟨-1, Ls, M, ?_, ?_, ⟨_, hA, cA, mA, hF⟩, h04⟩
    · show f_X5_capacityFor_b58 _ Ls _ _ _ _ = _
      unfold f_X5_capacityFor_b58
      rw [if_pos (show (40 : Int32) < nI c from nI_lt (a := 40) (b := c) (by omega) (by omega))]
    · show f_X6_capacityFor_b47 _ M _ _ _ _ = _
      unfold f_X6_capacityFor_b47
      rw [if_pos (show (40 : Int32) < nI c from nI_lt (a := 40) (b := c) (by omega) (by omega))]
  | succ j ih =>
    intro c f g Ls M hc hf hg cA mA hF h04
    obtain ⟨f', rfl⟩ : ∃ f', f = f' + 1 := ⟨f - 1, by omega⟩
    obtain ⟨g', rfl⟩ : ∃ g', g = g' + 1 := ⟨g - 1, by omega⟩
    have c0 : CL n t p (Ls 0) R S := cA
    have m0 : ML n t p M R S := mA
    obtain ⟨Ls', e1, kL, cT⟩ := c_try (Ls := Ls) (T := T) (c := nI c) hA hm hT c0
    obtain ⟨M', e2, k1, k2⟩ := m_mad (c := nI c) hA ⟨nI_le (a := 0) (by omega) (by omega), nI_le (a := c) (b := 40) (by omega) (by omega)⟩ hm hT m0
    have cA' : CA (Ls' 0) ((n, t, p), R, S) := by rw [kL 0 (by omega)]; exact cA
    have mA' : MA (M' 1) ((n, t, p), R, S) := MB.congr hA.1 hA.2.2.1 mA k1
    have hF' : AF Ls' Hs TT M' := (hF.cls (fun q hq => kL q (by omega))).mod (k2 2 (by omega) (by omega) (by omega)) (k2 4 (by omega) (by omega) (by omega)) (by rw [k2 0 (by omega) (by omega) (by omega)]) (by rw [k2 0 (by omega) (by omega) (by omega)])
    have h04' : M' 0 4 = 0 := by rw [k2 0 (by omega) (by omega) (by omega)]; exact h04
    have eC : f_X5_capacityFor_h58 (f' + 1) Ls (nI m) (nI T) w (nI c) = if mdW n p R S m (nI c) T < w then (if ¬ rowW n p R S m (nI c) T m 14 = 0 then f_X5_capacityFor_h58 f' Ls' (nI m) (nI T) w (nI (c + 1)) else some (Sum.inl (-1, Ls'))) else some (Sum.inl (nI c, Ls')) := by
      show f_X5_capacityFor_b58 _ Ls _ _ _ _ = _
      unfold f_X5_capacityFor_b58
      rw [if_neg (show ¬ (40 : Int32) < nI c from nI_nlt (a := 40) (b := c) (by omega) (by omega)), e1, bd2_n, n_chk (by omega) (by omega), gd_n, nI_clamp (by omega), lt_n, lt_n, lt_n, nI_1, cT.2.2.2.1 m 14 hm (by omega)]
    have eM : f_X6_capacityFor_h47 (g' + 1) M (nI m) (nI T) w (nI c) = if mdW n p R S m (nI c) T < w then f_X6_capacityFor_h47 g' M' (nI m) (nI T) w (nI (c + 1)) else some (nI c, M') := by
      show f_X6_capacityFor_b47 _ M _ _ _ _ = _
      unfold f_X6_capacityFor_b47
      rw [if_neg (show ¬ (40 : Int32) < nI c from nI_nlt (a := 40) (b := c) (by omega) (by omega)), e2, bd2_n, lt_n, nI_1]
    rw [eC, eM]
    by_cases z : mdW n p R S m (nI c) T < w
    · rw [if_pos z, if_pos z]
      by_cases z2 : rowW n p R S m (nI c) T m 14 = 0
      · rw [if_neg (fun q => q z2)]
        obtain ⟨M2, e3, k3, k4⟩ := m_never (w := w) hA hm hT j (c + 1) g' M' (by omega) (by omega) (fun k h1 h2 => by
          rw [row_more hm hT (nI_le (a := c) (b := k) (by omega) (by omega)) z2 hA]
          exact z) mA'
        exact ⟨-1, Ls', M2, rfl, e3, SS.try_ hA cA' mA' hF' (fun _ _ => rfl) k3 k4, by rw [k4 0 (by omega) (by omega) (by omega)]; exact h04'⟩
      · rw [if_pos z2]
        exact ih (c + 1) f' g' Ls' M' (by omega) (by omega) (by omega) cA' mA' hF' h04'
    · rw [if_neg z, if_neg z]
      exact ⟨nI c, Ls', M', rfl, rfl, ⟨_, hA, cA', mA', hF'⟩, h04'⟩
theorem s_capacityFor {Ls : Nat → SL} {Hs T M : SL} (h : SS Ls Hs T M) (x1 x2 x3 : Int32) : RQ codB Ls Hs T (f_X5_capacityFor Ls x1 x2 x3) (f_X6_capacityFor M x1 x2 x3) := by
  have h' := h
  obtain ⟨⟨⟨n, t, p⟩, R, S⟩, hA, cA, mA, hF⟩ := h
  have hn : n ≤ 8 := hA.1
  have c0 : CL n t p (Ls 0) R S := cA
  have m0 : ML n t p M R S := mA
  have hF2 : 42 < fuel := by unfold fuel; omega
  unfold f_X5_capacityFor f_X6_capacityFor f_X6_capacityFor_b35 f_X6_capacityFor_b36
  generalize fuel = F at hF2 ⊢
  rw [m_need hn m0.1]
  simp only [lt_n, bd_n, m_ref0, m_ref1, m_ref2, bd2_n, is_in, m_in, m_tks, i00, i10, if_true, if_false]
  rcases c_need hn c0.1 x1 with ⟨m, rfl, hm, e⟩ | ⟨hno, e⟩
  · rw [e, bd_n, sx_i]
    simp only [bI0t ((m_isM hn (nI m)).mpr ⟨m, rfl, hm⟩), not_false_eq_true, if_true]
    by_cases g1 : 1 ≤ x2 ∧ x2 ≤ 2000
    · rw [c_horT g1, bd_n, sx_i]
      by_cases g2 : 0 ≤ x3 ∧ x3 ≤ 2000
      · simp only [bI0t g1, bI0t g2, not_false_eq_true, if_true, if_false]
        obtain ⟨T1, rfl, ht1, ht2⟩ := i_rngA (A := 1) (K := 2000) (by omega) (by omega) g1
        have hl := slw_le S R p T1 (n - 1)
        obtain ⟨L2, e1, k1⟩ := c_slw hA (show 0 < n by omega) (show T1 ≤ 10000 by omega) c0
        have c2 := KD.cl c0 k1 hn
        obtain ⟨L3, e3, k5⟩ := c_mst hA (show slwS S R p T1 (n - 1) < n by omega) (show T1 ≤ 10000 by omega) c2
        have c3 := KD.cl c2 k5 hn
        have hv : va_up (va_up Ls 0 L2) 0 L3 = va_up Ls 0 L3 := by
          funext q
          by_cases z : q = 0
          · rw [z, va_0, va_0]
          · rw [va_up_ne _ _ z, va_up_ne _ _ z, va_up_ne _ _ z]
        rw [e1, bd2_n, va_0, e3, bd2_n, hv]
        have cA3 : CA (va_up Ls 0 L3 0) ((n, t, p), R, S) := by rw [va_0]; exact c3
        have mA3 : MA (up2 M 0 4 0 1) ((n, t, p), R, S) := by rw [up2_row (by omega)]; exact mA
        have hF3 : AF (va_up Ls 0 L3) Hs T (up2 M 0 4 0) := (hF.cls (fun q hq => va_up_ne _ _ (by omega))).ref 0
        by_cases g3 : x3 ≤ mstS S R p T1 (slwS S R p T1 (n - 1))
        · rw [if_pos g3]
          obtain ⟨b, Ls', M', a1, a2, a3, a4⟩ := cap_L (w := x3) (Hs := Hs) (TT := T) hA hm ht2 41 0 F F (va_up Ls 0 L3) (up2 M 0 4 0) (by omega) (by omega) (by omega) cA3 mA3 hF3 (up2_s _ _ _ _)
          exact ⟨b, M', a2, Or.inl ⟨a4, Ls', a1, a3⟩⟩
        · rw [if_neg g3]
          obtain ⟨M2, a2, k3, k4⟩ := m_never (w := x3) hA hm ht2 41 0 F (up2 M 0 4 0) (by omega) (by omega) (fun k _ _ => i_lelt (md_le hA (show slwS S R p T1 (n - 1) < n by omega) ht2) (i_lt g3)) mA3
          exact ⟨-1, M2, a2, Or.inl ⟨by rw [k4 0 (by omega) (by omega) (by omega), up2_s], va_up Ls 0 L3, rfl, SS.try_ hA cA3 mA3 hF3 (fun _ _ => rfl) k3 k4⟩⟩
      · simp only [bI0t g1, bI0f g2, not_true_eq_false, if_true, if_false]
        exact ⟨_, _, rfl, Or.inr ⟨2, Or.inr (Or.inl ⟨rfl, by decide⟩), rfl, up2_s _ _ _ _, h'.ref _⟩⟩
    · rw [c_horF g1, bd_n, sx_r]
      simp only [bI0f g1, if_true]
      exact ⟨_, _, rfl, Or.inr ⟨2, Or.inr (Or.inl ⟨rfl, by decide⟩), rfl, up2_s _ _ _ _, h'.ref _⟩⟩
  · rw [e, bd_n, sx_r]
    simp only [bI0f (fun z => hno ((m_isM hn x1).mp z)), not_true_eq_false, if_false]
    exact ⟨_, _, rfl, Or.inr ⟨1, Or.inl rfl, rfl, up2_s _ _ _ _, h'.ref _⟩⟩
