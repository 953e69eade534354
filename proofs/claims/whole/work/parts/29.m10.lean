/-! THE MEANING, 10: call against call: what passes, what is taken back -/
def KP (R R' : SL) : Prop := ∀ m c : Nat, c < 5 → R' m c = R m c
theorem KP.rf {R : SL} : KP R R := fun _ _ _ => rfl
theorem KP.tr {A B C : SL} (h : KP A B) (h2 : KP B C) : KP A C := fun m c hc => (h2 m c hc).trans (h m c hc)
theorem KP.put {A R : SL} (h : KP A R) {m c : Nat} {v : Int32} (hc : 5 ≤ c) : KP A (up2 R m c v) := fun q k hk => (up2_q (by omega)).trans (h q k hk)
theorem KP_out (R : SL) (m : Nat) : KP R (outS R m) := (KP.rf.put (by omega)).put (by omega)
theorem KP_not (R : SL) (m k : Nat) : KP R (notS R m k) := (KP.rf.put (by omega)).put (by omega)
theorem KP_rel (n : Nat) (b : Int32) (R : SL) (m : Nat) : KP R (relS n b R m) := by
  unfold relS
  split
  · split
    · exact (KP.rf.put (by omega)).tr (KP_out _ _)
    · split
      · exact (KP.rf.put (by omega)).tr (KP_out _ _)
      · exact KP.rf
  · exact KP_out _ _
theorem KP_spd (n : Nat) (R : SL) (m : Nat) : KP R (spdS n R m) := by
  unfold spdS
  split
  · exact KP.rf.put (by omega)
  · split
    · exact KP.rf.put (by omega)
    · exact KP.rf
theorem KP_tak (R : SL) (m : Nat) : KP R (takS R m) := by
  unfold takS
  split
  · exact KP.rf.put (by omega)
  · split
    · exact KP.rf
    · exact (KP.rf.put (by omega)).put (by omega)
theorem KP_rl2 (n : Nat) (b : Int32) (R : SL) (m : Nat) : KP R (rl2S n b R m) := by
  unfold rl2S
  split
  · exact KP_rel _ _ _ _
  · exact KP.rf
theorem KP_tk2 (R : SL) (m : Nat) : KP R (tk2S R m) := by
  unfold tk2S
  split
  · exact KP_tak _ _
  · exact KP.rf
theorem KP_wrk (n : Nat) (b : Int32) (R : SL) (m : Nat) : KP R (wrkS n b R m) := by
  unfold wrkS
  split
  · split
    · exact ((KP.rf.put (by omega)).tr (KP_not _ _ _)).tr (KP_rel _ _ _ _)
    · exact (KP.rf.put (by omega)).tr (KP_not _ _ _)
  · exact KP_not _ _ _
theorem KP_tur (n : Nat) (b : Int32) (R : SL) (m : Nat) : KP R (turS n b R m) := by
  unfold turS
  split
  · exact (KP_spd _ _ _).tr (KP_not _ _ _)
  · exact (((KP_spd _ _ _).tr (KP_rl2 _ _ _ _)).tr (KP_tk2 _ _)).tr (KP_wrk _ _ _ _)
theorem KP_trs (n : Nat) (b : Int32) : ∀ (k : Nat) (R : SL), KP R (trsS n b k R)
  | 0, _ => KP.rf
  | k + 1, R => (KP_tur n b R k).tr (KP_trs n b k _)
theorem KP_fls : ∀ (k : Nat) (R : SL), KP R (flsS k R)
  | 0, _ => KP.rf
  | k + 1, R => by
    refine (KP_fls k R).tr ?_
    show KP (flsS k R) (fl1S (flsS k R) k)
    unfold fl1S
    split
    · exact KP.rf.put (by omega)
    · exact (KP.rf.put (by omega)).put (by omega)
theorem KP_pas (n p : Nat) (S : SL) : ∀ (j t : Nat) (R : SL), KP R (pasS n p S j t R)
  | 0, _, _ => KP.rf
  | j + 1, t, R => ((KP_trs n _ n R).tr (KP_fls _ _)).tr (KP_pas n p S j (t + 1) _)
theorem WR.kp {n : Nat} {R R' : SL} (h : WR n R) (k : KP R R') : WR n R' := fun m hm => by
  rw [k m 0 (by omega), k m 1 (by omega), k m 4 (by omega)]
  exact h m hm
theorem KP_all (n : Nat) (R : SL) : KP R (allS n R) := fun m c hc => if_neg (by omega)
theorem FN_all {n : Nat} {R : SL} (h : FN n R) : FN n (allS n R) := fun m hm => by
  rw [KP_all n R m 4 (by omega), show allS n R m 5 = 0 from (if_pos ⟨hm, by omega, by omega⟩).trans rfl, i_0]
  exact ⟨by omega, by omega, (h m hm).2.2⟩
theorem i_rng {x : Int32} {K : Nat} (hK : K < 2147483648) (h : 0 ≤ x ∧ x ≤ nI K) : ∃ T, x = nI T ∧ T ≤ K := by
  obtain ⟨u, hu, e⟩ := nI_of (fun q => i_nle q h.1)
  refine ⟨u, e, ?_⟩
  have h2 := h.2
  rw [e] at h2
  exact (nI_leI (by omega) (by omega)).mp h2
theorem s_run {Ls : Nat → SL} {Hs T M : SL} (h : SS Ls Hs T M) (x1 : Int32) : R2 (fun k => k) Ls Hs T (f_X5_run Ls Hs x1) (f_X6_run M x1) := by
  have h' := h
  obtain ⟨⟨⟨n, t, p⟩, R, S⟩, hA, cA, mA, hF⟩ := h
  have hn : n ≤ 8 := hA.1
  have ht : t ≤ 10000 := hA.2.1
  have hp : p ≤ 40 := hA.2.2.1
  have c0 : CL n t p (Ls 0) R S := cA
  have m0 : ML n t p M R S := mA
  unfold f_X5_run f_X6_run f_X6_run_b39 f_X6_run_b44 f_X5_needMachines
  simp only [lt_n, bd_s, m_ref0, m_ref1, m_ref2, bd2_s, is_in, m_in, i00, i10, if_true, if_false]
  rw [c0.1, c0.2.1, m0.1, m0.2.1]
  by_cases g1 : 0 ≤ x1 ∧ x1 ≤ 2000
  · simp only [bI0t g1, not_false_eq_true, if_true]
    obtain ⟨T1, rfl, hT1⟩ := i_rng (K := 2000) (by omega) g1
    by_cases g2 : n = 0
    · simp only [show ((1 : Int32) ≤ nI n) = False from eq_false (by rw [g2]; decide), show (nI n = 0) = True from eq_true (by rw [g2]; rfl), if_true, if_false, bd_s, sx]
      exact ⟨0, _, rfl, Or.inr ⟨2, Or.inr (Or.inl ⟨rfl, by decide⟩), rfl, up2_s _ _ _ _, h'.ref _⟩⟩
    · simp only [show ((1 : Int32) ≤ nI n) = True from eq_true (nI_le (a := 1) (b := n) (by omega) (by omega)), show (nI n = 0) = False from eq_false (fun z => g2 ((nI_eq (a := n) (b := 0) (by omega) (by omega)).mp z)), if_true, if_false, bd_s, sx]
      rw [nI_add]
      by_cases g3 : t + T1 ≤ 10000
      · simp only [show (nI (t + T1) ≤ 10000) = True from eq_true (nI_le (a := t + T1) (b := 10000) g3 (by omega)), if_true]
        obtain ⟨Ls', Hs', M', e1, e2, d1, d2, d3, d4, d5, d6⟩ := kept hA cA mA hF 0
        obtain ⟨L2, e3, j1⟩ := c_pas (n := n) (t := t) (p := p) (R := R) (S := S) (T := T1) hn (by omega) hp (by omega) (by omega) d1
        obtain ⟨M2, e4, j2, j3⟩ := m_goes (M := M') (T := T1) hn (by omega) hp g3 d2 hA.2.2.2.2.1
        rw [e1, e2, bd2_s, bd_s, c_outs hn d1, bd_s, e3, bd_s, va_0, c_outs hn j1, bd_s, e4, bd2_s]
        exact ⟨_, M2, rfl, Or.inl ⟨by rw [j3 0 (by omega) (by omega)]; exact d3, _, _, rfl, ((n, t + T1, p), pasS n p S T1 t R, S), ⟨hn, g3, hp, hA.2.2.2.1.kp (KP_pas _ _ _ _ _ _), FN_pas _ _ _ hA.2.2.2.2.1, hA.2.2.2.2.2.1, TN_pas T1 t R g3 hA.2.2.2.2.2.2⟩, by rw [va_0]; exact j1, j2, (d4.cls (fun q hq => va_up_ne _ _ (by omega))).mod (j3 2 (by omega) (by omega)) (j3 4 (by omega) (by omega)) (by rw [j3 0 (by omega) (by omega)]) (by rw [j3 0 (by omega) (by omega)])⟩⟩
      · simp only [show (nI (t + T1) ≤ 10000) = False from eq_false (nI_ge (a := 10000) (b := t + T1) (by omega) (by omega)), if_false]
        exact ⟨0, _, rfl, Or.inr ⟨2, Or.inr (Or.inl ⟨rfl, by decide⟩), rfl, up2_s _ _ _ _, h'.ref _⟩⟩
  · simp only [bI0f g1, not_true_eq_false, if_false]
    exact ⟨0, _, rfl, Or.inr ⟨1, Or.inl rfl, rfl, up2_s _ _ _ _, h'.ref _⟩⟩
/-- what a call that never throws answers -/
def R1 (T : SL) (fC : Option (Int32 × (Nat → SL) × SL)) (fM : Option (Int32 × SL)) : Prop := ∃ (b : Int32) (M' : SL) (Ls' : Nat → SL) (Hs' : SL), fM = some (b, M') ∧ fC = some (b, Ls', Hs') ∧ SS Ls' Hs' T M'
theorem s_restart {Ls : Nat → SL} {Hs T M : SL} (h : SS Ls Hs T M) : R1 T (f_X5_restart Ls Hs) (f_X6_restart M) := by
  obtain ⟨⟨⟨n, t, p⟩, R, S⟩, hA, cA, mA, hF⟩ := h
  have hn : n ≤ 8 := hA.1
  have hp : p ≤ 40 := hA.2.2.1
  obtain ⟨Ls', Hs', M', e1, e2, d1, d2, d3, d4, d5, d6⟩ := kept hA cA mA hF 0
  have d1' : CL n t p (Ls' 0) R S := d1
  have d2' : ML n t p M' R S := d2
  obtain ⟨L2, e3, j1⟩ := c_new hn d1'
  obtain ⟨M2, e4, j2, j3⟩ := m_emp hn hp d2'
  unfold f_X5_restart f_X6_restart
  simp only [lt_n]
  rw [e1, e2, bd2_s, bd_s, e3, e4, bd_s, bd_s, d1'.2.1, d2'.2.1]
  exact ⟨_, _, _, _, rfl, rfl, ((n, 0, p), allS n R, S), ⟨hn, by show 0 ≤ 10000; omega, hp, hA.2.2.2.1.kp (KP_all _ _), FN_all hA.2.2.2.2.1, hA.2.2.2.2.2.1, TN_all _ _ _⟩, by rw [va_0]; exact j1, j2, (d4.cls (fun q hq => va_up_ne _ _ (by omega))).k1 j3⟩
theorem WS_drp {p t : Nat} {S : SL} (h : WS p S) : ∀ k, k ≤ p → WS (drpS S t k).1 (drpS S t k).2
  | 0, _ => fun i hi => absurd hi (by show ¬ i < 0; omega)
  | k + 1, hk => by
    have ih := WS_drp (t := t) h k (by omega)
    by_cases e : S k 1 ≤ nI t
    · rw [show drpS S t (k + 1) = ((drpS S t k).1 + 1, plaS (drpS S t k).2 (drpS S t k).1 (S k 0) (S k 1) (S k 2)) from if_pos e]
      generalize drpS S t k = D at *
      intro i hi
      have hi' : i < D.1 + 1 := hi
      have g := h k (by omega)
      show 1 ≤ (plaS D.2 D.1 (S k 0) (S k 1) (S k 2) i 1).toInt ∧ (plaS D.2 D.1 (S k 0) (S k 1) (S k 2) i 1).toInt ≤ 10000 ∧ 1 ≤ (plaS D.2 D.1 (S k 0) (S k 1) (S k 2) i 2).toInt ∧ (plaS D.2 D.1 (S k 0) (S k 1) (S k 2) i 2).toInt ≤ 200
      unfold plaS
      by_cases z : i = D.1
      · rw [z, up2_s, up2_q (by omega), up2_s]
        exact g
      · rw [up2_q (by omega), up2_q (by omega), up2_q (by omega), up2_q (by omega), up2_q (by omega), up2_q (by omega)]
        exact ih i (by omega)
    · rw [show drpS S t (k + 1) = drpS S t k from if_neg e]
      exact ih
theorem s_clearStops {Ls : Nat → SL} {Hs T M : SL} (h : SS Ls Hs T M) : R1 T (f_X5_clearStops Ls Hs) (f_X6_clearStops M) := by
  obtain ⟨⟨⟨n, t, p⟩, R, S⟩, hA, cA, mA, hF⟩ := h
  have hn : n ≤ 8 := hA.1
  have ht : t ≤ 10000 := hA.2.1
  have hp : p ≤ 40 := hA.2.2.1
  obtain ⟨Ls', Hs', M', e1, e2, d1, d2, d3, d4, d5, d6⟩ := kept hA cA mA hF 0
  have d1' : CL n t p (Ls' 0) R S := d1
  have d2' : ML n t p M' R S := d2
  obtain ⟨L2, e3, j1⟩ := c_drop hn hp d1'
  have hF2 : p < fuel := by unfold fuel; omega
  unfold f_X5_clearStops f_X6_clearStops
  generalize fuel = F at hF2 ⊢
  simp only [lt_n]
  rw [e1, e2, bd2_s, bd_s, d1'.2.1, e3, bd2_s, d2'.2.2.1]
  obtain ⟨M2, e4, j2, j3⟩ := m_clrL (R := R) (S := S) (t := t) hn ht hp M' p 0 F M' (by omega) hF2 K1.rf d2'.1 d2'.2.1 d2'.2.2.2.1 (fun i w hi => absurd hi (by show ¬ i < 0; omega)) (fun i w _ hi hw => d2'.2.2.2.2 i w hi hw)
  have e5 : f_X6_clearStops_h20 F M' (nI p) 0 0 = some (nI (p - (drpS S t p).1), M2) := e4
  rw [e5]
  have hq := drp_le S t p
  exact ⟨_, _, _, _, rfl, rfl, ((n, t, (drpS S t p).1), R, (drpS S t p).2), ⟨hn, ht, by show (drpS S t p).1 ≤ 40; omega, hA.2.2.2.1, hA.2.2.2.2.1, WS_drp hA.2.2.2.2.2.1 p (Nat.le_refl p), hA.2.2.2.2.2.2⟩, by rw [va_0]; exact j1, j2, (d4.cls (fun q hq => va_up_ne _ _ (by omega))).k1 j3⟩
theorem s_undo {Ls : Nat → SL} {Hs T M : SL} (h : SS Ls Hs T M) : R2 (fun _ => 2) Ls Hs T (f_X5_undo Ls Hs) (f_X6_undo M) := by
  have h' := h
  obtain ⟨A, hA, cA, mA, B, v, w, len, hv, hw, hl, hH, b1, b2, b3⟩ := h
  unfold f_X5_undo
  simp only [lt_n]
  rw [hH.2.1]
  rcases m_undo hv hH.2.2.1 with ⟨rfl, e⟩ | ⟨hv0, M', e, k1, k2, k3⟩
  · rw [e, if_neg (fun z => z rfl)]
    exact ⟨0, _, rfl, Or.inr ⟨1, Or.inl rfl, rfl, up2_s _ _ _ _, h'.ref _⟩⟩
  · rw [e, if_pos (show ¬ nI v = 0 from fun z => absurd ((nI_eq (a := v) (b := 0) (by omega) (by omega)).mp z) (by omega))]
    obtain ⟨Ls', Hs', e2, a1, a2, a3⟩ := back_ok (M' := M') hv hv0 hw hH (k1 2 (by omega) (by omega)) (by rw [k2, up2_s])
    rw [e2, bd2_s, a1]
    have g := hH.2.2.2 (v - 1) (by omega)
    exact ⟨_, M', rfl, Or.inl ⟨by rw [k2, up2_q (by omega), up2_s], _, _, rfl, B (v - 1), g.2.2, a3, MB.congr g.2.2.1 g.2.2.2.2.1 g.2.1 (fun c hc => k3 c hc), B, v - 1, (w + 3) % 4, len, by omega, by omega, hl, a2, b1, by rw [k2, up2_q (by omega), up2_q (by omega)]; exact b2, fun i hi => by rw [k1 4 (by omega) (by omega)]; exact b3 i hi⟩⟩
