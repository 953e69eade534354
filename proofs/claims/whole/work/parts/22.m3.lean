/-! the reference: all turns of a tick; fills -/
theorem m_trsL {n t : Nat} (hn : n ≤ 8) (ht : t ≤ 10000) : ∀ (k f : Nat) (M R : SL), k ≤ n → k < f → M 1 0 = nI n → M 1 1 = nI t → FN n R → RM n M R → ∃ M', f_X6_passes_h19 f M (nI k - 1) = f_X6_passes_h76 fuel M' 0 ∧ RM n M' (trsS n (M 5 t) k R) ∧ KM M M' := by
  intro k
  induction k with
  | zero =>
    intro f M R hk hf h2 h1 hF hR
    obtain ⟨f', rfl⟩ : ∃ f', f = f' + 1 := ⟨f - 1, by omega⟩
    refine ⟨M, ?_, hR, KM.rf⟩
    show f_X6_passes_b19 _ _ _ = _
    unfold f_X6_passes_b19
    rw [if_pos (by decide)]
  | succ k ih =>
    intro f M R hk hf h2 h1 hF hR
    obtain ⟨f', rfl⟩ : ∃ f', f = f' + 1 := ⟨f - 1, by omega⟩
    obtain ⟨M1, e1, r1, k1⟩ := m_tur hn (show k < n by omega) ht h2 hF hR
    obtain ⟨c1, c2⟩ := cor_1 n (M 5 t) R k
    have hF1 := FN_cor hF (M 5 t) (show k < n by omega)
    have ht2 := tur_cor n (M 5 t) R k
    generalize corS n (M 5 t) R k = cc at *
    have r2 : RM n (up2 (up2 M1 1 (3 + 16 * k + 8) (nI cc.1)) 1 (3 + 16 * k + (8 + cc.1)) (M1 1 (3 + 16 * k + (8 + cc.1)) + 1)) (notS cc.2 k cc.1) := by
      unfold notS
      rw [r1 k (8 + cc.1) (by omega) (by omega)]
      exact (r1.put _ (by omega) _).put _ (by omega) _
    have k2 : KM M (up2 (up2 M1 1 (3 + 16 * k + 8) (nI cc.1)) 1 (3 + 16 * k + (8 + cc.1)) (M1 1 (3 + 16 * k + (8 + cc.1)) + 1)) := (k1.put (by omega) (by omega)).put (by omega) (by omega)
    obtain ⟨M2, e2, r3, k3⟩ := ih f' _ _ (by omega) (by omega) (by rw [k2.2 0 (by omega)]; exact h2) (by rw [k2.2 1 (by omega)]; exact h1) (FN_not hF1 _ _) r2
    refine ⟨M2, ?_, ?_, k2.tr k3⟩
    · show f_X6_passes_b19 _ _ _ = _
      unfold f_X6_passes_b19
      rw [nI_m1, if_neg (nI_pos (by omega)), lt_e, h1, e1, bd2_s, m_of, bd_s]
      simp (disch := omega) only [lt_e, bd_s, n_chk, gd_t, nI_clamp, n_lit, nI_add]
      rw [show 3 + 16 * k + 9 + cc.1 - 1 = 3 + 16 * k + (8 + cc.1) by omega, up2_ap, if_neg (by omega), ← e2, Int32.sub_eq_add_neg]
    · rw [k2.1 5 (by omega)] at r3
      show RM n M2 (trsS n (M 5 t) k (turS n (M 5 t) R k))
      rw [ht2]
      exact r3
theorem m_flsL {n : Nat} (hn : n ≤ 8) (hn0 : 0 < n) (R0 : SL) : ∀ (j m f : Nat) (M : SL), m + j = n - 1 → j < f → M 1 0 = nI n → RM n M (flsS m R0) → ∃ M', f_X6_passes_h76 f M (nI m) = some M' ∧ RM n M' (flsS (n - 1) R0) ∧ KM M M' := by
  intro j
  induction j with
  | zero =>
    intro m f M hmj hf h2 hR
    obtain ⟨f', rfl⟩ : ∃ f', f = f' + 1 := ⟨f - 1, by omega⟩
    refine ⟨M, ?_, by rw [show n - 1 = m by omega]; exact hR, KM.rf⟩
    show f_X6_passes_b76 _ M (nI m) = _
    unfold f_X6_passes_b76
    simp (disch := omega) only [lt_e, h2, n_lit, nI_leI]
    rw [if_pos (by omega)]
  | succ j ih =>
    intro m f M hmj hf h2 hR
    obtain ⟨f', rfl⟩ : ∃ f', f = f' + 1 := ⟨f - 1, by omega⟩
    have fin : ∀ M1 : SL, RM n M1 (flsS (m + 1) R0) → KM M M1 → ∃ M', f_X6_passes_h76 f' M1 (nI (m + 1)) = some M' ∧ RM n M' (flsS (n - 1) R0) ∧ KM M M' := by
      intro M1 r1 k1
      obtain ⟨M2, e2, r2, k2⟩ := ih (m + 1) f' M1 (by omega) (by omega) (by rw [k1.2 0 (by omega)]; exact h2) r1
      exact ⟨M2, e2, r2, k1.tr k2⟩
    show ∃ M', f_X6_passes_b76 _ M (nI m) = _ ∧ _
    unfold f_X6_passes_b76 f_X6_passes_b149
    simp (disch := omega) only [lt_e, bd_s, m_of, n_chk, gd_t, nI_clamp, h2, n_lit, nI_leI]
    rw [if_neg (by omega), show 3 + 16 * m + 9 + 5 = 3 + 16 * m + 14 by omega, hR m 15 (by omega) (by omega), hR m 5 (by omega) (by omega)]
    have rd : ∀ c, c ≠ 15 → c < 16 → up2 M 1 (3 + 16 * m + 15) (flsS m R0 m 15 + flsS m R0 m 5) 1 (3 + 16 * m + c) = flsS m R0 m c := fun c h1 h3 => by
      rw [up2_ap, if_neg (by omega)]; exact hR m c (by omega) h3
    rw [rd 14 (by omega) (by omega), rd 5 (by omega) (by omega), rd 4 (by omega) (by omega)]
    have r1 := hR.put m (c := 15) (by omega) (flsS m R0 m 15 + flsS m R0 m 5)
    have k1 : KM M (up2 M 1 (3 + 16 * m + 15) (flsS m R0 m 15 + flsS m R0 m 5)) := KM.rf.put (by omega) (by omega)
    have hfl : flsS (m + 1) R0 = fl1S (flsS m R0) m := rfl
    unfold fl1S at hfl
    generalize flsS m R0 = Q at *
    by_cases a1 : Q m 5 < Q m 4
    · rw [if_pos a1]
      rw [if_pos a1] at hfl
      refine fin _ ?_ (k1.put (by omega) (by omega))
      rw [hfl]
      intro m' c' hm' hc'
      rw [up2_ap]
      by_cases e : m' = m ∧ c' = 14
      · rw [if_pos (by omega), e.1, e.2, up2_ap, if_neg (by omega), Int32.add_zero]
      · rw [if_neg (by omega)]
        exact r1 m' c' hm' hc'
    · rw [if_neg a1]
      rw [if_neg a1] at hfl
      refine fin _ ?_ (k1.put (by omega) (by omega))
      rw [hfl]
      exact r1.put m (by omega) _
theorem m_pass1 {n t : Nat} {M R : SL} (hn : n ≤ 8) (hn0 : 0 < n) (ht : t + 1 ≤ 10000) (h2 : M 1 0 = nI n) (h1 : M 1 1 = nI t) (hF : FN n R) (hR : RM n M R) : ∃ M', f_X6_passes M = some M' ∧ RM n M' (ticS n (M 5 (t + 1)) R) ∧ KM (up2 M 1 1 (nI (t + 1))) M' := by
  have q : KM (up2 M 1 1 (nI (t + 1))) (up2 M 1 1 (nI (t + 1))) := KM.rf
  have r0 : RM n (up2 M 1 1 (nI (t + 1))) R := fun m c hm hc => by rw [up2_ap, if_neg (by omega)]; exact hR m c hm hc
  have h20 : (up2 M 1 1 (nI (t + 1))) 1 0 = nI n := by rw [up2_ap, if_neg (by omega)]; exact h2
  have h5 : (up2 M 1 1 (nI (t + 1))) 5 = M 5 := up2_row (by omega)
  obtain ⟨M1, e1, r1, k1⟩ := m_trsL hn ht n fuel _ R (Nat.le_refl n) (by unfold fuel; omega) h20 (by rw [up2_ap, if_pos (by omega)]) hF r0
  obtain ⟨M2, e2, r2, k2⟩ := m_flsL hn hn0 _ (n - 1) 0 fuel M1 (by omega) (by unfold fuel; omega) (by rw [k1.2 0 (by omega)]; exact h20) r1
  rw [h5] at r2
  refine ⟨M2, ?_, r2, k1.tr k2⟩
  unfold f_X6_passes
  simp only [lt_e]
  rw [h1, nI_1, h20, e1]
  exact e2
