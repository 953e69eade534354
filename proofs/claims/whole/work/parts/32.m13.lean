/-! THE MEANING, 13: the reference's digest -/
theorem m_dig113 {n t p m : Nat} {M R S : SL} (hn : n ≤ 8) (hm : m < n) (hM : ML n t p M R S) (K : SL → Int64 → Int32 → Option (Int64 × SL × Int64)) (h : Int64) : ∀ (j c f : Nat), c + j = 6 → j < f → f_X6_digest_h113 K f M (mixA (R m) (9 + c) h) (nI m) (nI c) = K M (mixA (R m) 15 h) (nI (m + 1)) := by
  intro j
  induction j with
  | zero =>
    intro c f hc hf
    obtain ⟨f', rfl⟩ : ∃ f', f = f' + 1 := ⟨f - 1, by omega⟩
    show f_X6_digest_b113 K _ M _ _ _ = _
    unfold f_X6_digest_b113
    rw [if_pos (show (6 : Int32) ≤ nI c from nI_le (a := 6) (b := c) (by omega) (by omega)), lt_n, nI_1, show c = 6 by omega]
  | succ j ih =>
    intro c f hc hf
    obtain ⟨f', rfl⟩ : ∃ f', f = f' + 1 := ⟨f - 1, by omega⟩
    show f_X6_digest_b113 K _ M _ _ _ = _
    unfold f_X6_digest_b113
    rw [if_neg (show ¬ (6 : Int32) ≤ nI c from nI_ge (a := c) (b := 6) (by omega) (by omega)), m_of, bd_s]
    simp only [lt_n]
    rw [show nI (3 + 16 * m) + 9 = nI (3 + 16 * m + 9) from nI_add _ 9, nI_add, n_chk (by omega) (by omega), gd_n, nI_clamp (by omega), show 3 + 16 * m + 9 + c = 3 + 16 * m + (9 + c) by omega, hM.2.2.2.1 m (9 + c) hm (by omega), m_mix, bd_s, nI_1]
    exact ih (c + 1) f' (by omega) (by omega)
theorem m_dig90 {n t p m : Nat} {M R S : SL} (hn : n ≤ 8) (hm : m < n) (hM : ML n t p M R S) (K : SL → Int64 → Int32 → Option (Int64 × SL × Int64)) (h : Int64) : ∀ (j c f : Nat), c + j = 4 → j < f → f_X6_digest_h90 K f M (mixA (R m) (5 + c) h) (nI m) (nI c) = K M (mixA (R m) 15 h) (nI (m + 1)) := by
  intro j
  induction j with
  | zero =>
    intro c f hc hf
    obtain ⟨f', rfl⟩ : ∃ f', f = f' + 1 := ⟨f - 1, by omega⟩
    have hF : 6 < fuel := by unfold fuel; omega
    show f_X6_digest_b90 K _ M _ _ _ = _
    unfold f_X6_digest_b90
    generalize fuel = F at hF ⊢
    rw [if_pos (show (4 : Int32) ≤ nI c from nI_le (a := 4) (b := c) (by omega) (by omega)), show 5 + c = 9 + 0 by omega]
    exact m_dig113 hn hm hM K h 6 0 F (by omega) hF
  | succ j ih =>
    intro c f hc hf
    obtain ⟨f', rfl⟩ : ∃ f', f = f' + 1 := ⟨f - 1, by omega⟩
    show f_X6_digest_b90 K _ M _ _ _ = _
    unfold f_X6_digest_b90 f_X6_tellMachine
    rw [if_neg (show ¬ (4 : Int32) ≤ nI c from nI_ge (a := c) (b := 4) (by omega) (by omega)), m_of, bd_s]
    simp only [lt_n]
    rw [show nI (3 + 16 * m) + 5 = nI (3 + 16 * m + 5) from nI_add _ 5, nI_add, n_chk (by omega) (by omega), gd_n, nI_clamp (by omega), show 3 + 16 * m + 5 + c = 3 + 16 * m + (5 + c) by omega, hM.2.2.2.1 m (5 + c) hm (by omega), bd_s, m_mix, bd_s, nI_1]
    exact ih (c + 1) f' (by omega) (by omega)
theorem m_dig62 {n t p m : Nat} {M R S : SL} (hn : n ≤ 8) (hm : m < n) (hM : ML n t p M R S) (K : SL → Int64 → Int32 → Option (Int64 × SL × Int64)) (h : Int64) : ∀ (j c f : Nat), c + j = 5 → j < f → f_X6_digest_h62 K f M (mixA (R m) c h) (nI m) (nI c) = K M (mixA (R m) 15 h) (nI (m + 1)) := by
  intro j
  induction j with
  | zero =>
    intro c f hc hf
    obtain ⟨f', rfl⟩ : ∃ f', f = f' + 1 := ⟨f - 1, by omega⟩
    have hF : 4 < fuel := by unfold fuel; omega
    show f_X6_digest_b62 K _ M _ _ _ = _
    unfold f_X6_digest_b62
    generalize fuel = F at hF ⊢
    rw [if_pos (show (5 : Int32) ≤ nI c from nI_le (a := 5) (b := c) (by omega) (by omega)), show c = 5 + 0 by omega]
    exact m_dig90 hn hm hM K h 4 0 F (by omega) hF
  | succ j ih =>
    intro c f hc hf
    obtain ⟨f', rfl⟩ : ∃ f', f = f' + 1 := ⟨f - 1, by omega⟩
    show f_X6_digest_b62 K _ M _ _ _ = _
    unfold f_X6_digest_b62
    rw [if_neg (show ¬ (5 : Int32) ≤ nI c from nI_ge (a := c) (b := 5) (by omega) (by omega)), m_of, bd_s]
    simp only [lt_n]
    rw [nI_add, n_chk (by omega) (by omega), gd_n, nI_clamp (by omega), hM.2.2.2.1 m c hm (by omega), m_mix, bd_s, nI_1]
    exact ih (c + 1) f' (by omega) (by omega)
/-- the planned stops one number behind the other -/
def flS (S : SL) (h : Int64) (j : Nat) : Int64 := mixA (S (j / 3)) (j % 3) (mixS S (j / 3) h)
theorem fl_at (S : SL) (h : Int64) (k w : Nat) (hw : w < 3) : flS S h (3 * k + w) = mixA (S k) w (mixS S k h) := by
  unfold flS
  rw [show (3 * k + w) / 3 = k by omega, show (3 * k + w) % 3 = w by omega]
theorem fl_s (S : SL) (h : Int64) (k w : Nat) (hw : w < 3) : flS S h (3 * k + w + 1) = 31 * flS S h (3 * k + w) + (S k w).toInt64 := by
  rw [fl_at S h k w hw]
  by_cases g : w = 2
  · subst g
    rw [show 3 * k + 2 + 1 = 3 * (k + 1) + 0 by omega, fl_at S h (k + 1) 0 (by omega)]
    rfl
  · rw [show 3 * k + w + 1 = 3 * k + (w + 1) by omega, fl_at S h k (w + 1) (by omega)]
    rfl
theorem m_dig161 {n t p : Nat} {M R S : SL} (hn : n ≤ 8) (hp : p ≤ 40) (hM : ML n t p M R S) (v : Nat) (h3 : M 0 3 = nI v) (h : Int64) : ∀ (d j f : Nat), j + d = 3 * p → d < f → f_X6_digest_h161 f M (flS S h j) (nI j) = some (31 * (31 * mixS S p h + (insS R n).toInt64) + (nI v).toInt64, M, 31 * (31 * mixS S p h + (insS R n).toInt64) + (nI v).toInt64) := by
  intro d
  induction d with
  | zero =>
    intro j f hj hf
    obtain ⟨f', rfl⟩ : ∃ f', f = f' + 1 := ⟨f - 1, by omega⟩
    show f_X6_digest_b161 _ M _ _ = _
    unfold f_X6_digest_b161
    simp only [lt_n]
    rw [hM.2.2.1, show 3 * nI p = nI (3 * p) from pk_mul 3 p, if_pos (nI_le (by omega) (by omega)), m_ins hn hM, bd_s, m_mix, bd_s, h3, m_mix, bd_s, show j = 3 * p + 0 by omega, fl_at S h p 0 (by omega)]
    rfl
  | succ d ih =>
    intro j f hj hf
    obtain ⟨f', rfl⟩ : ∃ f', f = f' + 1 := ⟨f - 1, by omega⟩
    obtain ⟨k, w, rfl, hw⟩ : ∃ k w, j = 3 * k + w ∧ w < 3 := ⟨j / 3, j % 3, by omega, by omega⟩
    show f_X6_digest_b161 _ M _ _ = _
    unfold f_X6_digest_b161
    simp only [lt_n]
    rw [hM.2.2.1, show 3 * nI p = nI (3 * p) from pk_mul 3 p, if_neg (nI_ge (by omega) (by omega)), show 131 + nI (3 * k + w) = nI (131 + (3 * k + w)) from nI_add 131 _, n_chk (by omega) (by omega), gd_n, nI_clamp (by omega), show 131 + (3 * k + w) = 131 + 3 * k + w by omega, hM.2.2.2.2 k w (by omega) hw, m_mix, bd_s, nI_1, ← fl_s S h k w hw]
    exact ih (3 * k + w + 1) f' (by omega) (by omega)
theorem m_dig50 {n t p : Nat} {M R S : SL} (hn : n ≤ 8) (hp : p ≤ 40) (hM : ML n t p M R S) (v : Nat) (h3 : M 0 3 = nI v) (h : Int64) : ∀ (d m f : Nat), m + d = n → d < f → ∃ hs, f_X6_digest_h50 f M (mixR R m h) (nI m) = some (31 * (31 * mixS S p (31 * mixR R n h + (nI p).toInt64) + (insS R n).toInt64) + (nI v).toInt64, M, hs) := by
  intro d
  induction d with
  | zero =>
    intro m f hm hf
    obtain ⟨f', rfl⟩ : ∃ f', f = f' + 1 := ⟨f - 1, by omega⟩
    have hF : 120 < fuel := by unfold fuel; omega
    show ∃ hs, f_X6_digest_b50 _ M _ _ = _
    unfold f_X6_digest_b50
    generalize fuel = F at hF ⊢
    simp only [lt_n]
    rw [hM.1, if_pos (nI_le (by omega) (by omega)), hM.2.2.1, m_mix, bd_s, show m = n by omega]
    exact ⟨_, m_dig161 hn hp hM v h3 (31 * mixR R n h + (nI p).toInt64) (3 * p) 0 F (by omega) (by omega)⟩
  | succ d ih =>
    intro m f hm hf
    obtain ⟨f', rfl⟩ : ∃ f', f = f' + 1 := ⟨f - 1, by omega⟩
    obtain ⟨hs, e⟩ := ih (m + 1) f' (by omega) (by omega)
    have hF : 120 < fuel := by unfold fuel; omega
    refine ⟨hs, ?_⟩
    show f_X6_digest_b50 _ M _ _ = _
    unfold f_X6_digest_b50
    generalize fuel = F at hF ⊢
    simp only [lt_n]
    rw [hM.1, if_neg (nI_ge (by omega) (by omega))]
    exact (m_dig62 hn (show m < n by omega) hM (f_X6_digest_h50 f') (mixR R m h) 5 0 F (by omega) (by omega)).trans e
theorem s_digest {Ls : Nat → SL} {Hs T M : SL} (h : SS Ls Hs T M) (hs0 : Int64) : ∃ (b hs : Int64), f_X5_digest Ls Hs T = some b ∧ f_X6_digest M hs0 = some (b, up2 M 0 4 0, hs) ∧ SS Ls Hs T (up2 M 0 4 0) := by
  have h' := h
  obtain ⟨⟨⟨n, t, p⟩, R, S⟩, hA, cA, mA, B, v, w, len, hv, hw, hl, hH, b1, b2, b3⟩ := h
  have hn : n ≤ 8 := hA.1
  have hp : p ≤ 40 := hA.2.2.1
  have c0 : CL n t p (Ls 0) R S := cA
  have m0 : ML n t p M R S := mA
  have m1 := m0.ref 0
  have e1 := c_dig hn hp c0 hH.2.1 b1
  have hF : 120 < fuel := by unfold fuel; omega
  obtain ⟨hs, e2⟩ := m_dig50 hn hp m1 v (by rw [up2_q (by omega)]; exact hH.2.2.1) (31 * (31 * (31 * (31 * 3109 + (nI len).toInt64) + (nI t).toInt64) + (outR n R).toInt64) + (nI n).toInt64) n 0 fuel (by omega) (by omega)
  refine ⟨_, hs, e1, ?_, h'.ref 0⟩
  unfold f_X6_digest
  generalize fuel = F at e2 ⊢
  simp only [lt_n]
  rw [show up2 M 0 4 0 0 6 = M 0 6 from up2_q (by omega), b2, m_mix, bd_s, m1.2.1, m_mix, bd_s, m_made hn m1.1 m1.2.2.2.1, bd_s, m_mix, bd_s, m1.1, m_mix, bd_s]
  exact e2
