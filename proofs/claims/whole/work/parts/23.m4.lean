/-! the reference: who is down is laid -/
def RSM (p : Nat) (M S : SL) : Prop := ∀ k w : Nat, k < p → w < 3 → M 1 (131 + 3 * k + w) = S k w
def K5 (M M' : SL) : Prop := ∀ k, k ≠ 5 → M' k = M k
theorem m_lay81 {p a b k : Nat} {S M0 : SL} (hb : b ≤ 10000) (hp : p ≤ 40) (hk : k < p) (hS : RSM p M0 S) (K : SL → Int32 → Int32 → Int32 → Option SL) :
    ∀ (j u f : Nat) (M : SL), b + 1 - u ≤ j → j < f → a ≤ u → u < 2147483648 → S k 1 ≤ nI u → K5 M0 M →
      (∀ w, a ≤ w → w ≤ b → M 5 w = if S k 1 ≤ nI w ∧ nI w < S k 1 + S k 2 ∧ w < u then dbS S w k ||| (1 <<< (S k 0 &&& 31)) else dbS S w k) →
      ∃ M', f_X6_laysDown_h81 K f M (nI a) (nI b) (nI k) (S k 1 + S k 2) (nI u) = K M' (nI a) (nI b) (nI (k + 1)) ∧ K5 M0 M' ∧ ∀ w, a ≤ w → w ≤ b → M' 5 w = dbS S w (k + 1) := by
  intro j
  induction j with
  | zero =>
    intro u f M hj hf hau hu hfirst h5 hinv
    obtain ⟨f', rfl⟩ : ∃ f', f = f' + 1 := ⟨f - 1, by omega⟩
    refine ⟨M, ?_, h5, fun w h1 h2 => ?_⟩
    · show f_X6_laysDown_b81 _ _ _ _ _ _ _ _ = _
      unfold f_X6_laysDown_b81 f_X6_laysDown_b124
      by_cases a1 : S k 1 + S k 2 ≤ nI u
      · rw [if_pos a1, lt_e, nI_1]
      · rw [if_neg a1, if_pos (nI_lt (by omega) (by omega)), lt_e, nI_1]
    · rw [hinv w h1 h2]
      show _ = if _ then _ else _
      by_cases e : S k 1 ≤ nI w ∧ nI w < S k 1 + S k 2
      · rw [if_pos ⟨e.1, e.2, by omega⟩, if_pos e]
      · rw [if_neg (fun q => e ⟨q.1, q.2.1⟩), if_neg e]
  | succ j ih =>
    intro u f M hj hf hau hu hfirst h5 hinv
    obtain ⟨f', rfl⟩ : ∃ f', f = f' + 1 := ⟨f - 1, by omega⟩
    by_cases a1 : S k 1 + S k 2 ≤ nI u
    · refine ⟨M, ?_, h5, fun w h1 h2 => ?_⟩
      · show f_X6_laysDown_b81 _ _ _ _ _ _ _ _ = _
        unfold f_X6_laysDown_b81 f_X6_laysDown_b124
        rw [if_pos a1, lt_e, nI_1]
      · rw [hinv w h1 h2]
        show _ = if _ then _ else _
        by_cases e : S k 1 ≤ nI w ∧ nI w < S k 1 + S k 2
        · have hw : w < u := by
            rcases Nat.lt_or_ge w u with q | q
            · exact q
            · exact absurd e.2 (i_nlt (i_lele a1 (nI_le q (by omega))))
          rw [if_pos ⟨e.1, e.2, hw⟩, if_pos e]
        · rw [if_neg (fun q => e ⟨q.1, q.2.1⟩), if_neg e]
    · rcases Nat.lt_or_ge b u with hbu | hbu
      · refine ⟨M, ?_, h5, fun w h1 h2 => ?_⟩
        · show f_X6_laysDown_b81 _ _ _ _ _ _ _ _ = _
          unfold f_X6_laysDown_b81 f_X6_laysDown_b124
          rw [if_neg a1, if_pos (nI_lt hbu (by omega)), lt_e, nI_1]
        · rw [hinv w h1 h2]
          show _ = if _ then _ else _
          by_cases e : S k 1 ≤ nI w ∧ nI w < S k 1 + S k 2
          · rw [if_pos ⟨e.1, e.2, by omega⟩, if_pos e]
          · rw [if_neg (fun q => e ⟨q.1, q.2.1⟩), if_neg e]
      · obtain ⟨M', e', k', d'⟩ := ih (u + 1) f' (up2 M 5 u (M 5 u ||| (1 <<< (S k 0 &&& 31)))) (by omega) (by omega) (by omega) (by omega) (i_lele hfirst (nI_le (by omega) (by omega))) (fun q hq => (up2_row hq).trans (h5 q hq)) (fun w h1 h2 => by
          rw [up2_ap]
          by_cases e : w = u
          · subst e
            rw [if_pos ⟨rfl, rfl⟩, if_pos ⟨hfirst, i_lt a1, by omega⟩, hinv w h1 h2, if_neg (by omega)]
          · rw [if_neg (fun q => e q.2), hinv w h1 h2]
            by_cases e2 : S k 1 ≤ nI w ∧ nI w < S k 1 + S k 2 ∧ w < u
            · rw [if_pos e2, if_pos ⟨e2.1, e2.2.1, by omega⟩]
            · rw [if_neg e2, if_neg (fun q => e2 ⟨q.1, q.2.1, by omega⟩)])
        refine ⟨M', ?_, k', d'⟩
        show f_X6_laysDown_b81 _ _ _ _ _ _ _ _ = _
        unfold f_X6_laysDown_b81
        rw [if_neg a1, if_neg (nI_nlt hbu (by omega))]
        simp (disch := omega) only [lt_e, n_chk, gd_t, nI_clamp, n_lit]
        have hs := hS k 0 hk (by omega)
        rw [Nat.add_zero, ← h5 1 (by omega)] at hs
        rw [hs]
        exact e'
theorem m_lay22 {p a b : Nat} {S M0 : SL} (hab : a ≤ b + 1) (hb : b ≤ 10000) (hp : p ≤ 40) (h2 : M0 1 2 = nI p) (hS : RSM p M0 S) :
    ∀ (j k f : Nat) (M : SL), k + j = p → j < f → K5 M0 M → (∀ w, a ≤ w → w ≤ b → M 5 w = dbS S w k) → ∃ M', f_X6_laysDown_h22 f M (nI a) (nI b) (nI k) = some M' ∧ K5 M0 M' ∧ ∀ w, a ≤ w → w ≤ b → M' 5 w = dbS S w p := by
  intro j
  induction j with
  | zero =>
    intro k f M hk hf h5 hinv
    obtain ⟨f', rfl⟩ : ∃ f', f = f' + 1 := ⟨f - 1, by omega⟩
    obtain rfl : k = p := by omega
    refine ⟨M, ?_, h5, hinv⟩
    show f_X6_laysDown_b22 _ _ _ _ _ = _
    unfold f_X6_laysDown_b22
    rw [lt_e, h5 1 (by omega), h2, if_pos (nI_le (Nat.le_refl _) (by omega))]
  | succ j ih =>
    intro k f M hk hf h5 hinv
    obtain ⟨f', rfl⟩ : ∃ f', f = f' + 1 := ⟨f - 1, by omega⟩
    have hs1 := hS k 1 (by omega) (by omega)
    have hs2 := hS k 2 (by omega) (by omega)
    rw [← h5 1 (by omega)] at hs1 hs2
    have fin : ∀ u : Nat, a ≤ u → u < 2147483648 → S k 1 ≤ nI u → (∀ w, a ≤ w → w ≤ b → w < u → ¬ S k 1 ≤ nI w) → ∃ M', f_X6_laysDown_h81 (f_X6_laysDown_h22 f') fuel M (nI a) (nI b) (nI k) (S k 1 + S k 2) (nI u) = some M' ∧ K5 M0 M' ∧ ∀ w, a ≤ w → w ≤ b → M' 5 w = dbS S w p := by
      intro u h1 h2' h3 h4
      obtain ⟨M1, e1, k1, d1⟩ := m_lay81 hb hp (show k < p by omega) hS (f_X6_laysDown_h22 f') (b + 1 - u) u fuel M (Nat.le_refl _) (by unfold fuel; omega) h1 h2' h3 h5 (fun w g1 g2 => by
        rw [hinv w g1 g2]
        by_cases e : S k 1 ≤ nI w ∧ nI w < S k 1 + S k 2 ∧ w < u
        · exact absurd e.1 (h4 w g1 g2 e.2.2)
        · rw [if_neg e])
      obtain ⟨M2, e2, k2, d2⟩ := ih (k + 1) f' M1 (by omega) (by omega) k1 d1
      exact ⟨M2, e1.trans e2, k2, d2⟩
    show ∃ M', f_X6_laysDown_b22 _ _ _ _ _ = _ ∧ _
    unfold f_X6_laysDown_b22 f_X6_laysDown_b79
    rw [lt_e, h5 1 (by omega), h2, if_neg (nI_ge (by omega) (by omega))]
    rw [h5 1 (by omega)] at hs1 hs2
    simp (disch := omega) only [lt_e, n_chk, gd_t, nI_clamp, n_lit]
    rw [hs1, hs2]
    by_cases a1 : S k 1 ≤ nI a
    · rw [if_pos a1]
      exact fin a (Nat.le_refl _) (by omega) a1 (fun w g1 g2 g3 => absurd g3 (by omega))
    · rw [if_neg a1]
      have h0 : ¬ S k 1 < 0 := fun q => a1 (by
        rw [Int32.le_iff_toInt_le]
        rw [Int32.lt_iff_toInt_lt] at q
        have := nI_toInt (n := a) (by omega)
        have : (0 : Int32).toInt = 0 := rfl
        omega)
      obtain ⟨u, hu, eu⟩ := nI_of h0
      rw [show f_X6_laysDown_h81 (f_X6_laysDown_h22 f') fuel M (nI a) (nI b) (nI k) (S k 1 + S k 2) (S k 1) = f_X6_laysDown_h81 (f_X6_laysDown_h22 f') fuel M (nI a) (nI b) (nI k) (S k 1 + S k 2) (nI u) from by rw [← eu]]
      have hau : a ≤ u := by
        rcases Nat.lt_or_ge u a with q | q
        · exact absurd (by rw [eu]; exact nI_le (by omega) (by omega)) a1
        · exact q
      exact fin u hau (by omega) (by rw [eu]; exact Int32.le_refl _) (fun w g1 g2 g3 => by rw [eu]; exact nI_ge g3 (by omega))
theorem m_lay2 {p a b : Nat} {S M0 : SL} (hab : a ≤ b + 1) (hb : b ≤ 10000) (hp : p ≤ 40) (h2 : M0 1 2 = nI p) (hS : RSM p M0 S) :
    ∀ (j t f : Nat) (M : SL), t + j = b + 1 → j < f → a ≤ t → K5 M0 M → (∀ w, a ≤ w → w < t → M 5 w = 0) → ∃ M', f_X6_laysDown_h2 f M (nI a) (nI b) (nI t) = some M' ∧ K5 M0 M' ∧ ∀ w, a ≤ w → w ≤ b → M' 5 w = dbS S w p := by
  intro j
  induction j with
  | zero =>
    intro t f M ht hf hat h5 hinv
    obtain ⟨f', rfl⟩ : ∃ f', f = f' + 1 := ⟨f - 1, by omega⟩
    show ∃ M', f_X6_laysDown_b2 _ _ _ _ _ = _ ∧ _
    unfold f_X6_laysDown_b2
    rw [if_pos (nI_lt (by omega) (by omega))]
    exact m_lay22 hab hb hp h2 hS p 0 fuel M (by omega) (by unfold fuel; omega) h5 (fun w g1 g2 => hinv w g1 (by omega))
  | succ j ih =>
    intro t f M ht hf hat h5 hinv
    obtain ⟨f', rfl⟩ : ∃ f', f = f' + 1 := ⟨f - 1, by omega⟩
    show ∃ M', f_X6_laysDown_b2 _ _ _ _ _ = _ ∧ _
    unfold f_X6_laysDown_b2
    rw [if_neg (nI_nlt (by omega) (by omega))]
    simp (disch := omega) only [lt_e, n_chk, gd_t, nI_clamp, n_lit]
    exact ih (t + 1) f' _ (by omega) (by omega) (by omega) (fun q hq => (up2_row hq).trans (h5 q hq)) (fun w g1 g2 => by
      rw [up2_ap]
      by_cases e : w = t
      · rw [if_pos ⟨rfl, e⟩]
      · rw [if_neg (fun q => e q.2)]
        exact hinv w g1 (by omega))
theorem m_lay {p a b : Nat} {S M : SL} (hab : a ≤ b + 1) (hb : b ≤ 10000) (hp : p ≤ 40) (h2 : M 1 2 = nI p) (hS : RSM p M S) : ∃ M', f_X6_laysDown M (nI a) (nI b) = some M' ∧ K5 M M' ∧ ∀ w, a ≤ w → w ≤ b → M' 5 w = dbS S w p := by
  unfold f_X6_laysDown
  exact m_lay2 hab hb hp h2 hS (b + 1 - a) a fuel M (by omega) (by unfold fuel; omega) (Nat.le_refl _) (fun _ _ => rfl) (fun w g1 g2 => absurd g2 (by omega))
def outR (n : Nat) (R : SL) : Int32 := if n = 0 then 0 else R (n - 1) 13
theorem m_made {n : Nat} {M R : SL} (hn : n ≤ 8) (h2 : M 1 0 = nI n) (hR : RM n M R) : f_X6_made M = some (outR n R) := by
  unfold f_X6_made outR
  simp (disch := omega) only [lt_e, h2, n_lit]
  by_cases h0 : n = 0
  · rw [if_neg (fun q => q (by omega)), if_pos h0]
  · rw [if_pos (by omega), if_neg h0]
    simp (disch := omega) only [n_lit, m_of, bd_s, n_chk, gd_t, nI_clamp]
    rw [show 3 + 16 * (n - 1) + 9 + 4 = 3 + 16 * (n - 1) + 13 by omega, hR (n - 1) 13 (by omega) (by omega)]
/-- the reference holds n machines with rows R, p stops S, at tick t -/
def ML (n t p : Nat) (M R S : SL) : Prop := M 1 0 = nI n ∧ M 1 1 = nI t ∧ M 1 2 = nI p ∧ RM n M R ∧ RSM p M S
/-- the row's other places, and the other cells but who is down -/
def KG (M M' : SL) : Prop := ∀ k, k ≠ 1 → k ≠ 5 → M' k = M k
theorem m_goL {n p t0 : Nat} {S : SL} (hn : n ≤ 8) (hn0 : 0 < n) (T : Nat) (had : Int32) (hT : t0 + T ≤ 10000) : ∀ (j k f : Nat) (M R : SL), k + j = T → j < f → ML n (t0 + k) p M R S → FN n R → (∀ w, t0 + 1 ≤ w → w ≤ t0 + T → M 5 w = dbS S w p) →
    ∃ M', f_X6_goes_h27 f M (nI T) had (nI k) = some (outR n (pasS n p S j (t0 + k) R) - had, M') ∧ ML n (t0 + T) p M' (pasS n p S j (t0 + k) R) S ∧ KG M M' := by
  intro j
  induction j with
  | zero =>
    intro k f M R hk hf hM hF hd
    obtain ⟨f', rfl⟩ : ∃ f', f = f' + 1 := ⟨f - 1, by omega⟩
    refine ⟨M, ?_, by rw [show t0 + T = t0 + k by omega]; exact hM, fun _ _ _ => rfl⟩
    show f_X6_goes_b27 _ _ _ _ _ = _
    unfold f_X6_goes_b27
    rw [if_pos (nI_le (by omega) (by omega)), m_made hn hM.1 hM.2.2.2.1, bd_s]
    rfl
  | succ j ih =>
    intro k f M R hk hf hM hF hd
    obtain ⟨f', rfl⟩ : ∃ f', f = f' + 1 := ⟨f - 1, by omega⟩
    obtain ⟨h0, h1, h2, hR, hS⟩ := hM
    obtain ⟨M1, e1, r1, k1⟩ := m_pass1 hn hn0 (show t0 + k + 1 ≤ 10000 by omega) h0 h1 hF hR
    rw [hd (t0 + k + 1) (by omega) (by omega)] at r1
    have q : ∀ j, (j = 0 ∨ j = 2 ∨ 131 ≤ j) → M1 1 j = M 1 j := fun j hj => by
      rw [k1.2 j (by omega), up2_ap, if_neg (by omega)]
    have q5 : ∀ k, k ≠ 1 → M1 k = M k := fun k hk => (k1.1 k hk).trans (up2_row hk)
    obtain ⟨M2, e2, m2, g2⟩ := ih (k + 1) f' M1 (ticS n (dbS S (t0 + k + 1) p) R) (by omega) (by omega) ⟨by rw [q 0 (by omega)]; exact h0, by rw [k1.2 1 (by omega), up2_ap, if_pos (by omega)]; rfl, by rw [q 2 (by omega)]; exact h2, r1, fun a w ha hw => by rw [q _ (by omega)]; exact hS a w ha hw⟩ (FN_tic hF _) (fun w g1 g2 => by rw [q5 5 (by omega)]; exact hd w g1 g2)
    refine ⟨M2, ?_, m2, fun a g1 g3 => (g2 a g1 g3).trans (q5 a g1)⟩
    show f_X6_goes_b27 _ _ _ _ _ = _
    unfold f_X6_goes_b27
    rw [if_neg (nI_ge (by omega) (by omega)), e1, bd_s, lt_e, nI_1, e2]
    rfl
theorem m_goes {n t p T : Nat} {M R S : SL} (hn : n ≤ 8) (hn0 : 0 < n) (hp : p ≤ 40) (hT : t + T ≤ 10000) (hM : ML n t p M R S) (hF : FN n R) : ∃ M', f_X6_goes M (nI T) = some (outR n (pasS n p S T t R) - outR n R, M') ∧ ML n (t + T) p M' (pasS n p S T t R) S ∧ KG M M' := by
  obtain ⟨h0, h1, h2, hR, hS⟩ := hM
  obtain ⟨M1, e1, k1, d1⟩ := m_lay (M := M) (S := S) (p := p) (a := t + 1) (b := t + T) (by omega) hT hp h2 hS
  obtain ⟨M2, e2, m2, g2⟩ := m_goL (S := S) hn hn0 T (outR n R) hT T 0 fuel M1 R (by omega) (by unfold fuel; omega) ⟨by rw [k1 1 (by omega)]; exact h0, by rw [k1 1 (by omega)]; exact h1, by rw [k1 1 (by omega)]; exact h2, fun m c hm hc => by rw [k1 1 (by omega)]; exact hR m c hm hc, fun a w ha hw => by rw [k1 1 (by omega)]; exact hS a w ha hw⟩ hF d1
  refine ⟨M2, ?_, m2, fun a g1 g3 => (g2 a g1 g3).trans (k1 a g3)⟩
  unfold f_X6_goes
  rw [m_made hn h0 hR, bd_s]
  simp only [lt_e]
  rw [h1, nI_1, nI_add, e1, bd_s]
  exact e2
