/-! THE MEANING, 6: the reference's other methods on its line -/
theorem lt_n {α β : Type} (a : α) (f : α → β) : lt_ a f = f a := id rfl
theorem gd_n {α : Type} (x : Option α) : gd true x = x := id rfl
def MB (n t p : Nat) (X : Nat → Int32) (R S : SL) : Prop := X 0 = nI n ∧ X 1 = nI t ∧ X 2 = nI p ∧ (∀ m c : Nat, m < n → c < 16 → X (3 + 16 * m + c) = R m c) ∧ ∀ k w : Nat, k < p → w < 3 → X (131 + 3 * k + w) = S k w
theorem MB.congr {n t p : Nat} {X Y : Nat → Int32} {R S : SL} (hn : n ≤ 8) (hp : p ≤ 40) (h : MB n t p X R S) (he : ∀ c, c < 251 → Y c = X c) : MB n t p Y R S :=
  ⟨(he 0 (by omega)).trans h.1, (he 1 (by omega)).trans h.2.1, (he 2 (by omega)).trans h.2.2.1, fun m c hm hc => (he _ (by omega)).trans (h.2.2.2.1 m c hm hc), fun k w hk hw => (he _ (by omega)).trans (h.2.2.2.2 k w hk hw)⟩
theorem ML.mb {n t p : Nat} {M R S : SL} (h : ML n t p M R S) : MB n t p (M 1) R S := h
theorem MB.ml {n t p : Nat} {M R S : SL} (h : MB n t p (M 1) R S) : ML n t p M R S := h
/-- all cells but the row stay -/
def K1 (M M' : SL) : Prop := ∀ k, k ≠ 1 → M' k = M k
theorem K1.rf {M : SL} : K1 M M := fun _ _ => rfl
theorem K1.put {A M : SL} (h : K1 A M) (j : Nat) (v : Int32) : K1 A (up2 M 1 j v) := fun k hk => (up2_row hk).trans (h k hk)
theorem m_addL {n : Nat} (hn : n < 8) (M0 : SL) (h0 : M0 1 0 = nI n) (a b c : Int32) : ∀ (j k f : Nat) (M : SL), k + j = 16 → j < f → (∀ q, M 1 q = if 3 + 16 * n ≤ q ∧ q < 3 + 16 * n + k then 0 else M0 1 q) → K1 M0 M → ∃ M', f_X6_adds_h14 f M a b c (nI (3 + 16 * n)) (nI k) = some M' ∧ K1 M0 M' ∧ ∀ q, M' 1 q = if q = 0 then nI (n + 1) else if 3 + 16 * n ≤ q ∧ q < 3 + 16 * n + 16 then joinS M0 n a b c n (q - (3 + 16 * n)) else M0 1 q := by
  intro j
  induction j with
  | zero =>
    intro k f M hk hf hM hK
    obtain ⟨f', rfl⟩ : ∃ f', f = f' + 1 := ⟨f - 1, by omega⟩
    show ∃ M', f_X6_adds_b14 _ M a b c _ (nI k) = _ ∧ _
    unfold f_X6_adds_b14
    simp (disch := omega) only [lt_e, n_lit, n_chk, gd_t, nI_clamp]
    rw [if_pos (by omega)]
    refine ⟨_, rfl, ((((((hK.put _ _).put _ _).put _ _).put _ _).put _ _).put _ _).put _ _, fun q => ?_⟩
    have e0 : M 1 0 = nI n := by rw [hM, if_neg (by omega)]; exact h0
    rw [show (up2 (up2 (up2 (up2 (up2 (up2 M 1 (3 + 16 * n) a) 1 (3 + 16 * n + 1) b) 1 (3 + 16 * n + 3) 40) 1 (3 + 16 * n + 4) c) 1 (3 + 16 * n + 6) (-1)) 1 (3 + 16 * n + 7) 1) 1 0 = nI n from by rw [up2_q (by omega), up2_q (by omega), up2_q (by omega), up2_q (by omega), up2_q (by omega), up2_q (by omega)]; exact e0, nI_1]
    simp only [up2_ap, hM, joinS, empS, emv]
    obtain rfl : k = 16 := by omega
    by_cases e1 : q = 0
    · rw [if_pos ⟨trivial, e1⟩, if_pos e1]
    · rw [if_neg (fun z => e1 z.2), if_neg e1]
      by_cases e2 : 3 + 16 * n ≤ q ∧ q < 3 + 16 * n + 16
      · obtain ⟨d, rfl, hd⟩ : ∃ d, q = 3 + 16 * n + d ∧ d < 16 := ⟨q - (3 + 16 * n), by omega, by omega⟩
        rw [if_pos e2, Nat.add_sub_cancel_left]
        grind (splits := 30)
      · refine Eq.trans ?_ (if_neg e2).symm
        rw [if_neg (by omega), if_neg (by omega), if_neg (by omega), if_neg (by omega), if_neg (by omega), if_neg (by omega)]
        exact if_neg e2
  | succ j ih =>
    intro k f M hk hf hM hK
    obtain ⟨f', rfl⟩ : ∃ f', f = f' + 1 := ⟨f - 1, by omega⟩
    show ∃ M', f_X6_adds_b14 _ M a b c _ (nI k) = _ ∧ _
    unfold f_X6_adds_b14
    simp (disch := omega) only [lt_e, n_lit, nI_add, n_chk, gd_t, nI_clamp]
    rw [if_neg (by omega)]
    exact ih (k + 1) f' _ (by omega) (by omega) (fun q => by rw [up2_ap, hM]; grind) (hK.put _ _)
theorem m_adds {n t p : Nat} {M R S : SL} (hn : n < 8) (h : ML n t p M R S) (a b c : Int32) : ∃ M', f_X6_adds M a b c = some M' ∧ ML (n + 1) t p M' (joinS R n a b c) S ∧ K1 M M' := by
  obtain ⟨h0, h1, h2, hR, hS⟩ := h
  unfold f_X6_adds
  rw [lt_e, h0, m_of, bd_s]
  obtain ⟨M', e, k, d⟩ := m_addL hn M h0 a b c 16 0 fuel M (by omega) (by unfold fuel; omega) (fun q => by rw [if_neg (by omega)]) (fun _ _ => rfl)
  refine ⟨M', e, ⟨?_, ?_, ?_, ?_, ?_⟩, k⟩
  · rw [d, if_pos rfl]
  · rw [d, if_neg (by omega), if_neg (by omega)]; exact h1
  · rw [d, if_neg (by omega), if_neg (by omega)]; exact h2
  · intro m q hm hq
    rw [d, if_neg (by omega)]
    by_cases e : m = n
    · subst e
      rw [if_pos (by omega), Nat.add_sub_cancel_left]
      simp only [joinS, empS, up2_ap]
      grind
    · rw [if_neg (by omega), hR m q (by omega) hq]
      simp only [joinS, empS, up2_ap]
      grind
  · intro i w hi hw
    rw [d, if_neg (by omega), if_neg (by omega)]
    exact hS i w hi hw
theorem m_plans {n t p : Nat} {M R S : SL} (hn : n ≤ 8) (hp : p < 40) (h : ML n t p M R S) (a b c : Int32) : ∃ M', f_X6_plans M a b c = some M' ∧ ML n t (p + 1) M' R (plaS S p a b c) ∧ K1 M M' := by
  obtain ⟨h0, h1, h2, hR, hS⟩ := h
  unfold f_X6_plans
  simp (disch := omega) only [lt_e, h2, n_lit, n_chk, gd_t, nI_clamp]
  rw [show (up2 (up2 (up2 M 1 (131 + 3 * p) a) 1 (131 + 3 * p + 1) b) 1 (131 + 3 * p + 2) c) 1 2 = nI p from by rw [up2_q (by omega), up2_q (by omega), up2_q (by omega)]; exact h2, nI_1]
  refine ⟨_, rfl, ⟨?_, ?_, up2_s _ _ _ _, ?_, ?_⟩, (((K1.rf.put _ _).put _ _).put _ _).put _ _⟩
  · rw [up2_q (by omega), up2_q (by omega), up2_q (by omega), up2_q (by omega)]; exact h0
  · rw [up2_q (by omega), up2_q (by omega), up2_q (by omega), up2_q (by omega)]; exact h1
  · intro m q hm hq
    rw [up2_q (by omega), up2_q (by omega), up2_q (by omega), up2_q (by omega)]; exact hR m q hm hq
  · intro i w hi hw
    rw [up2_q (by omega)]
    unfold plaS
    simp only [up2_ap]
    by_cases e : i = p
    · subst e
      grind
    · have := hS i w (by omega) hw
      grind
/-! one turn of the planned stops behind the other -/
theorem m_clrI {p q k : Nat} (hp : p ≤ 40) (hk : k < p) (hq : q ≤ k) (M0 S : SL) (K : SL → Int32 → Int32 → Int32 → Option (Int32 × SL)) (hS : ∀ w, w < 3 → M0 1 (131 + 3 * k + w) = S k w) : ∀ (j w f : Nat) (M : SL), w + j = 3 → j < f → (∀ c, M 1 c = if 131 + 3 * q ≤ c ∧ c < 131 + 3 * q + w then S k (c - (131 + 3 * q)) else M0 1 c) → K1 M0 M → ∃ M', f_X6_clearStops_h51 K f M (nI p) (nI q) (nI k) (nI w) = K M' (nI p) (nI (q + 1)) (nI (k + 1)) ∧ K1 M0 M' ∧ ∀ c, M' 1 c = if 131 + 3 * q ≤ c ∧ c < 131 + 3 * q + 3 then S k (c - (131 + 3 * q)) else M0 1 c := by
  intro j
  induction j with
  | zero =>
    intro w f M hw hf hM hK
    obtain ⟨f', rfl⟩ : ∃ f', f = f' + 1 := ⟨f - 1, by omega⟩
    refine ⟨M, ?_, hK, fun c => by rw [hM, show w = 3 by omega]⟩
    show f_X6_clearStops_b51 K _ M _ _ _ (nI w) = _
    unfold f_X6_clearStops_b51 f_X6_clearStops_b96
    simp (disch := omega) only [lt_e, n_lit]
    rw [if_pos (by omega)]
  | succ j ih =>
    intro w f M hw hf hM hK
    obtain ⟨f', rfl⟩ : ∃ f', f = f' + 1 := ⟨f - 1, by omega⟩
    show ∃ M', f_X6_clearStops_b51 K _ M _ _ _ (nI w) = _ ∧ _
    unfold f_X6_clearStops_b51
    simp (disch := omega) only [lt_e, n_lit, nI_add, n_chk, gd_t, nI_clamp]
    rw [if_neg (by omega)]
    refine ih (w + 1) f' _ (by omega) (by omega) (fun c => ?_) (hK.put _ _)
    have e1 : M 1 (131 + 3 * k + w) = S k w := by
      rw [hM, if_neg (by omega)]
      exact hS w (by omega)
    rw [up2_ap, e1, hM]
    by_cases e : c = 131 + 3 * q + w
    · rw [if_pos ⟨rfl, e⟩, if_pos (by omega), e, Nat.add_sub_cancel_left]
    · rw [if_neg (fun z => e z.2)]
      by_cases e2 : 131 + 3 * q ≤ c ∧ c < 131 + 3 * q + w
      · rw [if_pos e2, if_pos (by omega)]
      · rw [if_neg e2, if_neg (by omega)]
theorem m_clrL {n t p : Nat} {R S : SL} (hn : n ≤ 8) (ht : t ≤ 10000) (hp : p ≤ 40) (M0 : SL) : ∀ (j k f : Nat) (M : SL), k + j = p → j < f → K1 M0 M → M 1 0 = nI n → M 1 1 = nI t → RM n M R → (∀ i w, i < (drpS S t k).1 → w < 3 → M 1 (131 + 3 * i + w) = (drpS S t k).2 i w) → (∀ i w, k ≤ i → i < p → w < 3 → M 1 (131 + 3 * i + w) = S i w) → ∃ M', f_X6_clearStops_h20 f M (nI p) (nI (drpS S t k).1) (nI k) = some (nI (p - (drpS S t p).1), M') ∧ ML n t (drpS S t p).1 M' R (drpS S t p).2 ∧ K1 M0 M' := by
  intro j
  induction j with
  | zero =>
    intro k f M hk hf hK h0 h1 hR hS1 hS2
    obtain ⟨f', rfl⟩ : ∃ f', f = f' + 1 := ⟨f - 1, by omega⟩
    obtain rfl : k = p := by omega
    have hq := drp_le S t k
    show ∃ M', f_X6_clearStops_b20 _ M _ _ _ = _ ∧ _
    unfold f_X6_clearStops_b20
    rw [if_pos (nI_le (Nat.le_refl _) (by omega)), lt_e, lt_e, pk_sub hq]
    refine ⟨_, rfl, ⟨?_, ?_, up2_s _ _ _ _, ?_, ?_⟩, hK.put _ _⟩
    · rw [up2_q (by omega)]; exact h0
    · rw [up2_q (by omega)]; exact h1
    · intro m c hm hc
      rw [up2_q (by omega)]; exact hR m c hm hc
    · intro i w hi hw
      rw [up2_q (by omega)]; exact hS1 i w hi hw
  | succ j ih =>
    intro k f M hk hf hK h0 h1 hR hS1 hS2
    obtain ⟨f', rfl⟩ : ∃ f', f = f' + 1 := ⟨f - 1, by omega⟩
    have hq := drp_le S t k
    show ∃ M', f_X6_clearStops_b20 _ M _ _ _ = _ ∧ _
    unfold f_X6_clearStops_b20
    rw [if_neg (nI_ge (by omega) (by omega))]
    simp (disch := omega) only [lt_e, n_lit, n_chk, gd_t, nI_clamp]
    rw [hS2 k 1 (by omega) (by omega) (by omega), h1]
    by_cases e : S k 1 ≤ nI t
    · rw [if_neg (i_nlt e)]
      have hd : drpS S t (k + 1) = ((drpS S t k).1 + 1, plaS (drpS S t k).2 (drpS S t k).1 (S k 0) (S k 1) (S k 2)) := if_pos e
      generalize drpS S t k = D at *
      obtain ⟨M1, e1, k1, d1⟩ := m_clrI hp (show k < p by omega) hq M S (f_X6_clearStops_h20 f') (fun w hw => hS2 k w (by omega) (by omega) hw) 3 0 fuel M (by omega) (by unfold fuel; omega) (fun c => by rw [if_neg (by omega)]) (fun _ _ => rfl)
      obtain ⟨M2, e2, l2, k2⟩ := ih (k + 1) f' M1 (by omega) (by omega) (fun i hi => (k1 i hi).trans (hK i hi)) (by rw [d1, if_neg (by omega)]; exact h0) (by rw [d1, if_neg (by omega)]; exact h1) (fun m c hm hc => by rw [d1, if_neg (by omega)]; exact hR m c hm hc) (fun i w hi hw => by
          rw [hd] at hi ⊢
          rw [d1]
          unfold plaS
          simp only [up2_ap]
          by_cases g : i = D.1
          · subst g
            rw [if_pos (by omega), Nat.add_sub_cancel_left]
            grind
          · rw [if_neg (by omega), hS1 i w (by omega) hw]
            grind) (fun i w h1 h2 hw => by rw [d1, if_neg (by omega)]; exact hS2 i w (by omega) h2 hw)
      refine ⟨M2, ?_, l2, k2⟩
      rw [hd] at e2
      exact e1.trans e2
    · rw [if_pos (i_lt e)]
      have hd : drpS S t (k + 1) = drpS S t k := if_neg e
      have q := ih (k + 1) f' M (by omega) (by omega) hK h0 h1 hR (by rw [hd]; exact hS1) (fun i w h1 h2 hw => hS2 i w (by omega) h2 hw)
      rw [hd] at q
      unfold f_X6_clearStops_b96
      rw [lt_e, nI_1]
      exact q
theorem m_empI {n m : Nat} (hm : m < 8) (M0 : SL) (K : SL → Int32 → Option SL) : ∀ (j c f : Nat) (M : SL), 5 ≤ c → c + j = 16 → j < f → (∀ q, M 1 q = if 3 + 16 * m + 5 ≤ q ∧ q < 3 + 16 * m + c then 0 else M0 1 q) → K1 M0 M → ∃ M', f_X6_empties_h26 K f M (nI m) (nI (3 + 16 * m)) (nI c) = K M' (nI (m + 1)) ∧ K1 M0 M' ∧ ∀ q, M' 1 q = if 3 + 16 * m + 5 ≤ q ∧ q < 3 + 16 * m + 16 then emv (q - (3 + 16 * m)) else M0 1 q := by
  intro j
  induction j with
  | zero =>
    intro c f M h5 hc hf hM hK
    obtain ⟨f', rfl⟩ : ∃ f', f = f' + 1 := ⟨f - 1, by omega⟩
    show ∃ M', f_X6_empties_b26 K _ M _ _ (nI c) = _ ∧ _
    unfold f_X6_empties_b26
    simp (disch := omega) only [lt_e, n_lit, n_chk, gd_t, nI_clamp]
    rw [if_pos (by omega)]
    refine ⟨_, rfl, (hK.put _ _).put _ _, fun q => ?_⟩
    obtain rfl : c = 16 := by omega
    simp only [up2_ap, hM, emv]
    grind
  | succ j ih =>
    intro c f M h5 hc hf hM hK
    obtain ⟨f', rfl⟩ : ∃ f', f = f' + 1 := ⟨f - 1, by omega⟩
    show ∃ M', f_X6_empties_b26 K _ M _ _ (nI c) = _ ∧ _
    unfold f_X6_empties_b26
    simp (disch := omega) only [lt_e, n_lit, nI_add, n_chk, gd_t, nI_clamp]
    rw [if_neg (by omega)]
    exact ih (c + 1) f' _ (by omega) (by omega) (by omega) (fun q => by rw [up2_ap, hM]; grind) (hK.put _ _)
theorem m_empL {n p : Nat} {R S : SL} (hn : n ≤ 8) (hp : p ≤ 40) (M0 : SL) : ∀ (j m f : Nat) (M : SL), m + j = n → j < f → ML n 0 p M (allS m R) S → K1 M0 M → ∃ M', f_X6_empties_h9 f M (nI m) = some M' ∧ ML n 0 p M' (allS n R) S ∧ K1 M0 M' := by
  intro j
  induction j with
  | zero =>
    intro m f M hm hf hM hK
    obtain ⟨f', rfl⟩ : ∃ f', f = f' + 1 := ⟨f - 1, by omega⟩
    obtain rfl : m = n := by omega
    refine ⟨M, ?_, hM, hK⟩
    show f_X6_empties_b9 _ M (nI m) = _
    unfold f_X6_empties_b9
    rw [lt_e, hM.1, if_pos (nI_le (Nat.le_refl _) (by omega))]
  | succ j ih =>
    intro m f M hm hf hM hK
    obtain ⟨f', rfl⟩ : ∃ f', f = f' + 1 := ⟨f - 1, by omega⟩
    obtain ⟨h0, h1, h2, hR, hS⟩ := hM
    show ∃ M', f_X6_empties_b9 _ M (nI m) = _ ∧ _
    unfold f_X6_empties_b9
    rw [lt_e, h0, if_neg (nI_ge (by omega) (by omega)), m_of, bd_s]
    obtain ⟨M1, e1, k1, d1⟩ := m_empI (n := n) (show m < 8 by omega) M (f_X6_empties_h9 f') 11 5 fuel M (by omega) (by omega) (by unfold fuel; omega) (fun q => by rw [if_neg (by omega)]) (fun _ _ => rfl)
    obtain ⟨M2, e2, l2, k2⟩ := ih (m + 1) f' M1 (by omega) (by omega) ⟨by rw [d1, if_neg (by omega)]; exact h0, by rw [d1, if_neg (by omega)]; exact h1, by rw [d1, if_neg (by omega)]; exact h2, fun m' c hm' hc => by
        have g := hR m' c hm' hc
        rw [d1]
        unfold allS at g ⊢
        by_cases z : m' = m
        · subst z
          rw [if_neg (by omega)] at g
          by_cases z2 : 5 ≤ c
          · rw [if_pos (by omega), if_pos (by omega), Nat.add_sub_cancel_left]
          · rw [if_neg (by omega), if_neg (by omega), g]
        · rw [if_neg (by omega), g]
          by_cases z3 : m' < m ∧ 5 ≤ c ∧ c < 16
          · rw [if_pos z3, if_pos (by omega)]
          · rw [if_neg z3, if_neg (by omega)], fun i w hi hw => by rw [d1, if_neg (by omega)]; exact hS i w hi hw⟩ (fun i hi => (k1 i hi).trans (hK i hi))
    exact ⟨M2, e1.trans e2, l2, k2⟩
theorem m_emp {n t p : Nat} {M R S : SL} (hn : n ≤ 8) (hp : p ≤ 40) (h : ML n t p M R S) : ∃ M', f_X6_empties M = some M' ∧ ML n 0 p M' (allS n R) S ∧ K1 M M' := by
  obtain ⟨h0, h1, h2, hR, hS⟩ := h
  unfold f_X6_empties
  rw [lt_e]
  exact m_empL hn hp M n 0 fuel _ (by omega) (by unfold fuel; omega) ⟨by rw [up2_q (by omega)]; exact h0, by rw [up2_s]; rfl, by rw [up2_q (by omega)]; exact h2, fun m c hm hc => by
    unfold allS
    rw [if_neg (by omega), up2_q (by omega)]; exact hR m c hm hc, fun i w hi hw => by rw [up2_q (by omega)]; exact hS i w hi hw⟩ (K1.rf.put _ _)
theorem m_insL {n : Nat} {M R : SL} (hn : n ≤ 8) (h0 : M 1 0 = nI n) (hR : RM n M R) : ∀ (j m f : Nat), m + j = n → j < f → f_X6_bottles_h4 f M (insS R m) (nI m) = some (insS R n) := by
  intro j
  induction j with
  | zero =>
    intro m f hm hf
    obtain ⟨f', rfl⟩ : ∃ f', f = f' + 1 := ⟨f - 1, by omega⟩
    show f_X6_bottles_b4 _ M _ (nI m) = _
    unfold f_X6_bottles_b4
    rw [lt_e, h0, if_pos (nI_le (by omega) (by omega)), show m = n by omega]
  | succ j ih =>
    intro m f hm hf
    obtain ⟨f', rfl⟩ : ∃ f', f = f' + 1 := ⟨f - 1, by omega⟩
    show f_X6_bottles_b4 _ M _ (nI m) = _
    have ih' := ih (m + 1) f' (by omega) (by omega)
    unfold f_X6_bottles_b4 f_X6_bottles_b47
    rw [lt_e, h0, if_neg (nI_ge (by omega) (by omega))]
    simp (disch := omega) only [lt_e, m_of, bd_s, n_lit, n_chk, gd_t, nI_clamp]
    rw [hR m 5 (by omega) (by omega), hR m 6 (by omega) (by omega), ← ih']
    show _ = f_X6_bottles_h4 f' M (insS R m + (R m 5 + if R m 6 = -1 then 0 else 1)) (nI (m + 1))
    by_cases e : R m 6 = -1
    · rw [if_neg (fun q => q e), if_pos e]
    · rw [if_pos e, if_neg e]
theorem m_ins {n t p : Nat} {M R S : SL} (hn : n ≤ 8) (h : ML n t p M R S) : f_X6_bottles M = some (insS R n) := by
  unfold f_X6_bottles
  exact m_insL hn h.1 h.2.2.2.1 n 0 fuel (by omega) (by unfold fuel; omega)
theorem m_idl {n m : Nat} {M R : SL} (hn : n ≤ 8) (hm : m < n) (hR : RM n M R) : f_X6_idle M (nI m) = some (idl R m) := by
  unfold f_X6_idle idl
  simp (disch := omega) only [lt_e, m_of, bd_s, n_lit, n_chk, gd_t, nI_clamp]
  rw [show 3 + 16 * m + 9 + 2 - 1 = 3 + 16 * m + 10 by omega, show 3 + 16 * m + 9 + 3 - 1 = 3 + 16 * m + 11 by omega, hR m 10 hm (by omega), hR m 11 hm (by omega)]
theorem lim_le (R : SL) : ∀ k, limS R k ≤ k
  | 0 => Nat.le_refl 0
  | k + 1 => by
    have := lim_le R k
    show (if idl R (limS R k) ≤ idl R (k + 1) then limS R k else k + 1) ≤ k + 1
    split <;> omega
theorem m_limL {n : Nat} {M R : SL} (hn : n ≤ 8) (h0 : M 1 0 = nI n) (hR : RM n M R) : ∀ (j m f : Nat), m + 1 + j = n → j < f → f_X6_limiting_h27 f M (nI (limS R m)) (nI (m + 1)) = some (nI (limS R (n - 1)), M) := by
  intro j
  induction j with
  | zero =>
    intro m f hm hf
    obtain ⟨f', rfl⟩ : ∃ f', f = f' + 1 := ⟨f - 1, by omega⟩
    show f_X6_limiting_b27 _ M _ (nI (m + 1)) = _
    unfold f_X6_limiting_b27
    rw [lt_e, h0, if_pos (nI_le (by omega) (by omega)), show n - 1 = m by omega]
  | succ j ih =>
    intro m f hm hf
    obtain ⟨f', rfl⟩ : ∃ f', f = f' + 1 := ⟨f - 1, by omega⟩
    show f_X6_limiting_b27 _ M _ (nI (m + 1)) = _
    have ih' := ih (m + 1) f' (by omega) (by omega)
    have hl := lim_le R m
    unfold f_X6_limiting_b27 f_X6_limiting_b55
    rw [lt_e, h0, if_neg (nI_ge (by omega) (by omega)), m_idl hn (by omega) hR, bd_s, m_idl hn (by omega) hR, bd_s]
    simp only [lt_e, nI_1]
    rw [← ih']
    by_cases e : idl R (limS R m) ≤ idl R (m + 1)
    · rw [if_pos e, show limS R (m + 1) = limS R m from if_pos e]
    · rw [if_neg e, show limS R (m + 1) = m + 1 from if_neg e]
/-! the reference: blocks are copied -/
theorem m_keepL (M0 : SL) : ∀ (j c f : Nat) (M : SL), c + j = 251 → j < f → (∀ k, k ≠ 3 → M k = M0 k) → (∀ q, q < c → M 3 q = M0 1 q) → ∃ M', f_X6_keeps_h2 f M (nI c) = some M' ∧ (∀ k, k ≠ 3 → M' k = M0 k) ∧ ∀ q, q < 251 → M' 3 q = M0 1 q := by
  intro j
  induction j with
  | zero =>
    intro c f M hc hf h1 h2
    obtain ⟨f', rfl⟩ : ∃ f', f = f' + 1 := ⟨f - 1, by omega⟩
    refine ⟨M, ?_, h1, fun q hq => h2 q (by omega)⟩
    show f_X6_keeps_b2 _ M (nI c) = _
    unfold f_X6_keeps_b2
    simp (disch := omega) only [n_lit]
    rw [if_pos (by omega)]
  | succ j ih =>
    intro c f M hc hf h1 h2
    obtain ⟨f', rfl⟩ : ∃ f', f = f' + 1 := ⟨f - 1, by omega⟩
    show ∃ M', f_X6_keeps_b2 _ M (nI c) = _ ∧ _
    unfold f_X6_keeps_b2
    simp (disch := omega) only [lt_e, n_lit, n_chk, gd_t, nI_clamp]
    rw [if_neg (by omega)]
    refine ih (c + 1) f' _ (by omega) (by omega) (fun k hk => (up2_row hk).trans (h1 k hk)) (fun q hq => ?_)
    rw [up2_ap]
    by_cases e : q = c
    · rw [if_pos ⟨rfl, e⟩, h1 1 (by omega), e]
    · rw [if_neg (fun z => e z.2)]
      exact h2 q (by omega)
theorem m_keeps (M : SL) : ∃ M', f_X6_keeps M = some M' ∧ (∀ k, k ≠ 3 → M' k = M k) ∧ ∀ q, q < 251 → M' 3 q = M 1 q := by
  unfold f_X6_keeps
  exact m_keepL M 251 0 fuel M (by omega) (by unfold fuel; omega) (fun _ _ => rfl) (fun q hq => absurd hq (by omega))
theorem m_backL (M0 : SL) : ∀ (j c f : Nat) (M : SL), c + j = 251 → j < f → K1 M0 M → (∀ q, q < c → M 1 q = M0 3 q) → ∃ M', f_X6_takesBack_h2 f M (nI c) = some M' ∧ K1 M0 M' ∧ ∀ q, q < 251 → M' 1 q = M0 3 q := by
  intro j
  induction j with
  | zero =>
    intro c f M hc hf h1 h2
    obtain ⟨f', rfl⟩ : ∃ f', f = f' + 1 := ⟨f - 1, by omega⟩
    refine ⟨M, ?_, h1, fun q hq => h2 q (by omega)⟩
    show f_X6_takesBack_b2 _ M (nI c) = _
    unfold f_X6_takesBack_b2
    simp (disch := omega) only [n_lit]
    rw [if_pos (by omega)]
  | succ j ih =>
    intro c f M hc hf h1 h2
    obtain ⟨f', rfl⟩ : ∃ f', f = f' + 1 := ⟨f - 1, by omega⟩
    show ∃ M', f_X6_takesBack_b2 _ M (nI c) = _ ∧ _
    unfold f_X6_takesBack_b2
    simp (disch := omega) only [lt_e, n_lit, n_chk, gd_t, nI_clamp]
    rw [if_neg (by omega)]
    refine ih (c + 1) f' _ (by omega) (by omega) (h1.put _ _) (fun q hq => ?_)
    rw [up2_ap]
    by_cases e : q = c
    · rw [if_pos ⟨rfl, e⟩, h1 3 (by omega), e]
    · rw [if_neg (fun z => e z.2)]
      exact h2 q (by omega)
theorem m_back (M : SL) : ∃ M', f_X6_takesBack M = some M' ∧ K1 M M' ∧ ∀ q, q < 251 → M' 1 q = M 3 q := by
  unfold f_X6_takesBack
  exact m_backL M 251 0 fuel M (by omega) (by unfold fuel; omega) (fun _ _ => rfl) (fun q hq => absurd hq (by omega))
/-- all cells but the saved rows stay -/
def K2 (M M' : SL) : Prop := ∀ k, k ≠ 2 → M' k = M k
theorem m_savL {v : Nat} (hv : v < 4) (M0 : SL) (h3 : M0 0 3 = nI v) : ∀ (j c f : Nat) (M : SL), c + j = 251 → j < f → K2 M0 M → (∀ q, M 2 q = if 251 * v ≤ q ∧ q < 251 * v + c then M0 1 (q - 251 * v) else M0 2 q) → ∃ M', f_X6_saves_h51 f M (nI c) = some M' ∧ (∀ k, k ≠ 2 → k ≠ 0 → M' k = M0 k) ∧ M' 0 = up2 M0 0 3 (nI (v + 1)) 0 ∧ ∀ q, M' 2 q = if 251 * v ≤ q ∧ q < 251 * v + 251 then M0 1 (q - 251 * v) else M0 2 q := by
  intro j
  induction j with
  | zero =>
    intro c f M hc hf h1 h2
    obtain ⟨f', rfl⟩ : ∃ f', f = f' + 1 := ⟨f - 1, by omega⟩
    show ∃ M', f_X6_saves_b51 _ M (nI c) = _ ∧ _
    unfold f_X6_saves_b51
    simp (disch := omega) only [lt_e, n_lit]
    rw [if_pos (by omega), h1 0 (by omega), h3, nI_1]
    refine ⟨_, rfl, fun k hk hk0 => (up2_row hk0).trans (h1 k hk), ?_, fun q => ?_⟩
    · unfold up2
      rw [va_up_self, va_up_self, h1 0 (by omega)]
    · rw [up2_row (by omega), h2, show c = 251 by omega]
  | succ j ih =>
    intro c f M hc hf h1 h2
    obtain ⟨f', rfl⟩ : ∃ f', f = f' + 1 := ⟨f - 1, by omega⟩
    show ∃ M', f_X6_saves_b51 _ M (nI c) = _ ∧ _
    unfold f_X6_saves_b51
    rw [h1 0 (by omega), h3]
    simp (disch := omega) only [lt_e, n_lit, nI_add, n_chk, gd_t, nI_clamp]
    rw [if_neg (by omega)]
    refine ih (c + 1) f' _ (by omega) (by omega) (fun k hk => (up2_row hk).trans (h1 k hk)) (fun q => ?_)
    rw [up2_ap, h2, h1 1 (by omega)]
    by_cases e : q = 251 * v + c
    · rw [if_pos ⟨rfl, e⟩, if_pos (by omega), e, Nat.add_sub_cancel_left]
    · rw [if_neg (fun z => e z.2)]
      by_cases e2 : 251 * v ≤ q ∧ q < 251 * v + c
      · rw [if_pos e2, if_pos (by omega)]
      · rw [if_neg e2, if_neg (by omega)]
theorem m_shfL (M0 : SL) (h3 : M0 0 3 = nI 4) : ∀ (j c f : Nat) (M : SL), c + j = 753 → j < f → K2 M0 M → (∀ q, M 2 q = if q < c then M0 2 (q + 251) else M0 2 q) → ∃ M', f_X6_saves_h10 f M (nI c) = f_X6_saves_b49 M' ∧ (∀ k, k ≠ 2 → k ≠ 0 → M' k = M0 k) ∧ M' 0 = up2 M0 0 3 (nI 3) 0 ∧ ∀ q, M' 2 q = if q < 753 then M0 2 (q + 251) else M0 2 q := by
  intro j
  induction j with
  | zero =>
    intro c f M hc hf h1 h2
    obtain ⟨f', rfl⟩ : ∃ f', f = f' + 1 := ⟨f - 1, by omega⟩
    refine ⟨up2 M 0 3 (nI 3), ?_, fun k hk hk0 => (up2_row hk0).trans (h1 k hk), ?_, fun q => ?_⟩
    · show f_X6_saves_b10 _ M (nI c) = _
      unfold f_X6_saves_b10
      simp (disch := omega) only [lt_n, n_lit]
      rw [if_pos (by omega), h1 0 (by omega), h3, nI_m1]
    · unfold up2
      rw [va_up_self, va_up_self, h1 0 (by omega)]
    · rw [up2_row (by omega), h2, show c = 753 by omega]
  | succ j ih =>
    intro c f M hc hf h1 h2
    obtain ⟨f', rfl⟩ : ∃ f', f = f' + 1 := ⟨f - 1, by omega⟩
    show ∃ M', f_X6_saves_b10 _ M (nI c) = _ ∧ _
    unfold f_X6_saves_b10
    simp (disch := omega) only [lt_n, n_lit, n_chk, gd_n, nI_clamp]
    rw [if_neg (by omega)]
    refine ih (c + 1) f' _ (by omega) (by omega) (fun k hk => (up2_row hk).trans (h1 k hk)) (fun q => ?_)
    rw [up2_ap, h2, h2]
    by_cases e : q = c
    · rw [if_pos ⟨rfl, e⟩, if_neg (by omega), if_pos (by omega), e]
    · rw [if_neg (fun z => e z.2)]
      by_cases e2 : q < c
      · rw [if_pos e2, if_pos (by omega)]
      · rw [if_neg e2, if_neg (by omega)]
theorem m_saves {v : Nat} (hv : v ≤ 4) {M : SL} (h3 : M 0 3 = nI v) : ∃ M', f_X6_saves M = some M' ∧ (∀ k, k ≠ 2 → k ≠ 0 → M' k = M k) ∧ (∀ q, q ≠ 3 → M' 0 q = M 0 q) ∧ M' 0 3 = nI (min (v + 1) 4) ∧ (∀ c, c < 251 → M' 2 (251 * min v 3 + c) = M 1 c) ∧ ∀ j c, j < min v 3 → c < 251 → M' 2 (251 * j + c) = M 2 (251 * (if v = 4 then j + 1 else j) + c) := by
  unfold f_X6_saves
  rw [lt_e, h3]
  have up0 : ∀ (A : SL) (x : Int32) (q : Nat), q ≠ 3 → up2 A 0 3 x 0 q = A 0 q := fun A x q hq => up2_q (fun z => hq z.2)
  by_cases e : v = 4
  · subst e
    rw [if_neg (fun z => z rfl)]
    obtain ⟨M1, e1, a1, b1, c1⟩ := m_shfL M h3 753 0 fuel M (by omega) (by unfold fuel; omega) (fun _ _ => rfl) (fun q => by rw [if_neg (by omega)])
    obtain ⟨M2, e2, a2, b2, c2⟩ := m_savL (v := 3) (by omega) M1 (by rw [b1, up2_s]) 251 0 fuel M1 (by omega) (by unfold fuel; omega) (fun _ _ => rfl) (fun q => by rw [if_neg (by omega)])
    refine ⟨M2, e1.trans e2, fun k h2 h0 => (a2 k h2 h0).trans (a1 k h2 h0), fun q hq => ?_, ?_, fun c hc => ?_, fun j c hj hc => ?_⟩
    · rw [b2, up0 _ _ _ hq, b1, up0 _ _ _ hq]
    · rw [b2, up2_s, show min (4 + 1) 4 = 3 + 1 by omega]
    · rw [c2, if_pos (by omega), a1 1 (by omega) (by omega), show 251 * min 4 3 + c - 251 * 3 = c by omega]
    · rw [c2, if_neg (by omega), c1, if_pos (by omega), if_pos rfl, show 251 * (j + 1) + c = 251 * j + c + 251 by omega]
  · rw [if_pos (show ¬ nI v = 4 from fun z => e ((nI_eq (a := v) (b := 4) (by omega) (by omega)).mp z))]
    unfold f_X6_saves_b49
    obtain ⟨M2, e2, a2, b2, c2⟩ := m_savL (v := v) (by omega) M h3 251 0 fuel M (by omega) (by unfold fuel; omega) (fun _ _ => rfl) (fun q => by rw [if_neg (by omega)])
    refine ⟨M2, e2, a2, fun q hq => ?_, ?_, fun c hc => ?_, fun j c hj hc => ?_⟩
    · rw [b2, up0 _ _ _ hq]
    · rw [b2, up2_s, show min (v + 1) 4 = v + 1 by omega]
    · rw [c2, if_pos (by omega), show 251 * min v 3 + c - 251 * v = c by omega]
    · rw [c2, if_neg (by omega), if_neg e]
theorem m_undL {v : Nat} (hv : v < 4) (M0 : SL) (h3 : M0 0 3 = nI v) : ∀ (j c f : Nat) (M : SL), c + j = 251 → j < f → K1 M0 M → (∀ q, q < c → M 1 q = M0 2 (251 * v + q)) → ∃ M', f_X6_undo_h33 f M (nI c) = some (nI v, M') ∧ K1 M0 M' ∧ ∀ q, q < 251 → M' 1 q = M0 2 (251 * v + q) := by
  intro j
  induction j with
  | zero =>
    intro c f M hc hf h1 h2
    obtain ⟨f', rfl⟩ : ∃ f', f = f' + 1 := ⟨f - 1, by omega⟩
    refine ⟨M, ?_, h1, fun q hq => h2 q (by omega)⟩
    show f_X6_undo_b33 _ M (nI c) = _
    unfold f_X6_undo_b33
    simp (disch := omega) only [lt_e, n_lit]
    rw [if_pos (by omega), h1 0 (by omega), h3]
  | succ j ih =>
    intro c f M hc hf h1 h2
    obtain ⟨f', rfl⟩ : ∃ f', f = f' + 1 := ⟨f - 1, by omega⟩
    show ∃ M', f_X6_undo_b33 _ M (nI c) = _ ∧ _
    unfold f_X6_undo_b33
    rw [h1 0 (by omega), h3]
    simp (disch := omega) only [lt_e, n_lit, nI_add, n_chk, gd_t, nI_clamp]
    rw [if_neg (by omega)]
    refine ih (c + 1) f' _ (by omega) (by omega) (h1.put _ _) (fun q hq => ?_)
    rw [up2_ap]
    by_cases e : q = c
    · rw [if_pos ⟨rfl, e⟩, h1 2 (by omega), e]
    · rw [if_neg (fun z => e z.2)]
      exact h2 q (by omega)
theorem m_ref (M : SL) (x : Int32) : f_X6_refused M x = some (if x ≤ 0 then 0 else 1, up2 M 0 4 x) := by
  unfold f_X6_refused
  rw [lt_e]
  by_cases h : x ≤ 0
  · rw [if_pos h, if_pos h]
  · rw [if_neg h, if_neg h]
theorem m_undo {v : Nat} (hv : v ≤ 4) {M : SL} (h3 : M 0 3 = nI v) : (v = 0 ∧ f_X6_undo M = some (0, up2 M 0 4 1)) ∨ (0 < v ∧ ∃ M', f_X6_undo M = some (nI (v - 1), M') ∧ (∀ k, k ≠ 1 → k ≠ 0 → M' k = M k) ∧ M' 0 = up2 (up2 M 0 4 0) 0 3 (nI (v - 1)) 0 ∧ ∀ q, q < 251 → M' 1 q = M 2 (251 * (v - 1) + q)) := by
  unfold f_X6_undo f_X6_undo_b13
  have hF : 251 < fuel := by unfold fuel; omega
  generalize fuel = F at hF ⊢
  rw [lt_n, h3, m_ref, m_ref, bd2_s, bd2_s]
  by_cases e : v = 0
  · subst e
    refine Or.inl ⟨rfl, ?_⟩
    rw [if_neg (fun z => z rfl), if_neg (by decide)]
  · refine Or.inr ⟨by omega, ?_⟩
    rw [if_pos (show ¬ nI v = 0 from fun z => e ((nI_eq (a := v) (b := 0) (by omega) (by omega)).mp z)), if_pos (show (if (0 : Int32) ≤ 0 then (0 : Int32) else 1) = 0 by decide)]
    simp only [lt_n]
    rw [show up2 M 0 4 0 0 3 = M 0 3 from up2_q (by omega), h3, show nI v - 1 = nI (v - 1) from pk_sub (b := 1) (by omega)]
    obtain ⟨M', e1, k1, d1⟩ := m_undL (v := v - 1) (by omega) (up2 (up2 M 0 4 0) 0 3 (nI (v - 1))) (up2_s _ _ _ _) 251 0 F _ (by omega) hF K1.rf (fun q hq => absurd hq (by omega))
    refine ⟨M', e1, fun k h1 h0 => (k1 k h1).trans ((up2_row h0).trans (up2_row h0)), k1 0 (by omega), fun q hq => ?_⟩
    rw [d1 q hq, up2_row (by omega), up2_row (by omega)]
