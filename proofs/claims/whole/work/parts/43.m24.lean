/-! THE MEANING, 24: the text -/
theorem p_item {n len a : Nat} {T M L R S : SL} (K : SL → Int32 → Option (Int32 × SL)) (ha : a < len) (h : JT T M len a) (hC : CL n 0 0 L R S) (hM : ML n 0 0 M R S) (hW : WF ((n, 0, 0), R, S)) : ∃ L' T' M' is, f_X3_readItem L T = some (L', T') ∧ f_X6_parse_b38 K M 1 = K M' is ∧ KT T T' ∧ KN M M' ∧
    ((is = 0 ∧ ∃ s, s ≤ len ∧ M' 0 9 = nI s ∧ T' 0 3 = nI s) ∨
     (is = 1 ∧ ∃ a', a < a' ∧ JT T' M' len a' ∧ ∃ n' R', CL n' 0 0 L' R' S ∧ ML n' 0 0 M' R' S ∧ WF ((n', 0, 0), R', S))) := by
  have hn : n ≤ 8 := hW.1
  have hl := h.1
  have h1 := h.2.2.1
  have h6 := h.2.2.2.1
  have hb := h.2.2.2.2.1
  have h2 := h.2.2.2.2.2.1
  have h3 := h.2.2.2.2.2.2.1
  have h9 := h.2.2.2.2.2.2.2
  have eb : btS M len a = M 4 a := if_pos ha
  have eC : f_X3_readItem L T = (if ¬ M 4 a = 109 then f_X3_readItem_b42 L T (M 4 a) else if (8 : Int32) ≤ nI n then f_X3_readItem_b42 L T (M 4 a) else bd2 (f_X3_readMachine L (up2 T 0 2 (nI (a + 1)))) (fun L10 T11 => some (L10, T11))) := by
    unfold f_X3_readItem
    simp only [lt_n]
    rw [h2, c_byt hl (by omega) h1 hb, bd_n, eb, hC.1, nI_1]
  have eB : f_X3_readItem_b42 L T (M 4 a) = if ¬ M 4 a = 104 then some (L, up2 T 0 3 (nI a)) else bd2 (f_X3_readMarks L (up2 T 0 2 (nI (a + 1)))) (fun L7 T8 => some (L7, T8)) := by
    unfold f_X3_readItem_b42
    simp only [lt_n]
    rw [h2, nI_1]
  have eM : f_X6_parse_b38 K M 1 = if ¬ M 4 a = 109 then (if ¬ M 4 a = 104 then K M 0 else bd2 (f_X6_readsMarks M) (fun r13 M14 => if r13 = 0 then K M14 0 else K M14 1)) else bd2 (f_X6_readsMachine M) (fun r17 M18 => K M18 r17) := by
    unfold f_X6_parse_b38 f_X6_parse_b99 f_X6_parse_b100
    simp only [lt_n]
    rw [if_neg n10, h9, h6, if_neg (nI_ge ha (by omega)), n_chk (by omega) (by omega), gd_n, gd_n, nI_clamp (by omega)]
  rw [eC, eB, eM]
  by_cases g : M 4 a = 109
  · rw [if_neg (show ¬ ¬ M 4 a = 109 from fun z => z g), if_neg (show ¬ ¬ M 4 a = 109 from fun z => z g)]
    by_cases g8 : n < 8
    · rw [if_neg (show ¬ (8 : Int32) ≤ nI n from nI_ge (a := n) (b := 8) (by omega) (by omega))]
      obtain ⟨L', T', M', e1, kT, kN, q⟩ := p_mac g8 ha h hC hM hW
      rw [e1, bd2_n]
      rcases q with ⟨e2, s, hs, m9, t3⟩ | ⟨e2, a', ha', j, R', d1, d2, d3⟩
      · rw [e2, bd2_n]
        exact ⟨L', T', M', 0, rfl, rfl, kT, kN, Or.inl ⟨rfl, s, hs, m9, t3⟩⟩
      · rw [e2, bd2_n]
        exact ⟨L', T', M', 1, rfl, rfl, kT, kN, Or.inr ⟨rfl, a', ha', j, n + 1, R', d1, d2, d3⟩⟩
    · have e8 : nI n = 8 := by rw [show n = 8 by omega]; rfl
      rw [if_pos (show (8 : Int32) ≤ nI n by rw [e8]; decide), if_pos (show ¬ M 4 a = 104 by rw [g]; decide)]
      have e2 : f_X6_readsMachine M = some (0, M) := by
        unfold f_X6_readsMachine
        rw [lt_n, hM.1, if_neg (show ¬ ¬ nI n = 8 from fun z => z e8)]
      rw [e2, bd2_n]
      exact ⟨L, _, M, 0, rfl, rfl, KT.rf.put (by omega), KN.rf, Or.inl ⟨rfl, a, by omega, h9, up2_s _ _ _ _⟩⟩
  · rw [if_pos g, if_pos g]
    by_cases g2 : M 4 a = 104
    · rw [if_neg (show ¬ ¬ M 4 a = 104 from fun z => z g2), if_neg (show ¬ ¬ M 4 a = 104 from fun z => z g2)]
      obtain ⟨L', T', M', e1, kT, kN, q⟩ := p_mar ha h hC hM hW
      rw [e1, bd2_n]
      rcases q with ⟨e2, s, hs, m9, t3⟩ | ⟨e2, a', ha', j, R', d1, d2, d3⟩
      · rw [e2, bd2_n, if_pos rfl]
        exact ⟨L', T', M', 0, rfl, rfl, kT, kN, Or.inl ⟨rfl, s, hs, m9, t3⟩⟩
      · rw [e2, bd2_n, if_neg n10]
        exact ⟨L', T', M', 1, rfl, rfl, kT, kN, Or.inr ⟨rfl, a', ha', j, n, R', d1, d2, d3⟩⟩
    · rw [if_pos g2, if_pos g2]
      exact ⟨L, _, M, 0, rfl, rfl, KT.rf.put (by omega), KN.rf, Or.inl ⟨rfl, a, by omega, h9, up2_s _ _ _ _⟩⟩
theorem p_loop {len : Nat} {S : SL} : ∀ (j a it f g n : Nat) (L T M R : SL), len - a < j → j ≤ f → j + 1 ≤ g → it ≤ a → JT T M len a → CL n 0 0 L R S → ML n 0 0 M R S → WF ((n, 0, 0), R, S) →
    ∃ (er is : Int32) (L' T' M' : SL), f_X3_readInto_h16 f L T (nI it) = some (er, L', T') ∧ f_X6_parse_h38 g M 1 = f_X6_parse_b104 M' is ∧ KT T T' ∧ KN M M' ∧ ((is = 1 ∧ er = -1 ∧ ∃ n' R', CL n' 0 0 L' R' S ∧ ML n' 0 0 M' R' S ∧ WF ((n', 0, 0), R', S)) ∨ (is = 0 ∧ ∃ s, s ≤ len ∧ er = nI s ∧ M' 0 9 = nI s)) := by
  intro j
  induction j with
  | zero =>
    intro a it f g n L T M R hj
    exact absurd hj (by omega)
  | succ j ih =>
    intro a it f g n L T M R hj hf hg hit h hC hM hW
    obtain ⟨f', rfl⟩ : ∃ f', f = f' + 1 := ⟨f - 1, by omega⟩
    obtain ⟨g', rfl⟩ : ∃ g', g = g' + 1 := ⟨g - 1, by omega⟩
    have h' := h
    obtain ⟨hl, hal, h1, h6, hb, h2, h3, h9⟩ := h
    show ∃ er is L' T' M', f_X3_readInto_b16 (f_X3_readInto_h16 f') L T (nI it) = _ ∧ f_X6_parse_b38 (f_X6_parse_h38 g') M 1 = _ ∧ _
    by_cases ha : a < len
    · obtain ⟨L1, T1, M1, is, e1, e2, kT, kN, q⟩ := p_item (f_X6_parse_h38 g') ha h' hC hM hW
      have eC : f_X3_readInto_b16 (f_X3_readInto_h16 f') L T (nI it) = f_X3_readInto_h16 f' L1 T1 (nI (it + 1)) := by
        unfold f_X3_readInto_b16
        rw [if_neg (show ¬ (120 : Int32) ≤ nI it from nI_ge (a := it) (b := 120) (by omega) (by omega)), lt_n, lt_n, h2, h1, if_neg (nI_ge ha (by omega)), lt_n, h3, if_neg (show ¬ ¬ (-1 : Int32) = -1 from fun z => z rfl), e1, bd2_n, lt_n, nI_1]
      rw [eC, e2]
      rcases q with ⟨rfl, s, hs, m9, t3⟩ | ⟨rfl, a', ha', jt, n', R', d1, d2, d3⟩
      · obtain ⟨f2, rfl⟩ : ∃ f2, f' = f2 + 1 := ⟨f' - 1, by omega⟩
        obtain ⟨g2, rfl⟩ : ∃ g2, g' = g2 + 1 := ⟨g' - 1, by omega⟩
        refine ⟨nI s, 0, L1, T1, M1, ?_, ?_, kT, kN, Or.inr ⟨rfl, s, hs, rfl, m9⟩⟩
        · show f_X3_readInto_b16 (f_X3_readInto_h16 f2) L1 T1 (nI (it + 1)) = _
          unfold f_X3_readInto_b16
          simp only [lt_n]
          rw [t3, if_pos (nI_m (show s < 2147483648 by omega))]
          by_cases q1 : (120 : Int32) ≤ nI (it + 1)
          · rw [if_pos q1]
          · rw [if_neg q1]
            by_cases q2 : T1 0 1 ≤ T1 0 2
            · rw [if_pos q2]
            · rw [if_neg q2]
        · show f_X6_parse_b38 (f_X6_parse_h38 g2) M1 0 = _
          unfold f_X6_parse_b38
          rw [if_pos rfl]
      · obtain ⟨er, is2, L2, T2, M2, c1, c2, kT2, kN2, q2⟩ := ih a' (it + 1) f' g' n' L1 T1 M1 R' (by omega) (by omega) (by omega) (by omega) jt d1 d2 d3
        exact ⟨er, is2, L2, T2, M2, c1, c2, kT.tr kT2, kN.tr kN2, q2⟩
    · refine ⟨-1, 1, L, T, M, ?_, ?_, KT.rf, KN.rf, Or.inl ⟨rfl, rfl, n, R, hC, hM, hW⟩⟩
      · unfold f_X3_readInto_b16
        simp only [lt_n]
        rw [h3, h2, h1, if_pos (nI_le (show len ≤ a by omega) (by omega))]
        by_cases q1 : (120 : Int32) ≤ nI it
        · rw [if_pos q1]
        · rw [if_neg q1]
      · unfold f_X6_parse_b38
        rw [if_neg n10, lt_n, lt_n, h9, h6, if_pos (nI_le (show len ≤ a by omega) (by omega))]
theorem m_zeroL (M0 : SL) : ∀ (j c f : Nat) (M : SL), c + j = 251 → j < f → K1 M0 M → (∀ q, q < c → M 1 q = 0) → ∃ M', f_X6_parse_h11 f M (nI c) = f_X6_parse_h38 fuel (up2 M' 0 9 0) 1 ∧ K1 M0 M' ∧ ∀ q, q < 251 → M' 1 q = 0 := by
  intro j
  induction j with
  | zero =>
    intro c f M hc hf h1 h2
    obtain ⟨f', rfl⟩ : ∃ f', f = f' + 1 := ⟨f - 1, by omega⟩
    refine ⟨M, ?_, h1, fun q hq => h2 q (by omega)⟩
    show f_X6_parse_b11 _ M (nI c) = _
    unfold f_X6_parse_b11
    rw [if_pos (show (251 : Int32) ≤ nI c from nI_le (a := 251) (b := c) (by omega) (by omega)), lt_n]
  | succ j ih =>
    intro c f M hc hf h1 h2
    obtain ⟨f', rfl⟩ : ∃ f', f = f' + 1 := ⟨f - 1, by omega⟩
    obtain ⟨M', e, k, z⟩ := ih (c + 1) f' (up2 M 1 c 0) (by omega) (by omega) (h1.put _ _) (fun q hq => by
      rw [up2_ap]
      by_cases e : q = c
      · rw [if_pos ⟨rfl, e⟩]
      · rw [if_neg (fun z => e z.2)]
        exact h2 q (by omega))
    refine ⟨M', ?_, k, z⟩
    show f_X6_parse_b11 _ M (nI c) = _
    unfold f_X6_parse_b11
    rw [if_neg (show ¬ (251 : Int32) ≤ nI c from nI_ge (a := c) (b := 251) (by omega) (by omega)), n_chk (by omega) (by omega), gd_n, nI_clamp (by omega), lt_n, lt_n, nI_1]
    exact e
/-- the exchange, and what follows it -/
def parE (is : Int32) (M : SL) : Option (Int32 × SL) := if ¬ is = 0 then bd (f_X6_saves M) (fun M3 => bd (f_X6_takesBack M3) (fun M5 => some (M5 1 0, M5))) else some (-10 - M 0 9, M)
theorem m_exL (M0 : SL) (is : Int32) : ∀ (j c f : Nat) (M : SL), c + j = 251 → j < f → (∀ k, k ≠ 1 → k ≠ 3 → M k = M0 k) → (∀ q, q < c → M 1 q = M0 3 q ∧ M 3 q = M0 1 q) → (∀ q, c ≤ q → M 1 q = M0 1 q ∧ M 3 q = M0 3 q) → ∃ M', f_X6_parse_h106 f M is (nI c) = parE is M' ∧ (∀ k, k ≠ 1 → k ≠ 3 → M' k = M0 k) ∧ ∀ q, q < 251 → M' 1 q = M0 3 q ∧ M' 3 q = M0 1 q := by
  intro j
  induction j with
  | zero =>
    intro c f M hc hf h1 h2 h3
    obtain ⟨f', rfl⟩ : ∃ f', f = f' + 1 := ⟨f - 1, by omega⟩
    refine ⟨M, ?_, h1, fun q hq => h2 q (by omega)⟩
    show f_X6_parse_b106 _ M is (nI c) = _
    unfold f_X6_parse_b106 parE
    simp only [lt_n]
    rw [if_pos (show (251 : Int32) ≤ nI c from nI_le (a := 251) (b := c) (by omega) (by omega))]
  | succ j ih =>
    intro c f M hc hf h1 h2 h3
    obtain ⟨f', rfl⟩ : ∃ f', f = f' + 1 := ⟨f - 1, by omega⟩
    have hc3 := h3 c (Nat.le_refl c)
    obtain ⟨M', e, k, z⟩ := ih (c + 1) f' (up2 (up2 M 1 c (M 3 c)) 3 c (M 1 c)) (by omega) (by omega) (fun k a b => by rw [up2_row b, up2_row a]; exact h1 k a b) (fun q hq => by
      rw [up2_ap, up2_ap, up2_ap, up2_ap]
      by_cases e : q = c
      · rw [if_neg (by omega), if_pos ⟨rfl, e⟩, if_pos ⟨rfl, e⟩, hc3.1, hc3.2, e]
        exact ⟨rfl, rfl⟩
      · rw [if_neg (by omega), if_neg (by omega), if_neg (by omega), if_neg (by omega)]
        exact h2 q (by omega)) (fun q hq => by
      rw [up2_q (by omega), up2_q (by omega), up2_q (by omega), up2_q (by omega)]
      exact h3 q (by omega))
    refine ⟨M', ?_, k, z⟩
    show f_X6_parse_b106 _ M is (nI c) = _
    unfold f_X6_parse_b106
    simp only [lt_n]
    rw [if_neg (show ¬ (251 : Int32) ≤ nI c from nI_ge (a := c) (b := 251) (by omega) (by omega)), n_chk (by omega) (by omega), gd_n, nI_clamp (by omega), nI_1]
    exact e
theorem bd3_n {α β γ δ : Type} (a : α) (b : β) (c : γ) (f : α → β → γ → Option δ) : bd3 (some (a, b, c)) f = f a b c := id rfl
theorem AF.txt {Ls : Nat → SL} {Hs T T' M : SL} (h : AF Ls Hs T M) (k : KT T T') : AF Ls Hs T' M := by
  obtain ⟨B, v, w, len, hv, hw, hl, hH, b1, b2, b3⟩ := h
  exact ⟨B, v, w, len, hv, hw, hl, hH, k.1.trans b1, b2, fun i hi => by rw [k.2]; exact b3 i hi⟩
theorem up2_self (M : SL) (k j : Nat) : up2 M k j (M k j) = M := by
  funext a b
  rw [up2_ap]
  by_cases e : a = k ∧ b = j
  · rw [if_pos e, e.1, e.2]
  · rw [if_neg e]
theorem s_parse {Ls : Nat → SL} {Hs T M : SL} (h : SS Ls Hs T M) : ∃ (b : Int32) (Ls' : Nat → SL) (Hs' T' M' : SL), f_X6_parse M = some (b, M') ∧ f_X5_parse Ls Hs T = some (b, Ls', Hs', T') ∧ SS Ls' Hs' T' M' := by
  obtain ⟨⟨⟨n, t, p⟩, R, S⟩, hA, cA, mA, hF⟩ := h
  have hn : n ≤ 8 := hA.1
  have hp : p ≤ 40 := hA.2.2.1
  have hFu : 260 < fuel := by unfold fuel; omega
  obtain ⟨M2, e1, k3, d3⟩ := m_keeps (up2 M 0 4 0)
  obtain ⟨M3, e2, k1, d1⟩ := m_zeroL M2 251 0 fuel M2 (by omega) (by omega) (fun _ _ => rfl) (fun q hq => absurd hq (by omega))
  have hF' := hF
  obtain ⟨B, v, w, len, hv, hw, hl, hH, b1, b2, b3⟩ := hF'
  obtain ⟨L3, e3, c3⟩ := c_apart (Ls 1) R S
  have r0 : ∀ q, q ≠ 4 → q ≠ 9 → up2 M3 0 9 0 0 q = M 0 q := fun q h1 h2 => by
    rw [up2_q (by omega), k1 0 (by omega), k3 0 (by omega), up2_q (by omega)]
  have rk : ∀ k, k ≠ 0 → k ≠ 1 → k ≠ 3 → up2 M3 0 9 0 k = M k := fun k h0 h1 h3 => by
    rw [up2_row h0, k1 k h1, k3 k h3, up2_row h0]
  have jt : JT (up2 (up2 T 0 2 0) 0 3 (-1)) (up2 M3 0 9 0) len 0 :=
    ⟨hl, Nat.zero_le _, by rw [up2_q (by omega), up2_q (by omega)]; exact b1, by rw [r0 6 (by omega) (by omega)]; exact b2, fun i hi => by rw [up2_row (by omega), up2_row (by omega), rk 4 (by omega) (by omega) (by omega)]; exact b3 i hi, by rw [up2_q (by omega), up2_s]; rfl, up2_s _ _ _ _, up2_s _ _ _ _⟩
  have z1 : ∀ q, q < 251 → up2 M3 0 9 0 1 q = 0 := fun q hq => by rw [up2_row (by omega)]; exact d1 q hq
  have mz : ML 0 0 0 (up2 M3 0 9 0) R S := ⟨z1 0 (by omega), z1 1 (by omega), z1 2 (by omega), fun m c hm _ => absurd hm (by omega), fun k w hk _ => absurd hk (by omega)⟩
  have wz : WF ((0, 0, 0), R, S) := ⟨by show 0 ≤ 8; omega, by show 0 ≤ 10000; omega, by show 0 ≤ 40; omega, fun m hm => absurd hm (Nat.not_lt_zero m), fun m hm => absurd hm (Nat.not_lt_zero m), fun m hm => absurd hm (Nat.not_lt_zero m), fun m hm => absurd hm (Nat.not_lt_zero m)⟩
  obtain ⟨er, is, L5, T5, M5, e4, e5, kT, kN, q⟩ := p_loop (S := S) (len + 1) 0 0 fuel fuel 0 L3 (up2 (up2 T 0 2 0) 0 3 (-1)) (up2 M3 0 9 0) R (by omega) (by omega) (by omega) (Nat.le_refl 0) jt c3 mz wz
  obtain ⟨M6, e6, kx, dx⟩ := m_exL M5 is 251 0 fuel M5 (by omega) (by omega) (fun _ _ _ => rfl) (fun q hq => absurd hq (by omega)) (fun _ _ => ⟨rfl, rfl⟩)
  have eM : f_X6_parse M = parE is M6 := by
    unfold f_X6_parse
    rw [lt_n, e1, bd_n]
    refine e2.trans (e5.trans ?_)
    unfold f_X6_parse_b104
    exact e6
  have eC : f_X3_readInto (Ls 1) T = some (er, L5, T5) := by
    unfold f_X3_readInto
    rw [lt_n, lt_n, e3, bd_n]
    exact e4
  have kT5 : KT T T5 := ((KT.rf.put (q := 2) (by omega)).put (by omega)).tr kT
  have m6k : ∀ k, k ≠ 0 → k ≠ 1 → k ≠ 3 → M6 k = M k := fun k h0 h1 h3 => by rw [kx k h1 h3, kN.1 k h0 h1, rk k h0 h1 h3]
  have m60 : ∀ q, q ≠ 4 → q ≠ 9 → q ≠ 10 → M6 0 q = M 0 q := fun q h4 h9 h10 => by rw [kx 0 (by omega) (by omega), kN.2 q h9 h10, r0 q h4 h9]
  have m64 : M6 0 4 = 0 := by rw [kx 0 (by omega) (by omega), kN.2 4 (by omega) (by omega), up2_q (by omega), k1 0 (by omega), k3 0 (by omega), up2_s]
  have m61 : ∀ q, q < 251 → M6 1 q = M 1 q := fun q hq => by rw [(dx q hq).1, kN.1 3 (by omega) (by omega), up2_row (by omega), k1 3 (by omega), d3 q hq, up2_row (by omega)]
  have cA5 : CA (va_up Ls 1 L5 0) ((n, t, p), R, S) := by rw [va_up_ne _ _ (by omega)]; exact cA
  have mA6 : MA (M6 1) ((n, t, p), R, S) := MB.congr hn hp mA m61
  have hF5 : AF (va_up Ls 1 L5) Hs T5 M6 := ((hF.cls (fun q hq => va_up_ne _ _ (by omega))).mod (m6k 2 (by omega) (by omega) (by omega)) (m6k 4 (by omega) (by omega) (by omega)) (m60 3 (by omega) (by omega) (by omega)) (m60 6 (by omega) (by omega) (by omega))).txt kT5
  unfold f_X5_parse
  rw [eC, bd3_n, lt_n]
  rcases q with ⟨rfl, rfl, n', R', d5, d6, d7⟩ | ⟨rfl, s, hs, rfl, m9⟩
  · rw [if_pos rfl]
    obtain ⟨Ls', Hs', M7, f1, f2, g1, g2, g3, g4, g5, g6⟩ := kept hA cA5 mA6 hF5 0
    rw [← m64, up2_self] at f2
    obtain ⟨M8, f3, h1, h8⟩ := m_back M7
    have hC7 : CL n' 0 0 (Ls' 1) R' S := by rw [g5, va_up_self]; exact d5
    obtain ⟨Ls8, f4, i1, i2⟩ := c_copy (i := 1) (j := 0) (by omega) d7.1 (by omega) hC7
    have hM8 : MB n' 0 0 (M8 1) R' S := by
      have q0 : MB n' 0 0 (M5 1) R' S := d6
      exact MB.congr d7.1 (by omega) q0 (fun c hc => by rw [h8 c hc, g6 3 (by omega) (by omega), (dx c hc).2])
    refine ⟨nI n', Ls8, Hs', T5, M8, ?_, ?_, ((n', 0, 0), R', S), d7, i1, hM8, (g4.cls (fun q hq => i2 q (by omega))).k1 h1⟩
    · rw [eM]
      unfold parE
      rw [if_pos n10, f2, bd_n, f3, bd_n, hM8.1]
    · rw [f1, bd2_n, f4, bd_n, lt_n, i1.1]
  · rw [if_neg (nI_m (by omega))]
    refine ⟨-10 - nI s, va_up Ls 1 L5, Hs, T5, M6, ?_, rfl, ((n, t, p), R, S), hA, cA5, mA6, hF5⟩
    rw [eM]
    unfold parE
    rw [if_neg n00, kx 0 (by omega) (by omega), m9]
