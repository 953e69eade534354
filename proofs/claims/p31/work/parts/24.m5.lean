/-! THE MEANING, 5: the class's line, its other methods -/
def emv (c : Nat) : Int32 := if c = 6 then -1 else if c = 7 then 1 else 0
def empS (R : SL) (m : Nat) : SL := fun k q => if k = m ∧ 5 ≤ q ∧ q < 16 then emv q else R k q
def allS (n : Nat) (R : SL) : SL := fun k q => if k < n ∧ 5 ≤ q ∧ q < 16 then emv q else R k q
def joinS (R : SL) (n : Nat) (a b c : Int32) : SL := empS (up2 (up2 (up2 (up2 (up2 R n 0 a) n 1 b) n 2 0) n 3 40) n 4 c) n
def plaS (S : SL) (p : Nat) (a b c : Int32) : SL := up2 (up2 (up2 S p 0 a) p 1 b) p 2 c
def insS (R : SL) : Nat → Int32
  | 0 => 0
  | k + 1 => insS R k + (R k 5 + if R k 6 = -1 then 0 else 1)
def idl (R : SL) (m : Nat) : Int32 := R m 10 + R m 11
def limS (R : SL) : Nat → Nat
  | 0 => 0
  | k + 1 => if idl R (limS R k) ≤ idl R (k + 1) then limS R k else k + 1
/-- the stops that have begun at t: how many of the first k, and they -/
def drpS (S : SL) (t : Nat) : Nat → Nat × SL
  | 0 => (0, S)
  | k + 1 => if S k 1 ≤ nI t then ((drpS S t k).1 + 1, plaS (drpS S t k).2 (drpS S t k).1 (S k 0) (S k 1) (S k 2)) else drpS S t k
theorem drp_le (S : SL) (t : Nat) : ∀ k, (drpS S t k).1 ≤ k
  | 0 => Nat.le_refl 0
  | k + 1 => by
    have := drp_le S t k
    show (if _ then _ else _ : Nat × SL).1 ≤ k + 1
    split
    · show (drpS S t k).1 + 1 ≤ k + 1
      omega
    · omega
theorem c_empL (L0 : SL) (k0 : Nat) : ∀ (j c f : Nat) (L : SL), c + j = 16 → j < f → 5 ≤ c → (∀ k q, L k q = if k = k0 ∧ 5 ≤ q ∧ q < c then 0 else L0 k q) → f_X2_empty_h2 f L k0 (nI c) = some (empS L0 k0) := by
  intro j
  induction j with
  | zero =>
    intro c f L hc hf h5 hL
    obtain ⟨f', rfl⟩ : ∃ f', f = f' + 1 := ⟨f - 1, by omega⟩
    show f_X2_empty_b2 _ L k0 (nI c) = _
    unfold f_X2_empty_b2
    simp (disch := omega) only [lt_e, n_lit]
    rw [if_pos (by omega)]
    congr 1
    funext k q
    rw [up2_ap, up2_ap, hL]
    unfold empS emv
    grind
  | succ j ih =>
    intro c f L hc hf h5 hL
    obtain ⟨f', rfl⟩ : ∃ f', f = f' + 1 := ⟨f - 1, by omega⟩
    show f_X2_empty_b2 _ L k0 (nI c) = _
    unfold f_X2_empty_b2
    simp (disch := omega) only [lt_e, n_lit, n_chk, gd_t, nI_clamp]
    rw [if_neg (by omega)]
    exact ih (c + 1) f' _ (by omega) (by omega) (by omega) (fun k q => by rw [up2_ap, hL]; grind)
theorem c_empty (L : SL) (k0 : Nat) : f_X2_empty k0 L = some (empS L k0) := by
  unfold f_X2_empty
  exact c_empL L k0 11 5 fuel L (by omega) (by unfold fuel; omega) (by omega) (fun k q => by rw [if_neg (by omega)])
theorem c_newL {n : Nat} (L0 : SL) (hn : n ≤ 8) (h2 : L0 0 2 = nI n) : ∀ (j m f : Nat) (L : SL), m + j = n → j < f → (∀ k q, L k q = if 2 ≤ k ∧ k < 2 + m ∧ 5 ≤ q ∧ q < 16 then emv q else L0 k q) → f_X2_beginAnew_h7 f L (nI m) = some (fun k q => if 2 ≤ k ∧ k < 2 + n ∧ 5 ≤ q ∧ q < 16 then emv q else L0 k q) := by
  intro j
  induction j with
  | zero =>
    intro m f L hm hf hL
    obtain ⟨f', rfl⟩ : ∃ f', f = f' + 1 := ⟨f - 1, by omega⟩
    show f_X2_beginAnew_b7 _ L (nI m) = _
    unfold f_X2_beginAnew_b7
    have e02 : L 0 2 = nI n := by rw [hL 0 2, if_neg (by omega)]; exact h2
    rw [lt_e, e02, if_pos (nI_le (by omega) (by omega))]
    congr 1
    funext k q
    rw [hL, show m = n by omega]
  | succ j ih =>
    intro m f L hm hf hL
    obtain ⟨f', rfl⟩ : ∃ f', f = f' + 1 := ⟨f - 1, by omega⟩
    show f_X2_beginAnew_b7 _ L (nI m) = _
    unfold f_X2_beginAnew_b7
    have e02 : L 0 2 = nI n := by rw [hL 0 2, if_neg (by omega)]; exact h2
    rw [lt_e, e02, if_neg (nI_ge (by omega) (by omega))]
    simp (disch := omega) only [lt_e, n_lit, n_chk, gd_t, nI_clamp, c_empty, bd_s]
    exact ih (m + 1) f' _ (by omega) (by omega) (fun k q => by unfold empS; rw [hL]; grind)
theorem c_new {n t p : Nat} {L R S : SL} (hn : n ≤ 8) (h : CL n t p L R S) : ∃ L', f_X2_beginAnew L = some L' ∧ CL n 0 p L' (allS n R) S := by
  obtain ⟨h2, h3, hp, hR, hS⟩ := h
  unfold f_X2_beginAnew
  rw [lt_e]
  refine ⟨_, c_newL (up2 L 0 3 0) hn (by rw [up2_q (by omega)]; exact h2) n 0 fuel _ (by omega) (by unfold fuel; omega) (fun k q => by rw [if_neg (by omega)]), ?_, ?_, ?_, ?_, ?_⟩
  · dsimp only
    rw [if_neg (by omega), up2_q (by omega)]; exact h2
  · dsimp only
    rw [if_neg (by omega), up2_s]; rfl
  · dsimp only
    rw [if_neg (by omega), up2_q (by omega)]; exact hp
  · intro m c hm hc
    unfold allS
    dsimp only
    by_cases e : 5 ≤ c
    · rw [if_pos (by omega), if_pos (by omega)]
    · rw [if_neg (by omega), if_neg (by omega), up2_q (by omega)]
      exact hR m c hm hc
  · intro k hk
    show (if _ then _ else _) = _ ∧ (if _ then _ else _) = _ ∧ (if _ then _ else _) = _
    rw [if_neg (by omega), if_neg (by omega), if_neg (by omega), up2_q (by omega), up2_q (by omega), up2_q (by omega)]
    exact hS k hk
theorem c_join {n t p : Nat} {L R S : SL} (hn : n < 8) (h : CL n t p L R S) (a b c : Int32) : ∃ L', f_X2_join L a b c = some (nI n, L') ∧ CL (n + 1) t p L' (joinS R n a b c) S := by
  obtain ⟨h2, h3, hp, hR, hS⟩ := h
  unfold f_X2_join
  simp (disch := omega) only [lt_e, n_lit, h2, n_chk, gd_t, nI_clamp, c_empty, bd_s]
  rw [if_pos (by omega)]
  have e2 : empS (up2 (up2 (up2 (up2 (up2 L (2 + n) 0 a) (2 + n) 1 b) (2 + n) 2 0) (2 + n) 3 40) (2 + n) 4 c) (2 + n) 0 2 = nI n := by
    unfold empS
    rw [if_neg (by omega), up2_q (by omega), up2_q (by omega), up2_q (by omega), up2_q (by omega), up2_q (by omega)]
    exact h2
  rw [e2, nI_1, up2_s]
  refine ⟨_, by rw [nI_m1], up2_s _ _ _ _, ?_, ?_, ?_, ?_⟩
  · unfold empS
    rw [up2_q (by omega), if_neg (by omega), up2_q (by omega), up2_q (by omega), up2_q (by omega), up2_q (by omega), up2_q (by omega)]
    exact h3
  · unfold empS
    rw [up2_q (by omega), if_neg (by omega), up2_q (by omega), up2_q (by omega), up2_q (by omega), up2_q (by omega), up2_q (by omega)]
    exact hp
  · intro m q hm hq
    unfold joinS empS
    rw [up2_q (by omega)]
    simp only [up2_ap]
    by_cases e : m = n
    · subst e
      grind
    · have := hR m q (by omega) hq
      grind
  · intro k hk
    obtain ⟨g0, g1, g2⟩ := hS k hk
    have key : ∀ q : Nat, 11 ≤ q → up2 (empS (up2 (up2 (up2 (up2 (up2 L (2 + n) 0 a) (2 + n) 1 b) (2 + n) 2 0) (2 + n) 3 40) (2 + n) 4 c) (2 + n)) 0 2 (nI (n + 1)) q k = L q k := by
      intro q hq
      unfold empS
      rw [up2_q (by omega), if_neg (by omega), up2_q (by omega), up2_q (by omega), up2_q (by omega), up2_q (by omega), up2_q (by omega)]
    exact ⟨(key 11 (by omega)).trans g0, (key 12 (by omega)).trans g1, (key 13 (by omega)).trans g2⟩
theorem c_mark {n t p m : Nat} {L R S : SL} (hn : n ≤ 8) (hm : m < n) (h : CL n t p L R S) (a b : Int32) : ∃ L', f_X2_mark L (nI m) a b = some L' ∧ CL n t p L' (up2 (up2 R m 2 a) m 3 b) S := by
  obtain ⟨h2, h3, hp, hR, hS⟩ := h
  unfold f_X2_mark
  simp (disch := omega) only [lt_e, n_lit, h2, nI_leI, n_chk, gd_t, nI_clamp]
  rw [if_neg (by omega), if_neg (by omega)]
  refine ⟨_, rfl, ?_, ?_, ?_, (hR.put _ _ _).put _ _ _, ?_⟩
  · rw [up2_q (by omega), up2_q (by omega)]; exact h2
  · rw [up2_q (by omega), up2_q (by omega)]; exact h3
  · rw [up2_q (by omega), up2_q (by omega)]; exact hp
  · intro k hk
    rw [up2_q (by omega), up2_q (by omega), up2_q (by omega), up2_q (by omega), up2_q (by omega), up2_q (by omega)]
    exact hS k hk
theorem c_plan {n t p : Nat} {L R S : SL} (hn : n ≤ 8) (hp' : p < 40) (h : CL n t p L R S) (a b c : Int32) : ∃ L', f_X4_plan L a b c = some L' ∧ CL n t (p + 1) L' R (plaS S p a b c) := by
  obtain ⟨h2, h3, hp, hR, hS⟩ := h
  unfold f_X4_plan
  rw [lt_e, hp, if_neg (show ¬ (40 : Int32) ≤ nI p from nI_ge (a := p) (b := 40) (by omega) (by omega))]
  simp (disch := omega) only [lt_e, n_lit, n_chk, gd_t, nI_clamp]
  have e1 : up2 L 11 p a 10 3 = nI p := by rw [up2_q (by omega)]; exact hp
  rw [e1]
  simp (disch := omega) only [n_chk, gd_t, nI_clamp]
  have e2 : up2 (up2 L 11 p a) 12 p b 10 3 = nI p := by rw [up2_q (by omega)]; exact e1
  rw [e2]
  simp (disch := omega) only [n_chk, gd_t, nI_clamp]
  have e3 : up2 (up2 (up2 L 11 p a) 12 p b) 13 p c 10 3 = nI p := by rw [up2_q (by omega)]; exact e2
  rw [e3, nI_1]
  refine ⟨_, rfl, ?_, ?_, up2_s _ _ _ _, ?_, ?_⟩
  · rw [up2_q (by omega), up2_q (by omega), up2_q (by omega), up2_q (by omega)]; exact h2
  · rw [up2_q (by omega), up2_q (by omega), up2_q (by omega), up2_q (by omega)]; exact h3
  · intro m q hm hq
    rw [up2_q (by omega), up2_q (by omega), up2_q (by omega), up2_q (by omega)]; exact hR m q hm hq
  · intro k hk
    unfold plaS
    simp only [up2_ap]
    by_cases e : k = p
    · subst e
      grind
    · have := hS k (by omega)
      grind
/-- what a plan leaves -/
theorem c_planK {n t p : Nat} {L R S L' : SL} (hn : n ≤ 8) (hp' : p < 40) (h : CL n t p L R S) (a b c : Int32) (he : f_X4_plan L a b c = some L') (i : Nat) (hi : i ≠ p) : L' 11 i = L 11 i ∧ L' 12 i = L 12 i ∧ L' 13 i = L 13 i := by
  obtain ⟨h2, h3, hp, hR, hS⟩ := h
  unfold f_X4_plan at he
  rw [lt_e, hp, if_neg (show ¬ (40 : Int32) ≤ nI p from nI_ge (a := p) (b := 40) (by omega) (by omega))] at he
  simp (disch := omega) only [lt_e, n_lit, n_chk, gd_t, nI_clamp] at he
  have e1 : up2 L 11 p a 10 3 = nI p := by rw [up2_q (by omega)]; exact hp
  rw [e1] at he
  simp (disch := omega) only [n_chk, gd_t, nI_clamp] at he
  have e2 : up2 (up2 L 11 p a) 12 p b 10 3 = nI p := by rw [up2_q (by omega)]; exact e1
  rw [e2] at he
  simp (disch := omega) only [n_chk, gd_t, nI_clamp] at he
  have he' := Option.some.inj he
  rw [← he']
  simp only [up2_ap]
  grind
theorem c_outs {n t p : Nat} {L R S : SL} (hn : n ≤ 8) (h : CL n t p L R S) : f_X2_bottlesOut L = some (outR n R) := by
  obtain ⟨h2, h3, hp, hR, hS⟩ := h
  unfold f_X2_bottlesOut outR
  simp (disch := omega) only [lt_e, h2, n_lit]
  by_cases h0 : n = 0
  · rw [if_neg (fun q => q (by omega)), if_pos h0]
  · rw [if_pos (by omega), if_neg h0]
    simp (disch := omega) only [n_lit, n_chk, gd_t, nI_clamp]
    rw [hR (n - 1) 13 (by omega) (by omega)]
theorem c_insL {n : Nat} {L R : SL} (hn : n ≤ 8) (h2 : L 0 2 = nI n) (hR : RC n L R) : ∀ (j m f : Nat), m + j = n → j < f → f_X2_bottlesInside_h4 f L (insS R m) (nI m) = some (insS R n) := by
  intro j
  induction j with
  | zero =>
    intro m f hm hf
    obtain ⟨f', rfl⟩ : ∃ f', f = f' + 1 := ⟨f - 1, by omega⟩
    show f_X2_bottlesInside_b4 _ L _ (nI m) = _
    unfold f_X2_bottlesInside_b4
    rw [lt_e, h2, if_pos (nI_le (by omega) (by omega)), show m = n by omega]
  | succ j ih =>
    intro m f hm hf
    obtain ⟨f', rfl⟩ : ∃ f', f = f' + 1 := ⟨f - 1, by omega⟩
    show f_X2_bottlesInside_b4 _ L _ (nI m) = _
    have ih' := ih (m + 1) f' (by omega) (by omega)
    unfold f_X2_bottlesInside_b4 f_X2_bottlesInside_b39
    rw [lt_e, h2, if_neg (nI_ge (by omega) (by omega))]
    simp (disch := omega) only [lt_e, n_lit, n_chk, gd_t, nI_clamp]
    rw [hR m 5 (by omega) (by omega), hR m 6 (by omega) (by omega), ← ih']
    show _ = f_X2_bottlesInside_h4 f' L (insS R m + (R m 5 + if R m 6 = -1 then 0 else 1)) (nI (m + 1))
    by_cases e : R m 6 = -1
    · rw [if_neg (fun q => q e), if_pos e]
    · rw [if_pos e, if_neg e]
theorem c_ins {n t p : Nat} {L R S : SL} (hn : n ≤ 8) (h : CL n t p L R S) : f_X2_bottlesInside L = some (insS R n) := by
  unfold f_X2_bottlesInside
  exact c_insL hn h.1 h.2.2.2.1 n 0 fuel (by omega) (by unfold fuel; omega)
theorem i_anti {x y : Int32} (h1 : x ≤ y) (h2 : y ≤ x) : x = y := by
  rw [Int32.le_iff_toInt_le] at h1 h2
  exact Int32.toInt_inj.mp (by omega)
theorem i_top (x : Int32) : x ≤ 2147483647 := by
  rw [Int32.le_iff_toInt_le]
  have := Int32.toInt_lt x
  show x.toInt ≤ 2147483647
  omega
theorem c_limL {n : Nat} {L R : SL} (hn : n ≤ 8) (h2 : L 0 2 = nI n) (hR : RC n L R) : ∀ (j m f : Nat), m + 1 + j = n → j < f → f_X2_findLimiting_h7 f L (nI (limS R m)) (idl R (limS R m)) (nI (m + 1)) = some (nI (limS R (n - 1))) := by
  intro j
  induction j with
  | zero =>
    intro m f hm hf
    obtain ⟨f', rfl⟩ : ∃ f', f = f' + 1 := ⟨f - 1, by omega⟩
    show f_X2_findLimiting_b7 _ L _ _ (nI (m + 1)) = _
    unfold f_X2_findLimiting_b7
    rw [lt_e, h2, if_pos (nI_le (by omega) (by omega)), show n - 1 = m by omega]
  | succ j ih =>
    intro m f hm hf
    obtain ⟨f', rfl⟩ : ∃ f', f = f' + 1 := ⟨f - 1, by omega⟩
    show f_X2_findLimiting_b7 _ L _ _ (nI (m + 1)) = _
    have ih' := ih (m + 1) f' (by omega) (by omega)
    unfold f_X2_findLimiting_b7 f_X2_findLimiting_b47
    rw [lt_e, h2, if_neg (nI_ge (by omega) (by omega))]
    simp (disch := omega) only [lt_e, n_lit, n_chk, gd_t, nI_clamp]
    rw [hR (m + 1) 10 (by omega) (by omega), hR (m + 1) 11 (by omega) (by omega), ← ih']
    show (if idl R (limS R m) ≤ idl R (m + 1) then _ else f_X2_findLimiting_h7 f' L (nI (m + 1)) (idl R (m + 1)) (nI (m + 1 + 1))) = _
    by_cases e : idl R (limS R m) ≤ idl R (m + 1)
    · rw [if_pos e, show limS R (m + 1) = limS R m from if_pos e]
    · rw [if_neg e, show limS R (m + 1) = m + 1 from if_neg e]
theorem c_lim0 {n : Nat} {L R : SL} (hn : n ≤ 8) (hn0 : 0 < n) (h2 : L 0 2 = nI n) (hR : RC n L R) (f : Nat) (hf : n < f) (hz : ¬ (1000000 : Int32) ≤ idl R 0) : f_X2_findLimiting_h7 f L 0 1000000 (nI 0) = some (nI (limS R (n - 1))) := by
  obtain ⟨f', rfl⟩ : ∃ f', f = f' + 1 := ⟨f - 1, by omega⟩
  have k := c_limL hn h2 hR (n - 1) 0 f' (by omega) (by omega)
  show f_X2_findLimiting_b7 _ L 0 1000000 (nI 0) = _
  unfold f_X2_findLimiting_b7 f_X2_findLimiting_b47
  rw [lt_e, h2, if_neg (nI_ge (by omega) (by omega))]
  simp (disch := omega) only [lt_e, n_lit, n_chk, gd_t, nI_clamp]
  rw [hR 0 10 (by omega) (by omega), hR 0 11 (by omega) (by omega), ← k]
  have e0 : limS R 0 = 0 := rfl
  rw [e0]
  unfold idl at hz ⊢
  generalize R 0 10 + R 0 11 = z at hz ⊢
  rw [if_neg hz]
theorem c_lim {n t p : Nat} {L R S : SL} (hn : n ≤ 8) (hn0 : 0 < n) (h : CL n t p L R S) (hz : ¬ (1000000 : Int32) ≤ idl R 0) : f_X2_findLimiting L = some (nI (limS R (n - 1))) := by
  unfold f_X2_findLimiting
  exact c_lim0 hn hn0 h.1 h.2.2.2.1 fuel (by unfold fuel; omega) hz
theorem c_drpL {n t p : Nat} {L0 R S : SL} (hn : n ≤ 8) (hp : p ≤ 40) : ∀ (j k f : Nat) (L : SL), k + j = p → j < f → CL n t (drpS S t k).1 L R (drpS S t k).2 → (∀ i, k ≤ i → i < p → L 11 i = S i 0 ∧ L 12 i = S i 1 ∧ L 13 i = S i 2) → ∃ L', f_X4_dropAfter_h12 f L (nI t) (nI p) (nI k) = some (nI (p - (drpS S t p).1), L') ∧ CL n t (drpS S t p).1 L' R (drpS S t p).2 := by
  intro j
  induction j with
  | zero =>
    intro k f L hk hf hC hL
    obtain ⟨f', rfl⟩ : ∃ f', f = f' + 1 := ⟨f - 1, by omega⟩
    obtain rfl : k = p := by omega
    refine ⟨L, ?_, hC⟩
    show f_X4_dropAfter_b12 _ L _ _ _ = _
    unfold f_X4_dropAfter_b12
    rw [if_pos (nI_le (Nat.le_refl _) (by omega)), lt_e, lt_e, hC.2.2.1, pk_sub (drp_le S t k)]
  | succ j ih =>
    intro k f L hk hf hC hL
    obtain ⟨f', rfl⟩ : ∃ f', f = f' + 1 := ⟨f - 1, by omega⟩
    obtain ⟨g0, g1, g2⟩ := hL k (by omega) (by omega)
    have hq := drp_le S t k
    show ∃ L', f_X4_dropAfter_b12 _ L _ _ _ = _ ∧ _
    unfold f_X4_dropAfter_b12 f_X4_dropAfter_b49
    rw [if_neg (nI_ge (by omega) (by omega))]
    simp (disch := omega) only [lt_e, n_lit, n_chk, gd_t, nI_clamp, g0, g1, g2]
    by_cases e : S k 1 ≤ nI t
    · rw [if_neg (i_nlt e)]
      obtain ⟨L1, e1, c1⟩ := c_plan hn (by omega) hC (S k 0) (S k 1) (S k 2)
      have hd : drpS S t (k + 1) = ((drpS S t k).1 + 1, plaS (drpS S t k).2 (drpS S t k).1 (S k 0) (S k 1) (S k 2)) := if_pos e
      have kp : ∀ i, k + 1 ≤ i → i < p → L1 11 i = S i 0 ∧ L1 12 i = S i 1 ∧ L1 13 i = S i 2 := by
        intro i h1 h2
        have h3 := hL i (by omega) h2
        have e9 := c_planK hn (by omega) hC (S k 0) (S k 1) (S k 2) e1 i (by omega)
        rw [e9.1, e9.2.1, e9.2.2]
        exact h3
      obtain ⟨L2, e2, c2⟩ := ih (k + 1) f' L1 (by omega) (by omega) (by rw [hd]; exact c1) kp
      rw [e1, bd_s]
      exact ⟨L2, e2, c2⟩
    · rw [if_pos (i_lt e)]
      have hd : drpS S t (k + 1) = drpS S t k := if_neg e
      exact ih (k + 1) f' L (by omega) (by omega) (by rw [hd]; exact hC) (fun i h1 h2 => hL i (by omega) h2)
theorem c_drop {n t p : Nat} {L R S : SL} (hn : n ≤ 8) (hp : p ≤ 40) (h : CL n t p L R S) : ∃ L', f_X4_dropAfter L (nI t) = some (nI (p - (drpS S t p).1), L') ∧ CL n t (drpS S t p).1 L' R (drpS S t p).2 := by
  obtain ⟨h2, h3, hp', hR, hS⟩ := h
  unfold f_X4_dropAfter
  rw [lt_e, hp', lt_e]
  refine c_drpL (L0 := L) hn hp p 0 fuel _ (by omega) (by unfold fuel; omega) ⟨?_, ?_, ?_, hR.low hn (by omega), fun k hk => absurd hk (by show ¬ k < 0; omega)⟩ (fun i h1 h2 => ?_)
  · rw [up2_q (by omega)]; exact h2
  · rw [up2_q (by omega)]; exact h3
  · rw [up2_s]; rfl
  · rw [up2_q (by omega), up2_q (by omega), up2_q (by omega)]
    exact hS i h2
/-! the class: a line is copied -/
theorem c_copL {n t p i j : Nat} {Ls : Nat → SL} {R S : SL} (hij : i ≠ j) (hn : n ≤ 8) (hp : p ≤ 40) (h : CL n t p (Ls i) R S) : ∀ (d m f : Nat) (X : Nat → SL), m + d = n → d < f → (∀ q, q ≠ j → X q = Ls q) → RC m (X j) R → ∃ X', f_X2_copy_h11 i j f X (nI m) = some X' ∧ CL n t p (X' j) R S ∧ ∀ q, q ≠ j → X' q = Ls q := by
  intro d
  induction d with
  | zero =>
    intro m f X hm hf hX hRm
    obtain ⟨f', rfl⟩ : ∃ f', f = f' + 1 := ⟨f - 1, by omega⟩
    obtain rfl : m = n := by omega
    obtain ⟨h2, h3, hp', hR, hS⟩ := h
    show ∃ X', f_X2_copy_b11 i j _ X (nI m) = _ ∧ _
    unfold f_X2_copy_b11 f_X4_copy
    have hXi : X i = Ls i := hX i hij
    rw [lt_e, hXi, h2, if_pos (nI_le (Nat.le_refl _) (by omega))]
    have hc : cpo (nI p) 40 40 = true := decide_eq_true ⟨fun q => by
      have := nI_ltI (a := p) (b := 0) (by omega) (by omega)
      exact absurd (this.mp q) (by omega), by rw [nI_clamp (by omega)]; omega, by rw [nI_clamp (by omega)]; omega⟩
    simp (disch := omega) only [lt_e, hXi, hp', hc, gd_t, nI_clamp, va_up_self, va_up_ne _ _ hij, bd_s, h2, h3]
    refine ⟨_, rfl, ?_, fun q hq => ?_⟩
    · rw [va_up_self]
      refine ⟨?_, ?_, ?_, ?_, ?_⟩
      · rw [up2_q (by omega), up2_s]
      · rw [up2_s]
      · rw [up2_q (by omega), up2_q (by omega), up2_s]
      · intro m' c hm' hc'
        rw [up2_q (by omega), up2_q (by omega), up2_q (by omega)]
        simp (disch := omega) only [va_up_ne]
        exact hRm m' c hm' hc'
      · intro k hk
        have := hS k hk
        rw [up2_q (by omega), up2_q (by omega), up2_q (by omega), up2_q (by omega), up2_q (by omega), up2_q (by omega), up2_q (by omega), up2_q (by omega), up2_q (by omega)]
        simp (disch := omega) only [va_up_ne, va_up_self]
        unfold va_cpy
        rw [if_pos (by omega), if_pos (by omega), if_pos (by omega), Nat.zero_add, Nat.sub_zero]
        exact this
    · simp only [va_up_ne _ _ hq]
      exact hX q hq
  | succ d ih =>
    intro m f X hm hf hX hRm
    obtain ⟨f', rfl⟩ : ∃ f', f = f' + 1 := ⟨f - 1, by omega⟩
    have h9 := h
    obtain ⟨h2, h3, hp', hR, hS⟩ := h
    show ∃ X', f_X2_copy_b11 i j _ X (nI m) = _ ∧ _
    unfold f_X2_copy_b11
    have hXi : X i = Ls i := hX i hij
    rw [lt_e, hXi, h2, if_neg (nI_ge (by omega) (by omega))]
    simp (disch := omega) only [lt_e, n_lit, n_chk, gd_t, nI_clamp]
    refine ih (m + 1) f' _ (by omega) (by omega) (fun q hq => by rw [va_up_ne _ _ hq]; exact hX q hq) (fun m' c hm' hc' => ?_)
    rw [va_up_self]
    by_cases e : m' = m
    · subst e
      rw [va_up_self]
      unfold va_cpy
      rw [if_pos (by omega), Nat.zero_add, Nat.sub_zero]
      exact hR m' c (by omega) hc'
    · rw [va_up_ne _ _ (by omega)]
      exact hRm m' c (by omega) hc'
theorem c_copy {n t p i j : Nat} {Ls : Nat → SL} {R S : SL} (hij : i ≠ j) (hn : n ≤ 8) (hp : p ≤ 40) (h : CL n t p (Ls i) R S) : ∃ X', f_X2_copy i j Ls = some X' ∧ CL n t p (X' j) R S ∧ ∀ q, q ≠ j → X' q = Ls q := by
  unfold f_X2_copy
  exact c_copL hij hn hp h n 0 fuel Ls (by omega) (by unfold fuel; omega) (fun _ _ => rfl) (fun m c hm => absurd hm (by omega))
