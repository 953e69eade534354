/-! THE MEANING, 12: random stops; the digest -/
/-- the draws' state goes on; the number it tells -/
def drN (w : Int64) : Int64 := 1103515245 * w + 12345 - (1103515245 * w + 12345) / 2147483648 * 2147483648
theorem m_drw (w : Int64) : f_X6_draws w = some ((drN w / 65536).toInt32, drN w) := rfl
theorem drN_b (w : Int64) : True := trivial
def mixA (f : Nat → Int32) : Nat → Int64 → Int64
  | 0, h => h
  | k + 1, h => 31 * mixA f k h + (f k).toInt64
theorem m_mix (h : Int64) (x : Int32) : f_X6_mix h x = some (31 * h + x.toInt64) := rfl
/-- fifteen columns of each machine -/
def mixR (R : SL) : Nat → Int64 → Int64
  | 0, h => h
  | m + 1, h => mixA (R m) 15 (mixR R m h)
def mixS (S : SL) : Nat → Int64 → Int64
  | 0, h => h
  | k + 1, h => mixA (S k) 3 (mixS S k h)
theorem c_mixI {n m : Nat} {L R : SL} (hn : n ≤ 8) (hm : m < n) (hR : RC n L R) (K : SL → Int64 → Int32 → Option Int64) (h : Int64) : ∀ (j c f : Nat), c + j = 15 → j < f → f_X2_mixInto_h51 K f L (mixA (R m) c h) (nI m) (nI c) = K L (mixA (R m) 15 h) (nI (m + 1)) := by
  intro j
  induction j with
  | zero =>
    intro c f hc hf
    obtain ⟨f', rfl⟩ : ∃ f', f = f' + 1 := ⟨f - 1, by omega⟩
    show f_X2_mixInto_b51 K _ L _ _ _ = _
    unfold f_X2_mixInto_b51
    rw [if_pos (show (15 : Int32) ≤ nI c from nI_le (a := 15) (b := c) (by omega) (by omega)), lt_n, nI_1, show c = 15 by omega]
  | succ j ih =>
    intro c f hc hf
    obtain ⟨f', rfl⟩ : ∃ f', f = f' + 1 := ⟨f - 1, by omega⟩
    show f_X2_mixInto_b51 K _ L _ _ _ = _
    unfold f_X2_mixInto_b51
    rw [if_neg (show ¬ (15 : Int32) ≤ nI c from nI_ge (a := c) (b := 15) (by omega) (by omega))]
    simp only [lt_n]
    rw [n_chk (by omega) (by omega), gd_n, n_chk (by omega) (by omega), gd_n, nI_clamp (by omega), nI_clamp (by omega), hR m c hm (by omega), nI_1]
    exact ih (c + 1) f' (by omega) (by omega)
theorem c_mixL {n : Nat} {L R : SL} (hn : n ≤ 8) (h2 : L 0 2 = nI n) (hR : RC n L R) (h : Int64) : ∀ (j m f : Nat), m + j = n → j < f → f_X2_mixInto_h39 f L (mixR R m h) (nI m) = some (mixR R n h) := by
  intro j
  induction j with
  | zero =>
    intro m f hm hf
    obtain ⟨f', rfl⟩ : ∃ f', f = f' + 1 := ⟨f - 1, by omega⟩
    show f_X2_mixInto_b39 _ L _ _ = _
    unfold f_X2_mixInto_b39
    rw [lt_n, h2, if_pos (nI_le (by omega) (by omega)), show m = n by omega]
  | succ j ih =>
    intro m f hm hf
    obtain ⟨f', rfl⟩ : ∃ f', f = f' + 1 := ⟨f - 1, by omega⟩
    have hF : 15 < fuel := by unfold fuel; omega
    show f_X2_mixInto_b39 _ L _ _ = _
    unfold f_X2_mixInto_b39
    generalize fuel = F at hF ⊢
    rw [lt_n, h2, if_neg (nI_ge (by omega) (by omega))]
    exact (c_mixI hn (show m < n by omega) hR (f_X2_mixInto_h39 f') (mixR R m h) 15 0 F (by omega) hF).trans (ih (m + 1) f' (by omega) (by omega))
theorem c_mixSI {p k : Nat} {L S : SL} (hp : p ≤ 40) (hk : k < p) (hS : RS p L S) (K : SL → Int64 → Int32 → Option Int64) (h : Int64) : ∀ (j c f : Nat), c + j = 3 → j < f → f_X4_mixInto_h27 K f L (mixA (S k) c h) (nI k) (nI c) = K L (mixA (S k) 3 h) (nI (k + 1)) := by
  intro j
  induction j with
  | zero =>
    intro c f hc hf
    obtain ⟨f', rfl⟩ : ∃ f', f = f' + 1 := ⟨f - 1, by omega⟩
    show f_X4_mixInto_b27 K _ L _ _ _ = _
    unfold f_X4_mixInto_b27
    rw [if_pos (show (3 : Int32) ≤ nI c from nI_le (a := 3) (b := c) (by omega) (by omega)), lt_n, nI_1, show c = 3 by omega]
  | succ j ih =>
    intro c f hc hf
    obtain ⟨f', rfl⟩ : ∃ f', f = f' + 1 := ⟨f - 1, by omega⟩
    have hv : f_X4_value L (nI k) (nI c) = some (S k c) := by
      obtain ⟨s0, s1, s2⟩ := hS k hk
      unfold f_X4_value
      simp only [lt_n]
      rw [n_chk (by omega) (by omega), gd_n, gd_n, gd_n, nI_clamp (by omega), s0, s1, s2]
      obtain rfl | rfl | rfl : c = 0 ∨ c = 1 ∨ c = 2 := by omega
      · rw [if_neg (fun z => z rfl)]
      · rw [if_pos (show ¬ nI 1 = 0 by decide), if_neg (fun z => z rfl)]
      · rw [if_pos (show ¬ nI 2 = 0 by decide), if_pos (show ¬ nI 2 = 1 by decide)]
    show f_X4_mixInto_b27 K _ L _ _ _ = _
    unfold f_X4_mixInto_b27
    rw [if_neg (show ¬ (3 : Int32) ≤ nI c from nI_ge (a := c) (b := 3) (by omega) (by omega))]
    simp only [lt_n]
    rw [hv, bd_s, nI_1]
    exact ih (c + 1) f' (by omega) (by omega)
theorem c_mixSL {p : Nat} {L S : SL} (hp : p ≤ 40) (h3 : L 10 3 = nI p) (hS : RS p L S) (h : Int64) : ∀ (j k f : Nat), k + j = p → j < f → f_X4_mixInto_h15 f L (mixS S k h) (nI k) = some (mixS S p h) := by
  intro j
  induction j with
  | zero =>
    intro k f hk hf
    obtain ⟨f', rfl⟩ : ∃ f', f = f' + 1 := ⟨f - 1, by omega⟩
    show f_X4_mixInto_b15 _ L _ _ = _
    unfold f_X4_mixInto_b15
    rw [lt_n, h3, if_pos (nI_le (by omega) (by omega)), show k = p by omega]
  | succ j ih =>
    intro k f hk hf
    obtain ⟨f', rfl⟩ : ∃ f', f = f' + 1 := ⟨f - 1, by omega⟩
    have hF : 3 < fuel := by unfold fuel; omega
    show f_X4_mixInto_b15 _ L _ _ = _
    unfold f_X4_mixInto_b15
    generalize fuel = F at hF ⊢
    rw [lt_n, h3, if_neg (nI_ge (by omega) (by omega))]
    exact (c_mixSI hp (show k < p by omega) hS (f_X4_mixInto_h15 f') (mixS S k h) 3 0 F (by omega) hF).trans (ih (k + 1) f' (by omega) (by omega))
def digS (n t p v len : Nat) (R S : SL) : Int64 :=
  31 * (31 * mixS S p (31 * mixR R n (31 * (31 * (31 * (31 * 3109 + (nI len).toInt64) + (nI t).toInt64) + (outR n R).toInt64) + (nI n).toInt64) + (nI p).toInt64) + (insS R n).toInt64) + (nI v).toInt64
theorem c_dig {n t p v len : Nat} {Ls : Nat → SL} {Hs T R S : SL} (hn : n ≤ 8) (hp : p ≤ 40) (h : CL n t p (Ls 0) R S) (h2 : Hs 0 2 = nI v) (h1 : T 0 1 = nI len) : f_X5_digest Ls Hs T = some (digS n t p v len R S) := by
  have hF : 40 < fuel := by unfold fuel; omega
  unfold f_X5_digest f_X2_mixInto f_X4_mixInto digS
  generalize fuel = F at hF ⊢
  simp only [lt_n]
  rw [h1, h2, c_outs hn h, bd_s, c_ins hn h, h.1, h.2.1, h.2.2.1]
  have e1 := c_mixL hn h.1 h.2.2.2.1 (31 * (31 * (31 * (31 * 3109 + (nI len).toInt64) + (nI t).toInt64) + (outR n R).toInt64) + (nI n).toInt64) n 0 F (by omega) (by omega)
  rw [show f_X2_mixInto_h39 F (Ls 0) (31 * (31 * (31 * (31 * 3109 + (nI len).toInt64) + (nI t).toInt64) + (outR n R).toInt64) + (nI n).toInt64) 0 = some (mixR R n (31 * (31 * (31 * (31 * 3109 + (nI len).toInt64) + (nI t).toInt64) + (outR n R).toInt64) + (nI n).toInt64)) from e1, bd_s]
  have e2 := c_mixSL hp h.2.2.1 h.2.2.2.2 (31 * mixR R n (31 * (31 * (31 * (31 * 3109 + (nI len).toInt64) + (nI t).toInt64) + (outR n R).toInt64) + (nI n).toInt64) + (nI p).toInt64) p 0 F (by omega) (by omega)
  rw [show f_X4_mixInto_h15 F (Ls 0) (31 * mixR R n (31 * (31 * (31 * (31 * 3109 + (nI len).toInt64) + (nI t).toInt64) + (outR n R).toInt64) + (nI n).toInt64) + (nI p).toInt64) 0 = _ from e2, bd_s, bd_s]
