/-! THE MEANING, 28: what the law prints of a line: it is told by the line alone -/
def mixF (f : Nat → Int32) : Nat → Nat → Int64 → Int64
  | 0, _, y => y
  | d + 1, j, y => mixF f d (j + 1) (31 * y + (f j).toInt64)
def prS (S : SL) : Nat → Nat → Int64 → Int64
  | 0, _, y => y
  | d + 1, k, y => prS S d (k + 1) (31 * (31 * (31 * y + (S k 0).toInt64) + (S k 1).toInt64) + (S k 2).toInt64)
def prM (R : SL) : Nat → Nat → Int64 → Int64
  | 0, _, y => y
  | d + 1, m, y => prM R d (m + 1) (mixF (fun k => R m (5 + k)) 4 0 (mixF (fun k => R m k) 5 0 (mixF (fun k => R m (9 + k)) 6 0 y)))
def prA (A : LN) : Int64 := prS A.2.2 A.1.2.2 0 (prM A.2.1 A.1.1 0 (31 * (31 * (nI A.1.2.1).toInt64 + (outR A.1.1 A.2.1).toInt64) + (nI A.1.2.2).toInt64))
section PR
variable {F : Nat → Nat → SL → Prop} {Ls : Nat → SL} {Hs : SL} {n t p v : Nat} {R S : SL} {B : Nat → LN}
theorem pr_137 (h : SC F Ls Hs ((n, t, p), R, S) v B) : ∀ (d k f : Nat) (y : Int64), k + d = p → d < f → f_L_print_h137 f Ls y (nI k) = some (prS S d k y) := by
  have hp : p ≤ 40 := h.1.1.2.2.1
  intro d
  induction d with
  | zero =>
    intro k f y hk hf
    obtain ⟨f', rfl⟩ : ∃ f', f = f' + 1 := ⟨f - 1, by omega⟩
    obtain rfl : k = p := by omega
    show f_L_print_b137 _ Ls y (nI k) = _
    unfold f_L_print_b137
    rw [r_size1 h, bd_n, if_pos (nI_le (Nat.le_refl _) (by omega))]
    rfl
  | succ d ih =>
    intro k f y hk hf
    obtain ⟨f', rfl⟩ : ∃ f', f = f' + 1 := ⟨f - 1, by omega⟩
    show f_L_print_b137 _ Ls y (nI k) = _
    unfold f_L_print_b137
    simp only [lt_n]
    rw [r_size1 h, bd_n, if_neg (nI_ge (by omega) (by omega)), show f_X5_stop Ls (nI k) 0 = _ from r_stp h (k := k) (w := 0) (by omega) (by omega), show f_X5_stop Ls (nI k) 1 = _ from r_stp h (k := k) (w := 1) (by omega) (by omega), show f_X5_stop Ls (nI k) 2 = _ from r_stp h (k := k) (w := 2) (by omega) (by omega), okv_i, okv_i, okv_i, bd_n, bd_n, bd_n, nI_1]
    exact ih (k + 1) f' _ (by omega) (by omega)
theorem pr_102 (h : SC F Ls Hs ((n, t, p), R, S) v B) {m : Nat} (hm : m < n) (K : (Nat → SL) → Int64 → Int32 → Option Int64) : ∀ (d j f : Nat) (y : Int64), j + d = 4 → d < f → f_L_print_h102 K f Ls y (nI m) (nI j) = K Ls (mixF (fun k => R m (5 + k)) d j y) (nI (m + 1)) := by
  intro d
  induction d with
  | zero =>
    intro j f y hj hf
    obtain ⟨f', rfl⟩ : ∃ f', f = f' + 1 := ⟨f - 1, by omega⟩
    show f_L_print_b102 _ _ Ls y (nI m) (nI j) = _
    unfold f_L_print_b102
    rw [if_pos (show (4 : Int32) ≤ nI j from nI_le (a := 4) (by omega) (by omega)), lt_n, nI_1]
    rfl
  | succ d ih =>
    intro j f y hj hf
    obtain ⟨f', rfl⟩ : ∃ f', f = f' + 1 := ⟨f - 1, by omega⟩
    show f_L_print_b102 _ _ Ls y (nI m) (nI j) = _
    unfold f_L_print_b102
    simp only [lt_n]
    rw [if_neg (show ¬ (4 : Int32) ≤ nI j from nI_ge (b := 4) (by omega) (by omega)), r_mac h hm (show j ≤ 3 by omega), okv_i, bd_n, nI_1]
    exact ih (j + 1) f' _ (by omega) (by omega)
theorem pr_72 (h : SC F Ls Hs ((n, t, p), R, S) v B) {m : Nat} (hm : m < n) (K : (Nat → SL) → Int64 → Int32 → Option Int64) : ∀ (d j f : Nat) (y : Int64), j + d = 5 → d < f → f_L_print_h72 K f Ls y (nI m) (nI j) = K Ls (mixF (fun k => R m (5 + k)) 4 0 (mixF (fun k => R m k) d j y)) (nI (m + 1)) := by
  intro d
  induction d with
  | zero =>
    intro j f y hj hf
    obtain ⟨f', rfl⟩ : ∃ f', f = f' + 1 := ⟨f - 1, by omega⟩
    show f_L_print_b72 _ _ Ls y (nI m) (nI j) = _
    unfold f_L_print_b72
    rw [if_pos (show (5 : Int32) ≤ nI j from nI_le (a := 5) (by omega) (by omega))]
    exact pr_102 h hm K 4 0 fuel _ (by omega) (by unfold fuel; omega)
  | succ d ih =>
    intro j f y hj hf
    obtain ⟨f', rfl⟩ : ∃ f', f = f' + 1 := ⟨f - 1, by omega⟩
    show f_L_print_b72 _ _ Ls y (nI m) (nI j) = _
    unfold f_L_print_b72
    simp only [lt_n]
    rw [if_neg (show ¬ (5 : Int32) ≤ nI j from nI_ge (b := 5) (by omega) (by omega)), r_set h hm (show j ≤ 4 by omega), okv_i, bd_n, nI_1]
    exact ih (j + 1) f' _ (by omega) (by omega)
theorem pr_41 (h : SC F Ls Hs ((n, t, p), R, S) v B) {m : Nat} (hm : m < n) (K : (Nat → SL) → Int64 → Int32 → Option Int64) : ∀ (d j f : Nat) (y : Int64), j + d = 6 → d < f → f_L_print_h41 K f Ls y (nI m) (nI j) = K Ls (mixF (fun k => R m (5 + k)) 4 0 (mixF (fun k => R m k) 5 0 (mixF (fun k => R m (9 + k)) d j y))) (nI (m + 1)) := by
  intro d
  induction d with
  | zero =>
    intro j f y hj hf
    obtain ⟨f', rfl⟩ : ∃ f', f = f' + 1 := ⟨f - 1, by omega⟩
    show f_L_print_b41 _ _ Ls y (nI m) (nI j) = _
    unfold f_L_print_b41
    rw [if_pos (show (6 : Int32) ≤ nI j from nI_le (a := 6) (by omega) (by omega))]
    exact pr_72 h hm K 5 0 fuel _ (by omega) (by unfold fuel; omega)
  | succ d ih =>
    intro j f y hj hf
    obtain ⟨f', rfl⟩ : ∃ f', f = f' + 1 := ⟨f - 1, by omega⟩
    show f_L_print_b41 _ _ Ls y (nI m) (nI j) = _
    unfold f_L_print_b41
    simp only [lt_n]
    rw [if_neg (show ¬ (6 : Int32) ≤ nI j from nI_ge (b := 6) (by omega) (by omega)), r_cnt h hm (show j ≤ 5 by omega), okv_i, bd_n, nI_1]
    exact ih (j + 1) f' _ (by omega) (by omega)
theorem pr_29 (h : SC F Ls Hs ((n, t, p), R, S) v B) : ∀ (d m f : Nat) (y : Int64), m + d = n → d < f → f_L_print_h29 f Ls y (nI m) = some (prS S p 0 (prM R d m y)) := by
  have hn : n ≤ 8 := h.1.1.1
  have hp : p ≤ 40 := h.1.1.2.2.1
  intro d
  induction d with
  | zero =>
    intro m f y hm hf
    obtain ⟨f', rfl⟩ : ∃ f', f = f' + 1 := ⟨f - 1, by omega⟩
    show f_L_print_b29 _ Ls y (nI m) = _
    unfold f_L_print_b29
    rw [r_size0 h, bd_n, if_pos (nI_le (by omega) (by omega))]
    exact pr_137 h p 0 fuel _ (by omega) (by unfold fuel; omega)
  | succ d ih =>
    intro m f y hm hf
    obtain ⟨f', rfl⟩ : ∃ f', f = f' + 1 := ⟨f - 1, by omega⟩
    show f_L_print_b29 _ Ls y (nI m) = _
    unfold f_L_print_b29
    rw [r_size0 h, bd_n, if_neg (nI_ge (by omega) (by omega))]
    exact (pr_41 h (show m < n by omega) (f_L_print_h29 f') 6 0 fuel y (by omega) (by unfold fuel; omega)).trans (ih (m + 1) f' _ (by omega) (by omega))
theorem pr_all {A : LN} (h : SC F Ls Hs A v B) : f_L_print Ls = some (prA A) := by
  obtain ⟨⟨n, t, p⟩, R, S⟩ := A
  unfold f_L_print
  simp only [lt_n]
  rw [r_now h, bd_n, r_out h, bd_n, r_size1 h, bd_n]
  exact pr_29 h n 0 fuel _ (by omega) (by have hn : n ≤ 8 := h.1.1.1; unfold fuel; omega)
end PR
