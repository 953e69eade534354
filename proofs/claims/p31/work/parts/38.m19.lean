/-! THE MEANING, 19: a tick with another capacity -/
theorem put_oth (R : SL) {k m q : Nat} (v : Int32) (h : k ≠ m ∨ q ≠ 5) : up2 R k q v m 5 = R m 5 := up2_q (by omega)
theorem out_oth (R : SL) {k m : Nat} : outS R k m 5 = R m 5 := by
  unfold outS
  rw [put_oth _ _ (Or.inr (by omega)), put_oth _ _ (Or.inr (by omega))]
theorem not_oth (R : SL) {k m w : Nat} (hw : 1 ≤ w) : notS R k w m 5 = R m 5 := by
  unfold notS
  rw [put_oth _ _ (Or.inr (by omega)), put_oth _ _ (Or.inr (by omega))]
theorem rel_oth (n : Nat) (b : Int32) (R : SL) {k m : Nat} (h : k ≠ m) : relS n b R k m 5 = R m 5 := by
  unfold relS
  split
  · split
    · rw [out_oth, put_oth _ _ (Or.inr (by omega))]
    · split
      · rw [out_oth, put_oth _ _ (Or.inl h)]
      · rfl
  · exact out_oth R
theorem spd_oth (n : Nat) (R : SL) {k m : Nat} : spdS n R k m 5 = R m 5 := by
  unfold spdS
  split
  · exact put_oth _ _ (Or.inr (by omega))
  · split
    · exact put_oth _ _ (Or.inr (by omega))
    · rfl
theorem tk2_oth (R : SL) {k m : Nat} (h : k ≤ m) : tk2S R k m 5 = R m 5 := by
  unfold tk2S takS
  split
  · split
    · exact put_oth _ _ (Or.inr (by omega))
    · split
      · rfl
      · rw [put_oth _ _ (Or.inr (by omega)), put_oth _ _ (Or.inl (by omega))]
  · rfl
theorem wrk_oth (n : Nat) (b : Int32) (R : SL) {k m : Nat} (h : k ≠ m) : wrkS n b R k m 5 = R m 5 := by
  unfold wrkS
  split
  · split
    · rw [rel_oth n b _ h, not_oth _ (by omega), put_oth _ _ (Or.inr (by omega))]
    · rw [not_oth _ (by omega), put_oth _ _ (Or.inr (by omega))]
  · split
    · exact not_oth R (by omega)
    · exact not_oth R (by omega)
theorem tur_oth (n : Nat) (b : Int32) (R : SL) {k m : Nat} (h : k < m) : turS n b R k m 5 = R m 5 := by
  unfold turS
  split
  · rw [not_oth _ (by omega), spd_oth]
  · rw [wrk_oth n b _ (by omega), tk2_oth _ (by omega)]
    unfold rl2S
    split
    · rw [rel_oth n b _ (by omega), spd_oth]
    · exact spd_oth n R
theorem trs_oth (n : Nat) (b : Int32) {m : Nat} : ∀ (k : Nat) (R : SL), k ≤ m → trsS n b k R m 5 = R m 5
  | 0, _, _ => rfl
  | k + 1, R, h => (trs_oth n b k _ (by omega)).trans (tur_oth n b R (by omega))
theorem U_trs (n : Nat) (b : Int32) (m : Nat) (c : Int32) : ∀ (k : Nat) (R : SL), R m 4 ≤ c → (m < k → m + 1 < n → trsS n b k R m 5 < R m 4) → trsS n b k (up2 R m 4 c) = up2 (trsS n b k R) m 4 c
  | 0, _, _, _ => rfl
  | k + 1, R, hc, hend => by
    have e1 : turS n b (up2 R m 4 c) k = up2 (turS n b R k) m 4 c := U_tur n b R m c k hc (fun h1 h2 => by
      subst h1
      have q : trsS n b k (turS n b R k) k 5 < R k 4 := hend (by omega) h2
      rw [trs_oth n b k _ (Nat.le_refl k)] at q
      exact q)
    have e4 : turS n b R k m 4 = R m 4 := KP_tur n b R k m 4 (by omega)
    show trsS n b k (turS n b (up2 R m 4 c) k) = up2 (trsS n b k (turS n b R k)) m 4 c
    rw [e1]
    exact U_trs n b m c k (turS n b R k) (by rw [e4]; exact hc) (fun h1 h2 => by
      rw [e4]
      exact hend (by omega) h2)
theorem fls_at (R : SL) (m : Nat) : ∀ k, flsS k R m 5 = R m 5 ∧ flsS k R m 4 = R m 4
  | 0 => ⟨rfl, rfl⟩
  | k + 1 => by
    have ih := fls_at R m k
    show fl1S (flsS k R) k m 5 = _ ∧ fl1S (flsS k R) k m 4 = _
    unfold fl1S
    split
    · rw [up2_q (by omega), up2_q (by omega)]; exact ih
    · rw [up2_q (by omega), up2_q (by omega), up2_q (by omega), up2_q (by omega)]; exact ih
theorem U_fl1 (R : SL) (m : Nat) (c : Int32) (k : Nat) (hc : R m 4 ≤ c) (h : k = m → R m 5 < R m 4) : fl1S (up2 R m 4 c) k = up2 (fl1S R k) m 4 c := by
  unfold fl1S
  rw [U_at R m c (q := 15) (by omega), U_at R m c (q := 5) (by omega), U_at R m c (q := 14) (by omega), U_put R m c _ (by omega), U_put _ m c _ (by omega)]
  by_cases g : k = m
  · subst g
    rw [up2_s, if_pos (i_ltle (h rfl) hc), if_pos (h rfl)]
  · rw [up2_q (by omega)]
    split <;> rfl
theorem U_fls (R : SL) (m : Nat) (c : Int32) (hc : R m 4 ≤ c) : ∀ k, (m < k → R m 5 < R m 4) → flsS k (up2 R m 4 c) = up2 (flsS k R) m 4 c
  | 0, _ => rfl
  | k + 1, h => by
    have e := fls_at R m k
    show fl1S (flsS k (up2 R m 4 c)) k = up2 (fl1S (flsS k R) k) m 4 c
    rw [U_fls R m c hc k (fun z => h (by omega))]
    exact U_fl1 (flsS k R) m c k (by rw [e.2]; exact hc) (fun z => by rw [e.1, e.2]; exact h (by omega))
/-- a tick with another capacity: the same, where the buffer is not full behind it -/
theorem U_tic (n : Nat) (b : Int32) (R : SL) (m : Nat) (c : Int32) (hc : R m 4 ≤ c) (h : m + 1 < n → ticS n b R m 5 < R m 4) : ticS n b (up2 R m 4 c) = up2 (ticS n b R) m 4 c := by
  have e := fls_at (trsS n b n R) m (n - 1)
  have e4 : trsS n b n R m 4 = R m 4 := KP_trs n b n R m 4 (by omega)
  have h5 : m + 1 < n → trsS n b n R m 5 < R m 4 := fun z => by
    have q := h z
    have q2 : flsS (n - 1) (trsS n b n R) m 5 < R m 4 := q
    rw [e.1] at q2
    exact q2
  unfold ticS
  rw [U_trs n b m c n R hc (fun _ z => h5 z)]
  exact U_fls _ m c (by rw [e4]; exact hc) (n - 1) (fun z => by rw [e4]; exact h5 (by omega))
