/-! THE MEANING, 1: numbers; rows of machines; a tick; the class's line -/
theorem n_chk {m N : Nat} (h : m < N) (hN : N < 2147483648) : chk (nI m) N = true := decide_eq_true (vp_in_iff.mp (vp_in_nI h hN))
theorem n_lit : (∀ a : Nat, nI a + 1 = nI (a + 1)) ∧ (∀ a : Nat, nI a + 2 = nI (a + 2)) ∧ (∀ a : Nat, nI a + 3 = nI (a + 3)) ∧ (∀ a : Nat, nI a + 4 = nI (a + 4)) ∧ (∀ a : Nat, nI a + 5 = nI (a + 5)) ∧ (∀ a : Nat, nI a + 6 = nI (a + 6)) ∧ (∀ a : Nat, nI a + 7 = nI (a + 7)) ∧ (∀ a : Nat, nI a + 8 = nI (a + 8)) ∧ (∀ a : Nat, nI a + 9 = nI (a + 9)) ∧ (∀ a : Nat, nI a + 15 = nI (a + 15)) ∧ (∀ a : Nat, nI a + 16 = nI (a + 16)) ∧ (∀ a : Nat, nI a + 48 = nI (a + 48)) ∧ (∀ a : Nat, nI a + 251 = nI (a + 251)) ∧ (∀ a : Nat, 1 + nI a = nI (1 + a)) ∧ (∀ a : Nat, 2 + nI a = nI (2 + a)) ∧ (∀ a : Nat, 3 + nI a = nI (3 + a)) ∧ (∀ a : Nat, 5 + nI a = nI (5 + a)) ∧ (∀ a : Nat, 9 + nI a = nI (9 + a)) ∧ (∀ a : Nat, 10 + nI a = nI (10 + a)) ∧ (∀ a : Nat, 131 + nI a = nI (131 + a)) ∧ (∀ a : Nat, 251 + nI a = nI (251 + a)) ∧ (∀ a : Nat, 2 * nI a = nI (2 * a)) ∧ (∀ a : Nat, 3 * nI a = nI (3 * a)) ∧ (∀ a : Nat, 4 * nI a = nI (4 * a)) ∧ (∀ a : Nat, 10 * nI a = nI (10 * a)) ∧ (∀ a : Nat, 16 * nI a = nI (16 * a)) ∧ (∀ a : Nat, 251 * nI a = nI (251 * a)) ∧ (∀ a : Nat, 1 ≤ a → nI a - 1 = nI (a - 1)) ∧ (∀ a : Nat, 2 ≤ a → nI a - 2 = nI (a - 2)) ∧ (∀ a : Nat, 3 ≤ a → nI a - 3 = nI (a - 3)) ∧ (∀ a : Nat, 4 ≤ a → nI a - 4 = nI (a - 4)) ∧ (∀ a : Nat, 16 ≤ a → nI a - 16 = nI (a - 16)) ∧ (∀ a : Nat, a < 2147483648 → (0 ≤ nI a ↔ 0 ≤ a)) ∧ (∀ a : Nat, a < 2147483648 → (0 < nI a ↔ 0 < a)) ∧ (∀ a : Nat, a < 2147483648 → (1 ≤ nI a ↔ 1 ≤ a)) ∧ (∀ a : Nat, a < 2147483648 → (1 < nI a ↔ 1 < a)) ∧ (∀ a : Nat, a < 2147483648 → (2 ≤ nI a ↔ 2 ≤ a)) ∧ (∀ a : Nat, a < 2147483648 → (2 < nI a ↔ 2 < a)) ∧ (∀ a : Nat, a < 2147483648 → (3 ≤ nI a ↔ 3 ≤ a)) ∧ (∀ a : Nat, a < 2147483648 → (3 < nI a ↔ 3 < a)) ∧ (∀ a : Nat, a < 2147483648 → (4 ≤ nI a ↔ 4 ≤ a)) ∧ (∀ a : Nat, a < 2147483648 → (4 < nI a ↔ 4 < a)) ∧ (∀ a : Nat, a < 2147483648 → (5 ≤ nI a ↔ 5 ≤ a)) ∧ (∀ a : Nat, a < 2147483648 → (5 < nI a ↔ 5 < a)) ∧ (∀ a : Nat, a < 2147483648 → (6 ≤ nI a ↔ 6 ≤ a)) ∧ (∀ a : Nat, a < 2147483648 → (6 < nI a ↔ 6 < a)) ∧ (∀ a : Nat, a < 2147483648 → (8 ≤ nI a ↔ 8 ≤ a)) ∧ (∀ a : Nat, a < 2147483648 → (8 < nI a ↔ 8 < a)) ∧ (∀ a : Nat, a < 2147483648 → (15 ≤ nI a ↔ 15 ≤ a)) ∧ (∀ a : Nat, a < 2147483648 → (15 < nI a ↔ 15 < a)) ∧ (∀ a : Nat, a < 2147483648 → (16 ≤ nI a ↔ 16 ≤ a)) ∧ (∀ a : Nat, a < 2147483648 → (16 < nI a ↔ 16 < a)) ∧ (∀ a : Nat, a < 2147483648 → (40 ≤ nI a ↔ 40 ≤ a)) ∧ (∀ a : Nat, a < 2147483648 → (40 < nI a ↔ 40 < a)) ∧ (∀ a : Nat, a < 2147483648 → (80 ≤ nI a ↔ 80 ≤ a)) ∧ (∀ a : Nat, a < 2147483648 → (80 < nI a ↔ 80 < a)) ∧ (∀ a : Nat, a < 2147483648 → (120 ≤ nI a ↔ 120 ≤ a)) ∧ (∀ a : Nat, a < 2147483648 → (120 < nI a ↔ 120 < a)) ∧ (∀ a : Nat, a < 2147483648 → (251 ≤ nI a ↔ 251 ≤ a)) ∧ (∀ a : Nat, a < 2147483648 → (251 < nI a ↔ 251 < a)) ∧ (∀ a : Nat, a < 2147483648 → (753 ≤ nI a ↔ 753 ≤ a)) ∧ (∀ a : Nat, a < 2147483648 → (753 < nI a ↔ 753 < a)) ∧ (∀ a : Nat, a < 2147483648 → (10000 ≤ nI a ↔ 10000 ≤ a)) ∧ (∀ a : Nat, a < 2147483648 → (10000 < nI a ↔ 10000 < a)) ∧ (∀ a : Nat, a < 2147483648 → (nI a ≤ 0 ↔ a ≤ 0)) ∧ (∀ a : Nat, a < 2147483648 → (nI a < 0 ↔ a < 0)) ∧ (∀ a : Nat, a < 2147483648 → (nI a = 0 ↔ a = 0)) ∧ (∀ a : Nat, a < 2147483648 → (nI a ≤ 1 ↔ a ≤ 1)) ∧ (∀ a : Nat, a < 2147483648 → (nI a < 1 ↔ a < 1)) ∧ (∀ a : Nat, a < 2147483648 → (nI a = 1 ↔ a = 1)) ∧ (∀ a : Nat, a < 2147483648 → (nI a ≤ 4 ↔ a ≤ 4)) ∧ (∀ a : Nat, a < 2147483648 → (nI a < 4 ↔ a < 4)) ∧ (∀ a : Nat, a < 2147483648 → (nI a = 4 ↔ a = 4)) ∧ (∀ a : Nat, a < 2147483648 → (nI a ≤ 8 ↔ a ≤ 8)) ∧ (∀ a : Nat, a < 2147483648 → (nI a < 8 ↔ a < 8)) ∧ (∀ a : Nat, a < 2147483648 → (nI a = 8 ↔ a = 8)) ∧ (∀ a : Nat, a < 2147483648 → (nI a ≤ 40 ↔ a ≤ 40)) ∧ (∀ a : Nat, a < 2147483648 → (nI a < 40 ↔ a < 40)) ∧ (∀ a : Nat, a < 2147483648 → (nI a = 40 ↔ a = 40)) ∧ (∀ a : Nat, a < 2147483648 → (nI a ≤ 10000 ↔ a ≤ 10000)) ∧ (∀ a : Nat, a < 2147483648 → (nI a < 10000 ↔ a < 10000)) ∧ (∀ a : Nat, a < 2147483648 → (nI a = 10000 ↔ a = 10000)) ∧ (∀ a : Nat, nI a + 0 = nI a) :=
  ⟨fun a => nI_add a 1, fun a => nI_add a 2, fun a => nI_add a 3, fun a => nI_add a 4, fun a => nI_add a 5, fun a => nI_add a 6, fun a => nI_add a 7, fun a => nI_add a 8, fun a => nI_add a 9, fun a => nI_add a 15, fun a => nI_add a 16, fun a => nI_add a 48, fun a => nI_add a 251, fun a => nI_add 1 a, fun a => nI_add 2 a, fun a => nI_add 3 a, fun a => nI_add 5 a, fun a => nI_add 9 a, fun a => nI_add 10 a, fun a => nI_add 131 a, fun a => nI_add 251 a, fun a => pk_mul 2 a, fun a => pk_mul 3 a, fun a => pk_mul 4 a, fun a => pk_mul 10 a, fun a => pk_mul 16 a, fun a => pk_mul 251 a, fun a h => pk_sub h, fun a h => pk_sub h, fun a h => pk_sub h, fun a h => pk_sub h, fun a h => pk_sub h, fun a h => nI_leI (a := 0) (by decide) h, fun a h => nI_ltI (a := 0) (by decide) h, fun a h => nI_leI (a := 1) (by decide) h, fun a h => nI_ltI (a := 1) (by decide) h, fun a h => nI_leI (a := 2) (by decide) h, fun a h => nI_ltI (a := 2) (by decide) h, fun a h => nI_leI (a := 3) (by decide) h, fun a h => nI_ltI (a := 3) (by decide) h, fun a h => nI_leI (a := 4) (by decide) h, fun a h => nI_ltI (a := 4) (by decide) h, fun a h => nI_leI (a := 5) (by decide) h, fun a h => nI_ltI (a := 5) (by decide) h, fun a h => nI_leI (a := 6) (by decide) h, fun a h => nI_ltI (a := 6) (by decide) h, fun a h => nI_leI (a := 8) (by decide) h, fun a h => nI_ltI (a := 8) (by decide) h, fun a h => nI_leI (a := 15) (by decide) h, fun a h => nI_ltI (a := 15) (by decide) h, fun a h => nI_leI (a := 16) (by decide) h, fun a h => nI_ltI (a := 16) (by decide) h, fun a h => nI_leI (a := 40) (by decide) h, fun a h => nI_ltI (a := 40) (by decide) h, fun a h => nI_leI (a := 80) (by decide) h, fun a h => nI_ltI (a := 80) (by decide) h, fun a h => nI_leI (a := 120) (by decide) h, fun a h => nI_ltI (a := 120) (by decide) h, fun a h => nI_leI (a := 251) (by decide) h, fun a h => nI_ltI (a := 251) (by decide) h, fun a h => nI_leI (a := 753) (by decide) h, fun a h => nI_ltI (a := 753) (by decide) h, fun a h => nI_leI (a := 10000) (by decide) h, fun a h => nI_ltI (a := 10000) (by decide) h, fun a h => nI_leI (b := 0) h (by decide), fun a h => nI_ltI (b := 0) h (by decide), fun a h => nI_eq (b := 0) h (by decide), fun a h => nI_leI (b := 1) h (by decide), fun a h => nI_ltI (b := 1) h (by decide), fun a h => nI_eq (b := 1) h (by decide), fun a h => nI_leI (b := 4) h (by decide), fun a h => nI_ltI (b := 4) h (by decide), fun a h => nI_eq (b := 4) h (by decide), fun a h => nI_leI (b := 8) h (by decide), fun a h => nI_ltI (b := 8) h (by decide), fun a h => nI_eq (b := 8) h (by decide), fun a h => nI_leI (b := 40) h (by decide), fun a h => nI_ltI (b := 40) h (by decide), fun a h => nI_eq (b := 40) h (by decide), fun a h => nI_leI (b := 10000) h (by decide), fun a h => nI_ltI (b := 10000) h (by decide), fun a h => nI_eq (b := 10000) h (by decide), fun a => Int32.add_zero _⟩
theorem i00 : ((0 : Int32) = 0) = True := eq_self 0
theorem i10 : ((1 : Int32) = 0) = False := eq_false (by decide)
theorem i_nlt {a b : Int32} (h : a ≤ b) : ¬ b < a := by
  rw [Int32.lt_iff_toInt_lt]; rw [Int32.le_iff_toInt_le] at h; omega
theorem i_lt {a b : Int32} (h : ¬ a ≤ b) : b < a := by
  rw [Int32.lt_iff_toInt_lt]; rw [Int32.le_iff_toInt_le] at h; omega
theorem i_le {a b : Int32} (h : ¬ a < b) : b ≤ a := by
  rw [Int32.le_iff_toInt_le]; rw [Int32.lt_iff_toInt_lt] at h; omega
theorem i_nle {a b : Int32} (h : a < b) : ¬ b ≤ a := by
  rw [Int32.le_iff_toInt_le]; rw [Int32.lt_iff_toInt_lt] at h; omega
theorem gd_t {α : Type} (x : Option α) : gd true x = x := rfl
theorem bd_s {α β : Type} (a : α) (f : α → Option β) : bd (some a) f = f a := rfl
theorem bd2_s {α β γ : Type} (a : α) (b : β) (f : α → β → Option γ) : bd2 (some (a, b)) f = f a b := rfl
theorem lt_e {α β : Type} (a : α) (f : α → β) : lt_ a f = f a := rfl
theorem up2_ap (L : SL) (k j : Nat) (v : Int32) (k' j' : Nat) : up2 L k j v k' j' = if k' = k ∧ j' = j then v else L k' j' := by
  unfold up2 va_up upd
  by_cases h : k' = k
  · subst h
    by_cases h2 : j' = j <;> simp [h2]
  · simp [h]
theorem up2_q {L : SL} {k j : Nat} {v : Int32} {k' j' : Nat} (h : ¬ (k' = k ∧ j' = j)) : up2 L k j v k' j' = L k' j' := by
  rw [up2_ap, if_neg h]
theorem up2_s (L : SL) (k j : Nat) (v : Int32) : up2 L k j v k j = v := by
  rw [up2_ap, if_pos ⟨rfl, rfl⟩]
theorem up2_row {L : SL} {k j : Nat} {v : Int32} {k' : Nat} (h : k' ≠ k) : up2 L k j v k' = L k' := by
  unfold up2
  rw [va_up_ne _ _ h]
/-- the rows of the first n machines -/
def RC (n : Nat) (L R : SL) : Prop := ∀ m c : Nat, m < n → c < 16 → L (2 + m) c = R m c
theorem RC.put {n : Nat} {L R : SL} (h : RC n L R) (m c : Nat) (v : Int32) : RC n (up2 L (2 + m) c v) (up2 R m c v) := by
  intro m' c' hm hc
  rw [up2_ap, up2_ap]
  by_cases e : m' = m ∧ c' = c
  · rw [if_pos (by omega), if_pos e]
  · rw [if_neg (by omega), if_neg e]
    exact h m' c' hm hc
/-- a line's other cells stay -/
def KC (L L' : SL) : Prop := L' 0 = L 0 ∧ ∀ k, 10 ≤ k → L' k = L k
theorem KC.rf {L : SL} : KC L L := ⟨rfl, fun _ _ => rfl⟩
theorem KC.tr {A B C : SL} (h : KC A B) (h2 : KC B C) : KC A C := ⟨h2.1.trans h.1, fun k hk => (h2.2 k hk).trans (h.2 k hk)⟩
theorem KC.put {A L : SL} (h : KC A L) {k c : Nat} {v : Int32} (hk : 2 ≤ k ∧ k < 10) : KC A (up2 L k c v) := ⟨(up2_row (by omega)).trans h.1, fun q hq => (up2_row (by omega)).trans (h.2 q hq)⟩
abbrev isD (b : Int32) (m : Nat) : Prop := (b >>> (nI m &&& 31)) &&& 1 = 1
def cyS (R : SL) (m : Nat) : Int32 := if R m 7 = 1 then R m 1 else R m 0
def outS (R : SL) (m : Nat) : SL := up2 (up2 R m 6 (-1)) m 13 (R m 13 + 1)
def relS (n : Nat) (b : Int32) (R : SL) (m : Nat) : SL :=
  if m + 1 < n then
    (if R m 5 = 0 ∧ R (m + 1) 6 = -1 ∧ ¬ isD b (m + 1) then outS (up2 R (m + 1) 6 (cyS R (m + 1))) m
     else if R m 5 < R m 4 then outS (up2 R m 5 (R m 5 + 1)) m else R)
  else outS R m
def spdS (n : Nat) (R : SL) (m : Nat) : SL :=
  if m + 1 = n ∨ R m 5 ≤ R m 2 then up2 R m 7 1 else if R m 3 ≤ R m 5 then up2 R m 7 0 else R
def takS (R : SL) (m : Nat) : SL :=
  if m = 0 then up2 R m 6 (cyS R m) else if R (m - 1) 5 = 0 then R else up2 (up2 R (m - 1) 5 (R (m - 1) 5 - 1)) m 6 (cyS R m)
def notS (R : SL) (m k : Nat) : SL := up2 (up2 R m 8 (nI k)) m (8 + k) (R m (8 + k) + 1)
/-- behind the choice of the bottle: work, or none -/
def wrkS (n : Nat) (b : Int32) (R : SL) (m : Nat) : SL :=
  if 0 < R m 6 then
    (if R m 6 - 1 = 0 then relS n b (notS (up2 R m 6 (R m 6 - 1)) m 1) m else notS (up2 R m 6 (R m 6 - 1)) m 1)
  else notS R m (if R m 6 = 0 then 3 else 2)
def tk2S (R : SL) (m : Nat) : SL := if R m 6 = -1 then takS R m else R
def rl2S (n : Nat) (b : Int32) (R : SL) (m : Nat) : SL := if R m 6 = 0 then relS n b R m else R
def turS (n : Nat) (b : Int32) (R : SL) (m : Nat) : SL :=
  if isD b m then notS (spdS n R m) m 4 else wrkS n b (tk2S (rl2S n b (spdS n R m) m) m) m
def fl1S (R : SL) (m : Nat) : SL :=
  if R m 5 < R m 4 then up2 R m 15 (R m 15 + R m 5) else up2 (up2 R m 15 (R m 15 + R m 5)) m 14 (R m 14 + 1)
def flsS : Nat → SL → SL
  | 0, R => R
  | k + 1, R => fl1S (flsS k R) k
def trsS (n : Nat) (b : Int32) : Nat → SL → SL
  | 0, R => R
  | k + 1, R => trsS n b k (turS n b R k)
def ticS (n : Nat) (b : Int32) (R : SL) : SL := flsS (n - 1) (trsS n b n R)
/-- who is down at t, by the first p stops -/
def dbS (S : SL) (t : Nat) : Nat → Int32
  | 0 => 0
  | k + 1 => if S k 1 ≤ nI t ∧ nI t < S k 1 + S k 2 then dbS S t k ||| (1 <<< (S k 0 &&& 31)) else dbS S t k
def pasS (n p : Nat) (S : SL) : Nat → Nat → SL → SL
  | 0, _, R => R
  | k + 1, t, R => pasS n p S k (t + 1) (ticS n (dbS S (t + 1) p) R)
/-! the class: a turn -/
theorem c_cyc (k : Nat) (L : SL) : f_X2_presentCycle k L = some (if L k 7 = 1 then L k 1 else L k 0) := by
  unfold f_X2_presentCycle
  simp only [lt_e]
  by_cases h : L k 7 = 1
  · rw [if_neg (fun q => q h), if_pos h]
  · rw [if_pos h, if_neg h]
theorem c_isD (L : SL) (m : Nat) : f_X4_isDown L (nI m) = some (if isD (L 10 4) m then 1 else 0) := by
  unfold f_X4_isDown
  simp only [lt_e]
  by_cases h : isD (L 10 4) m
  · rw [if_neg (fun q => q h), if_pos h]
  · rw [if_pos h, if_neg h]
theorem c_note {n m : Nat} {L R : SL} (hn : n ≤ 8) (hm : m < n) (hR : RC n L R) {k : Nat} (hk : 1 ≤ k ∧ k ≤ 4) : ∃ L', f_X2_noteTurn (2 + m) L (nI k) = some L' ∧ RC n L' (notS R m k) ∧ KC L L' := by
  refine ⟨up2 (up2 L (2 + m) 8 (nI k)) (2 + m) (8 + k) (L (2 + m) (8 + k) + 1), ?_, ?_, (KC.rf.put (by omega)).put (by omega)⟩
  · unfold f_X2_noteTurn
    simp (disch := omega) only [lt_e, n_lit, n_chk, gd_t, nI_clamp]
    rw [show 9 + k - 1 = 8 + k by omega, up2_q (by omega)]
  · unfold notS
    rw [hR m (8 + k) hm (by omega)]
    exact (hR.put _ _ _).put _ _ _
theorem c_out {n m : Nat} {L R : SL} (hn : n ≤ 8) (hm : m < n) (hR : RC n L R) : ∃ L', f_X2_release_b84 L (2 + m) = some L' ∧ RC n L' (outS R m) ∧ KC L L' := by
  refine ⟨up2 (up2 L (2 + m) 6 (-1)) (2 + m) 13 (L (2 + m) 13 + 1), ?_, ?_, (KC.rf.put (by omega)).put (by omega)⟩
  · unfold f_X2_release_b84
    simp only [lt_e]
    rw [up2_ap, if_neg (by omega)]
  · unfold outS
    rw [hR m 13 hm (by omega)]
    exact (hR.put _ _ _).put _ _ _
theorem c_rel64 {n m : Nat} {L R : SL} (hn : n ≤ 8) (hm : m < n) (hR : RC n L R) : ∃ L', f_X2_release_b64 L (2 + m) = some L' ∧ RC n L' (if R m 5 < R m 4 then outS (up2 R m 5 (R m 5 + 1)) m else R) ∧ KC L L' := by
  unfold f_X2_release_b64
  simp only [lt_e]
  rw [hR m 4 hm (by omega), hR m 5 hm (by omega)]
  by_cases h : R m 4 ≤ R m 5
  · rw [if_pos h, if_neg (i_nlt h)]
    exact ⟨L, rfl, hR, KC.rf⟩
  · rw [if_neg h, if_pos (i_lt h)]
    obtain ⟨L', e, h1, h2⟩ := c_out hn hm (hR.put m 5 (R m 5 + 1))
    exact ⟨L', e, h1, (KC.rf.put (by omega)).tr h2⟩
theorem c_rel {n m : Nat} {L R : SL} (hn : n ≤ 8) (hm : m < n) (h2 : L 0 2 = nI n) (hR : RC n L R) : ∃ L', f_X2_release L (nI m) = some L' ∧ RC n L' (relS n (L 10 4) R m) ∧ KC L L' := by
  unfold f_X2_release relS
  simp (disch := omega) only [lt_e, n_chk, gd_t, nI_clamp, h2, n_lit, nI_leI]
  by_cases h1 : m + 1 < n
  · rw [if_neg (by omega), if_pos h1]
    simp (disch := omega) only [n_chk, gd_t, nI_clamp]
    rw [hR m 5 hm (by omega), show 2 + (m + 1) = 2 + (m + 1) from rfl, hR (m + 1) 6 h1 (by omega), c_isD]
    by_cases a1 : R m 5 = 0
    · rw [if_neg (fun q => q a1)]
      by_cases a2 : R (m + 1) 6 = -1
      · rw [if_neg (fun q => q a2), bd_s]
        by_cases a3 : isD (L 10 4) (m + 1)
        · rw [if_pos a3, if_pos (by decide), if_neg (fun q => q.2.2 a3)]
          exact c_rel64 hn hm hR
        · rw [if_neg a3, if_neg (by decide), if_pos ⟨a1, a2, a3⟩, c_cyc, bd_s]
          rw [hR (m + 1) 7 h1 (by omega), hR (m + 1) 1 h1 (by omega), hR (m + 1) 0 h1 (by omega)]
          obtain ⟨L', e, g1, g2⟩ := c_out hn hm (hR.put (m + 1) 6 (cyS R (m + 1)))
          exact ⟨L', e, g1, (KC.rf.put (by omega)).tr g2⟩
      · rw [if_pos a2, if_neg (fun q => a2 q.2.1)]
        exact c_rel64 hn hm hR
    · rw [if_pos a1, if_neg (fun q => a1 q.1)]
      exact c_rel64 hn hm hR
  · rw [if_pos (by omega), if_neg h1]
    exact c_out hn hm hR
theorem c_spd {n m : Nat} {L R : SL} (hn : n ≤ 8) (hm : m < n) (h2 : L 0 2 = nI n) (hR : RC n L R) : ∃ L', f_X2_chooseSpeed L (nI m) = some L' ∧ RC n L' (spdS n R m) ∧ KC L L' := by
  unfold f_X2_chooseSpeed spdS f_X2_chooseSpeed_b26
  simp (disch := omega) only [lt_e, n_chk, gd_t, nI_clamp, h2, n_lit, nI_eq]
  rw [hR m 5 hm (by omega), hR m 2 hm (by omega), hR m 3 hm (by omega)]
  have k1 : ∀ v, KC L (up2 L (2 + m) 7 v) := fun v => KC.rf.put (by omega)
  by_cases h1 : m + 1 = n
  · rw [if_pos (by omega), if_pos (Or.inl h1)]
    exact ⟨_, rfl, hR.put _ _ _, k1 _⟩
  · rw [if_neg (by omega)]
    by_cases a1 : R m 5 ≤ R m 2
    · rw [if_pos (Or.inr a1), if_neg (i_nlt a1)]
      exact ⟨_, rfl, hR.put _ _ _, k1 _⟩
    · rw [if_neg (show ¬ (m + 1 = n ∨ R m 5 ≤ R m 2) from fun q => q.elim h1 a1), if_pos (i_lt a1)]
      by_cases a2 : R m 3 ≤ R m 5
      · rw [if_neg (i_nlt a2), if_pos a2]
        exact ⟨_, rfl, hR.put _ _ _, k1 _⟩
      · rw [if_pos (i_lt a2), if_neg a2]
        exact ⟨_, rfl, hR, KC.rf⟩
theorem c_tak {n m : Nat} {L R : SL} (hn : n ≤ 8) (hm : m < n) (hR : RC n L R) : ∃ L', f_X2_takeBottle L (nI m) = some L' ∧ RC n L' (takS R m) ∧ KC L L' := by
  have key : ∀ L1 : SL, (∀ c, c < 16 → L1 (2 + m) c = R m c) → f_X2_takeBottle_b34 L1 (2 + m) = some (up2 L1 (2 + m) 6 (cyS R m)) := by
    intro L1 h
    unfold f_X2_takeBottle_b34
    rw [c_cyc, bd_s, lt_e, h 7 (by omega), h 1 (by omega), h 0 (by omega)]
    rfl
  unfold f_X2_takeBottle takS
  simp (disch := omega) only [lt_e, n_chk, gd_t, nI_clamp, n_lit]
  by_cases h0 : m = 0
  · rw [if_pos (by omega), if_pos h0, key L (fun c hc => hR m c hm hc)]
    exact ⟨_, rfl, hR.put _ _ _, KC.rf.put (by omega)⟩
  · rw [if_neg (by omega), if_neg h0]
    simp (disch := omega) only [n_lit, n_chk, gd_t, nI_clamp]
    rw [hR (m - 1) 5 (by omega) (by omega)]
    by_cases a1 : R (m - 1) 5 = 0
    · rw [if_neg (fun q => q a1), if_pos a1]
      exact ⟨L, rfl, hR, KC.rf⟩
    · rw [if_pos a1, if_neg a1, key _ (fun c hc => by rw [up2_row (by omega)]; exact hR m c hm hc)]
      exact ⟨_, rfl, (hR.put _ _ _).put _ _ _, (KC.rf.put (by omega)).put (by omega)⟩
theorem c_wrk {n m : Nat} {L R : SL} (hn : n ≤ 8) (hm : m < n) (h2 : L 0 2 = nI n) (hR : RC n L R) : ∃ L', f_X2_takeTurn_b54 L (nI m) (2 + m) = some L' ∧ RC n L' (wrkS n (L 10 4) R m) ∧ KC L L' := by
  unfold f_X2_takeTurn_b54 wrkS f_X2_takeTurn_b102
  simp only [lt_e]
  rw [hR m 6 hm (by omega)]
  by_cases a0 : 0 < R m 6
  · rw [if_neg (i_nle a0), if_pos a0]
    obtain ⟨L1, e1, r1, k1⟩ := c_note hn hm (hR.put m 6 (R m 6 - 1)) (k := 1) (by omega)
    have k2 : KC L L1 := (KC.rf.put (by omega)).tr k1
    have e1' : f_X2_noteTurn (2 + m) (up2 L (2 + m) 6 (R m 6 - 1)) 1 = some L1 := e1
    rw [e1', bd_s]
    have e6 : L1 (2 + m) 6 = R m 6 - 1 := by
      rw [r1 m 6 hm (by omega)]
      unfold notS
      rw [up2_ap, if_neg (by omega), up2_ap, if_neg (by omega), up2_ap, if_pos (by omega)]
    rw [e6]
    by_cases a1 : R m 6 - 1 = 0
    · rw [if_neg (fun q => q a1), if_pos a1]
      obtain ⟨L2, e2, r2, k3⟩ := c_rel hn hm (by rw [k2.1]; exact h2) r1
      rw [e2, bd_s]
      rw [k2.2 10 (by omega)] at r2
      exact ⟨L2, rfl, r2, k2.tr k3⟩
    · rw [if_pos a1, if_neg a1]
      exact ⟨L1, rfl, r1, k2⟩
  · rw [if_pos (i_le a0), if_neg a0]
    by_cases a1 : R m 6 = 0
    · rw [if_neg (fun q => q a1), if_pos a1]
      obtain ⟨L1, e1, r1, k1⟩ := c_note hn hm hR (k := 3) (by omega)
      have e1' : f_X2_noteTurn (2 + m) L 3 = some L1 := e1
      rw [e1', bd_s]
      exact ⟨L1, rfl, r1, k1⟩
    · rw [if_pos a1, if_neg a1]
      obtain ⟨L1, e1, r1, k1⟩ := c_note hn hm hR (k := 2) (by omega)
      have e1' : f_X2_noteTurn (2 + m) L 2 = some L1 := e1
      rw [e1', bd_s]
      exact ⟨L1, rfl, r1, k1⟩
theorem c_tk2 {n m : Nat} {L R : SL} (hn : n ≤ 8) (hm : m < n) (h2 : L 0 2 = nI n) (hR : RC n L R) : ∃ L', f_X2_takeTurn_b41 L (nI m) (2 + m) = some L' ∧ RC n L' (wrkS n (L 10 4) (tk2S R m) m) ∧ KC L L' := by
  unfold f_X2_takeTurn_b41 tk2S
  simp only [lt_e]
  rw [hR m 6 hm (by omega)]
  by_cases a0 : R m 6 = -1
  · rw [if_neg (fun q => q a0), if_pos a0]
    obtain ⟨L1, e1, r1, k1⟩ := c_tak hn hm hR
    rw [e1, bd_s]
    obtain ⟨L2, e2, r2, k2⟩ := c_wrk hn hm (by rw [k1.1]; exact h2) r1
    rw [k1.2 10 (by omega)] at r2
    exact ⟨L2, e2, r2, k1.tr k2⟩
  · rw [if_pos a0, if_neg a0]
    exact c_wrk hn hm h2 hR
theorem c_tur {n m : Nat} {L R : SL} (hn : n ≤ 8) (hm : m < n) (h2 : L 0 2 = nI n) (hR : RC n L R) : ∃ L', f_X2_takeTurn L (nI m) = some L' ∧ RC n L' (turS n (L 10 4) R m) ∧ KC L L' := by
  unfold f_X2_takeTurn turS rl2S
  simp (disch := omega) only [lt_e, n_chk, gd_t, nI_clamp]
  obtain ⟨L1, e1, r1, k1⟩ := c_spd hn hm h2 hR
  rw [e1, bd_s, c_isD, bd_s, k1.2 10 (by omega)]
  by_cases a0 : isD (L 10 4) m
  · rw [if_pos a0, if_neg (by decide), if_pos a0]
    obtain ⟨L2, e2, r2, k2⟩ := c_note hn hm r1 (k := 4) (by omega)
    have e2' : f_X2_noteTurn (2 + m) L1 4 = some L2 := e2
    rw [e2', bd_s]
    exact ⟨L2, rfl, r2, k1.tr k2⟩
  · rw [if_neg a0, if_pos rfl, if_neg a0, r1 m 6 hm (by omega)]
    have h3 : L1 0 2 = nI n := by rw [k1.1]; exact h2
    by_cases a1 : spdS n R m m 6 = 0
    · rw [if_neg (fun q => q a1), if_pos a1]
      obtain ⟨L2, e2, r2, k2⟩ := c_rel hn hm h3 r1
      rw [e2, bd_s]
      obtain ⟨L3, e3, r3, k3⟩ := c_tk2 hn hm (by rw [k2.1]; exact h3) r2
      rw [k2.2 10 (by omega), k1.2 10 (by omega)] at r3
      exact ⟨L3, e3, r3, (k1.tr k2).tr k3⟩
    · rw [if_pos a1, if_neg a1]
      obtain ⟨L3, e3, r3, k3⟩ := c_tk2 hn hm h3 r1
      rw [k1.2 10 (by omega)] at r3
      exact ⟨L3, e3, r3, k1.tr k3⟩
/-! the class: fills; all turns of a tick -/
theorem c_fl1 {n m : Nat} {L R : SL} (hn : n ≤ 8) (hm : m + 1 < n) (h2 : L 0 2 = nI n) (hR : RC n L R) (K : SL → Int32 → Option SL) : ∃ L', f_X2_countFills_b2 K L (nI m) = K L' (nI (m + 1)) ∧ RC n L' (fl1S R m) ∧ KC L L' := by
  unfold f_X2_countFills_b2 fl1S f_X2_countFills_b46
  simp (disch := omega) only [lt_e, n_chk, gd_t, nI_clamp, h2, n_lit, nI_leI]
  rw [if_neg (by omega)]
  have hw : ∀ c : Nat, c ≠ 15 → c < 16 → (up2 L (2 + m) 15 (L (2 + m) 15 + L (2 + m) 5)) (2 + m) c = R m c := fun c h1 h2 => by
    rw [up2_ap, if_neg (by omega)]; exact hR m c (by omega) h2
  rw [hw 5 (by omega) (by omega), hw 4 (by omega) (by omega), hw 14 (by omega) (by omega), hR m 15 (by omega) (by omega), hR m 5 (by omega) (by omega)]
  by_cases a1 : R m 5 < R m 4
  · rw [if_pos a1, if_pos a1]
    exact ⟨_, rfl, hR.put _ _ _, KC.rf.put (by omega)⟩
  · rw [if_neg a1, if_neg a1]
    exact ⟨_, rfl, (hR.put _ _ _).put _ _ _, (KC.rf.put (by omega)).put (by omega)⟩
theorem c_flsL {n : Nat} (hn : n ≤ 8) (hn0 : 0 < n) (R0 : SL) : ∀ (j m f : Nat) (L : SL), m + j = n - 1 → j < f → L 0 2 = nI n → RC n L (flsS m R0) → ∃ L', f_X2_countFills_h2 f L (nI m) = some L' ∧ RC n L' (flsS (n - 1) R0) ∧ KC L L' := by
  intro j
  induction j with
  | zero =>
    intro m f L hmj hf h2 hR
    obtain ⟨f', rfl⟩ : ∃ f', f = f' + 1 := ⟨f - 1, by omega⟩
    refine ⟨L, ?_, by rw [show n - 1 = m by omega]; exact hR, KC.rf⟩
    show f_X2_countFills_b2 _ L (nI m) = _
    unfold f_X2_countFills_b2
    simp (disch := omega) only [lt_e, h2, n_lit, nI_leI]
    rw [if_pos (by omega)]
  | succ j ih =>
    intro m f L hmj hf h2 hR
    obtain ⟨f', rfl⟩ : ∃ f', f = f' + 1 := ⟨f - 1, by omega⟩
    obtain ⟨L1, e1, r1, k1⟩ := c_fl1 hn (show m + 1 < n by omega) h2 hR (f_X2_countFills_h2 f')
    obtain ⟨L2, e2, r2, k2⟩ := ih (m + 1) f' L1 (by omega) (by omega) (by rw [k1.1]; exact h2) r1
    exact ⟨L2, e1.trans e2, r2, k1.tr k2⟩
theorem c_fls {n : Nat} {L R : SL} (hn : n ≤ 8) (hn0 : 0 < n) (h2 : L 0 2 = nI n) (hR : RC n L R) : ∃ L', f_X2_countFills L = some L' ∧ RC n L' (flsS (n - 1) R) ∧ KC L L' := by
  unfold f_X2_countFills
  exact c_flsL hn hn0 R (n - 1) 0 fuel L (by omega) (by unfold fuel; omega) h2 hR
/-! the class: who is down, and until when -/
def RS (p : Nat) (L S : SL) : Prop := ∀ k : Nat, k < p → L 11 k = S k 0 ∧ L 12 k = S k 1 ∧ L 13 k = S k 2
def chS (S : SL) (t : Nat) : Nat → Int32
  | 0 => 1000000
  | k + 1 => if S k 1 ≤ nI t then (if S k 1 + S k 2 ≤ nI t then chS S t k else if S k 1 + S k 2 < chS S t k then S k 1 + S k 2 else chS S t k)
    else if S k 1 < chS S t k then S k 1 else chS S t k
theorem up2_up2 (L : SL) (k j : Nat) (v w : Int32) : up2 (up2 L k j v) k j w = up2 L k j w := by
  funext a b
  rw [up2_ap, up2_ap, up2_ap]
  by_cases h : a = k ∧ b = j
  · rw [if_pos h, if_pos h]
  · rw [if_neg h, if_neg h, if_neg h]
theorem c_lookL {p t : Nat} {L S : SL} (hp : p ≤ 40) (h3 : L 10 3 = nI p) (hS : RS p L S) : ∀ (j k f : Nat), k + j = p → j < f → f_X4_lookAt_h10 f (up2 L 10 4 (dbS S t k)) (nI t) (chS S t k) (nI k) = some (chS S t p, up2 L 10 4 (dbS S t p)) := by
  intro j
  induction j with
  | zero =>
    intro k f hk hf
    obtain ⟨f', rfl⟩ : ∃ f', f = f' + 1 := ⟨f - 1, by omega⟩
    obtain rfl : k = p := by omega
    show f_X4_lookAt_b10 _ _ _ _ _ = _
    unfold f_X4_lookAt_b10
    rw [lt_e, show up2 L 10 4 (dbS S t k) 10 3 = L 10 3 from up2_q (by omega), h3, if_pos (nI_le (Nat.le_refl _) (by omega))]
  | succ j ih =>
    intro k f hk hf
    obtain ⟨f', rfl⟩ : ∃ f', f = f' + 1 := ⟨f - 1, by omega⟩
    have ih' := ih (k + 1) f' (by omega) (by omega)
    obtain ⟨s0, s1, s2⟩ := hS k (by omega)
    show f_X4_lookAt_b10 _ _ _ _ _ = _
    unfold f_X4_lookAt_b10 f_X4_lookAt_b83
    simp (disch := omega) only [lt_e, n_chk, gd_t, nI_clamp, n_lit]
    rw [show up2 L 10 4 (dbS S t k) 10 3 = L 10 3 from up2_q (by omega), h3, if_neg (nI_ge (by omega) (by omega)), show up2 L 10 4 (dbS S t k) 12 = L 12 from up2_row (by omega), show up2 L 10 4 (dbS S t k) 13 = L 13 from up2_row (by omega), s1, s2]
    by_cases a1 : S k 1 ≤ nI t
    · rw [if_pos a1]
      by_cases a2 : S k 1 + S k 2 ≤ nI t
      · rw [if_pos a2, ← ih']
        rw [show dbS S t (k + 1) = dbS S t k from if_neg (fun q => i_nlt a2 q.2), show chS S t (k + 1) = chS S t k from (if_pos a1).trans (if_pos a2)]
      · rw [if_neg a2, show up2 L 10 4 (dbS S t k) 11 = L 11 from up2_row (by omega), s0, show up2 L 10 4 (dbS S t k) 10 4 = dbS S t k from by rw [up2_ap, if_pos (by omega)], up2_up2, ← ih']
        rw [show dbS S t (k + 1) = dbS S t k ||| (1 <<< (S k 0 &&& 31)) from if_pos ⟨a1, i_lt a2⟩, show chS S t (k + 1) = if S k 1 + S k 2 < chS S t k then S k 1 + S k 2 else chS S t k from (if_pos a1).trans (if_neg a2)]
    · rw [if_neg a1, ← ih']
      rw [show dbS S t (k + 1) = dbS S t k from if_neg (fun q => a1 q.1), show chS S t (k + 1) = if S k 1 < chS S t k then S k 1 else chS S t k from if_neg a1]
theorem c_look {p t : Nat} {L S : SL} (hp : p ≤ 40) (h3 : L 10 3 = nI p) (hS : RS p L S) : f_X4_lookAt L (nI t) = some (chS S t p, up2 L 10 4 (dbS S t p)) := by
  unfold f_X4_lookAt
  exact c_lookL hp h3 hS p 0 fuel (by omega) (by unfold fuel; omega)
theorem chS_mono (S : SL) (t k : Nat) : chS S t (k + 1) ≤ chS S t k := by
  rw [Int32.le_iff_toInt_le]
  show (if _ then _ else _ : Int32).toInt ≤ _
  by_cases a1 : S k 1 ≤ nI t
  · rw [if_pos a1]
    by_cases a2 : S k 1 + S k 2 ≤ nI t
    · rw [if_pos a2]; exact Int.le_refl _
    · rw [if_neg a2]
      by_cases a3 : S k 1 + S k 2 < chS S t k
      · rw [if_pos a3]; rw [Int32.lt_iff_toInt_lt] at a3; omega
      · rw [if_neg a3]; exact Int.le_refl _
  · rw [if_neg a1]
    by_cases a3 : S k 1 < chS S t k
    · rw [if_pos a3]; rw [Int32.lt_iff_toInt_lt] at a3; omega
    · rw [if_neg a3]; exact Int.le_refl _
theorem i_ltle {a b c : Int32} (h : a < b) (h2 : b ≤ c) : a < c := by
  rw [Int32.lt_iff_toInt_lt] at h ⊢; rw [Int32.le_iff_toInt_le] at h2; omega
theorem i_lele {a b c : Int32} (h : a ≤ b) (h2 : b ≤ c) : a ≤ c := by
  rw [Int32.le_iff_toInt_le] at h h2 ⊢; omega
/-- until the next change nothing changes -/
theorem look_stay (S : SL) {t u : Nat} (htu : t ≤ u) (hu : u < 2147483648) : ∀ k, nI u < chS S t k → dbS S u k = dbS S t k
  | 0, _ => rfl
  | k + 1, h => by
    have ih := look_stay S htu hu k (i_ltle h (chS_mono S t k))
    have hle : nI t ≤ nI u := nI_le htu (by omega)
    show (if _ then _ else _ : Int32) = (if _ then _ else _ : Int32)
    rw [ih]
    by_cases a1 : S k 1 ≤ nI t
    · by_cases a2 : S k 1 + S k 2 ≤ nI t
      · rw [if_neg (fun q => i_nlt (i_lele a2 hle) q.2), if_neg (fun q => i_nlt a2 q.2)]
      · have h9 : chS S t (k + 1) ≤ S k 1 + S k 2 := by
          rw [show chS S t (k + 1) = if S k 1 + S k 2 < chS S t k then S k 1 + S k 2 else chS S t k from (if_pos a1).trans (if_neg a2)]
          by_cases a3 : S k 1 + S k 2 < chS S t k
          · rw [if_pos a3]; exact Int32.le_refl _
          · rw [if_neg a3]; exact i_le a3
        rw [if_pos ⟨i_lele a1 hle, i_ltle h h9⟩, if_pos ⟨a1, i_lt a2⟩]
    · have h9 : chS S t (k + 1) ≤ S k 1 := by
        rw [show chS S t (k + 1) = if S k 1 < chS S t k then S k 1 else chS S t k from if_neg a1]
        by_cases a3 : S k 1 < chS S t k
        · rw [if_pos a3]; exact Int32.le_refl _
        · rw [if_neg a3]; exact i_le a3
      rw [if_neg (fun q => i_nle (i_ltle h h9) q.1), if_neg (fun q => a1 q.1)]
/-! the class: ticks pass -/
def CL (n t p : Nat) (L R S : SL) : Prop := L 0 2 = nI n ∧ L 0 3 = nI t ∧ L 10 3 = nI p ∧ RC n L R ∧ RS p L S
theorem RC.low {n : Nat} {L R : SL} (h : RC n L R) (hn : n ≤ 8) {k j : Nat} {v : Int32} (hk : k < 2 ∨ 10 ≤ k) : RC n (up2 L k j v) R := fun m c hm hc => by
  rw [up2_row (by omega)]; exact h m c hm hc
theorem RS.oth {p : Nat} {L S : SL} (h : RS p L S) {k j : Nat} {v : Int32} (hk : k < 11) : RS p (up2 L k j v) S := fun q hq => by
  rw [up2_row (by omega), up2_row (by omega), up2_row (by omega)]; exact h q hq
theorem RS.kc {p : Nat} {L L' S : SL} (h : RS p L S) (k : KC L L') : RS p L' S := fun q hq => by
  rw [k.2 11 (by omega), k.2 12 (by omega), k.2 13 (by omega)]; exact h q hq
theorem nI_m1 (k : Nat) : nI (k + 1) - 1 = nI k := nI_pred k
theorem c_trsL {n : Nat} (hn : n ≤ 8) (K : SL → Int32 → Int32 → Int32 → Option SL) (x1 x2 x3 : Int32) : ∀ (k f : Nat) (L R : SL), k ≤ n → k < f → L 0 2 = nI n → RC n L R → ∃ L', f_X2_pass_h52 K f L x1 x2 x3 (nI k - 1) = bd (f_X2_countFills L') (fun L2 => K L2 x1 x2 (x3 + 1)) ∧ RC n L' (trsS n (L 10 4) k R) ∧ KC L L' := by
  intro k
  induction k with
  | zero =>
    intro f L R hk hf h2 hR
    obtain ⟨f', rfl⟩ : ∃ f', f = f' + 1 := ⟨f - 1, by omega⟩
    refine ⟨L, ?_, hR, KC.rf⟩
    show f_X2_pass_b52 _ _ _ _ _ _ _ = _
    unfold f_X2_pass_b52
    rw [if_pos (by decide)]
    rfl
  | succ k ih =>
    intro f L R hk hf h2 hR
    obtain ⟨f', rfl⟩ : ∃ f', f = f' + 1 := ⟨f - 1, by omega⟩
    obtain ⟨L1, e1, r1, k1⟩ := c_tur hn (show k < n by omega) h2 hR
    obtain ⟨L2, e2, r2, k2⟩ := ih f' L1 _ (by omega) (by omega) (by rw [k1.1]; exact h2) r1
    refine ⟨L2, ?_, ?_, k1.tr k2⟩
    · show f_X2_pass_b52 _ _ _ _ _ _ _ = _
      unfold f_X2_pass_b52
      rw [nI_m1, if_neg (nI_pos (by omega)), e1, bd_s, lt_e, ← e2, Int32.sub_eq_add_neg]
    · rw [k1.2 10 (by omega)] at r2
      exact r2
theorem c_tic {n : Nat} (hn : n ≤ 8) (hn0 : 0 < n) (K : SL → Int32 → Int32 → Int32 → Option SL) (x1 x2 x3 : Int32) {L R : SL} (h2 : L 0 2 = nI n) (hR : RC n L R) : ∃ L', f_X2_pass_b44 K L x1 x2 x3 = K L' x1 x2 (x3 + 1) ∧ RC n L' (ticS n (L 10 4) R) ∧ KC L L' := by
  obtain ⟨L1, e1, r1, k1⟩ := c_trsL hn K x1 x2 x3 n fuel L R (Nat.le_refl n) (by unfold fuel; omega) h2 hR
  obtain ⟨L2, e2, r2, k2⟩ := c_fls hn hn0 (by rw [k1.1]; exact h2) r1
  refine ⟨L2, ?_, r2, k1.tr k2⟩
  unfold f_X2_pass_b44
  rw [lt_e, lt_e, h2, e1, e2, bd_s]
theorem c_pasL {n p : Nat} {S : SL} (hn : n ≤ 8) (hn0 : 0 < n) (hp : p ≤ 40) (T : Nat) : ∀ (j k t f : Nat) (ch : Int32) (L R : SL), k + j = T → j < f → T < 2147483648 → t + j < 2147483648 → CL n t p L R S → (∀ u, t < u → u < 2147483648 → nI u < ch → dbS S u p = L 10 4) → ∃ L', f_X2_pass_h9 f L (nI T) ch (nI k) = some L' ∧ CL n (t + j) p L' (pasS n p S j t R) S := by
  intro j
  induction j with
  | zero =>
    intro k t f ch L R hk hf hT ht hC hch
    obtain ⟨f', rfl⟩ : ∃ f', f = f' + 1 := ⟨f - 1, by omega⟩
    refine ⟨L, ?_, hC⟩
    show f_X2_pass_b9 _ _ _ _ _ = _
    unfold f_X2_pass_b9
    rw [if_pos (nI_le (by omega) (by omega))]
  | succ j ih =>
    intro k t f ch L R hk hf hT ht hC hch
    obtain ⟨f', rfl⟩ : ∃ f', f = f' + 1 := ⟨f - 1, by omega⟩
    obtain ⟨c2, c3, cp, cR, cS⟩ := hC
    have step : ∀ (L1 : SL) (ch1 : Int32), L1 0 2 = nI n → L1 0 3 = nI (t + 1) → L1 10 3 = nI p → RC n L1 R → RS p L1 S → L1 10 4 = dbS S (t + 1) p → (∀ u, t + 1 < u → u < 2147483648 → nI u < ch1 → dbS S u p = L1 10 4) → ∃ L', f_X2_pass_b44 (f_X2_pass_h9 f') L1 (nI T) ch1 (nI k) = some L' ∧ CL n (t + (j + 1)) p L' (pasS n p S (j + 1) t R) S := by
      intro L1 ch1 d2 d3 dp dR dS db hc1
      obtain ⟨L2, e2, r2, k2⟩ := c_tic hn hn0 (f_X2_pass_h9 f') (nI T) ch1 (nI k) d2 dR
      rw [db] at r2
      obtain ⟨L3, e3, r3⟩ := ih (k + 1) (t + 1) f' ch1 L2 (ticS n (dbS S (t + 1) p) R) (by omega) (by omega) hT (by omega) ⟨by rw [k2.1]; exact d2, by rw [k2.1]; exact d3, by rw [k2.2 10 (by omega)]; exact dp, r2, dS.kc k2⟩ (fun u h1 h2 h3 => by rw [k2.2 10 (by omega)]; exact hc1 u h1 h2 h3)
      refine ⟨L3, ?_, ?_⟩
      · rw [e2, nI_1, e3]
      · rw [show t + (j + 1) = t + 1 + j by omega]
        exact r3
    have q2 : (up2 L 0 3 (nI (t + 1))) 0 2 = nI n := by rw [up2_ap, if_neg (by omega)]; exact c2
    have q3 : (up2 L 0 3 (nI (t + 1))) 0 3 = nI (t + 1) := by rw [up2_ap, if_pos (by omega)]
    have qp : (up2 L 0 3 (nI (t + 1))) 10 3 = nI p := by rw [up2_row (by omega)]; exact cp
    have q4 : (up2 L 0 3 (nI (t + 1))) 10 4 = L 10 4 := by rw [up2_row (by omega)]
    have qR : RC n (up2 L 0 3 (nI (t + 1))) R := cR.low hn (by omega)
    have qS : RS p (up2 L 0 3 (nI (t + 1))) S := cS.oth (by omega)
    show ∃ L', f_X2_pass_b9 _ _ _ _ _ = _ ∧ _
    unfold f_X2_pass_b9
    simp only [lt_e]
    rw [if_neg (nI_ge (by omega) (by omega)), c3, nI_1, q3]
    by_cases a1 : nI (t + 1) < ch
    · rw [if_pos a1]
      have hd := hch (t + 1) (by omega) (by omega) a1
      exact step _ _ q2 q3 qp qR qS (by rw [q4, hd]) (fun u h1 h2 h3 => by rw [q4]; exact hch u (by omega) h2 h3)
    · rw [if_neg a1, c_look hp qp qS, bd2_s]
      refine step _ _ (by rw [up2_row (by omega)]; exact q2) (by rw [up2_row (by omega)]; exact q3) (by rw [up2_ap, if_neg (by omega)]; exact qp) (qR.low hn (by omega)) (qS.oth (by omega)) (by rw [up2_ap, if_pos (by omega)]) (fun u h1 h2 h3 => ?_)
      rw [up2_ap, if_pos (by omega)]
      exact look_stay S (by omega) h2 p h3
theorem c_pas {n t p T : Nat} {L R S : SL} (hn : n ≤ 8) (hn0 : 0 < n) (hp : p ≤ 40) (hT : T < 15000) (ht : t < 100000) (hC : CL n t p L R S) : ∃ L', f_X2_pass L (nI T) = some L' ∧ CL n (t + T) p L' (pasS n p S T t R) S := by
  unfold f_X2_pass
  simp only [lt_e]
  rw [hC.2.1, nI_1]
  refine c_pasL hn hn0 hp T T 0 t fuel _ L R (by omega) (by unfold fuel; omega) (by omega) (by omega) hC (fun u h1 h2 h3 => ?_)
  exact absurd h3 (i_nlt (nI_le (by omega) (by omega)))
