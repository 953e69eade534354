/-! THE MEANING, 31: what the law does to a line -/
def S13 (R R' : SL) : Prop := ∀ k : Nat, R' k 13 = R k 13
theorem S13.rf {R : SL} : S13 R R := fun _ => rfl
theorem S13.tr {A B C : SL} (h : S13 A B) (h2 : S13 B C) : S13 A C := fun k => (h2 k).trans (h k)
theorem S13.put {A R : SL} (h : S13 A R) {m c : Nat} {v : Int32} (hc : c ≠ 13) : S13 A (up2 R m c v) := fun q => (up2_q (by omega)).trans (h q)
theorem S13_spd (n : Nat) (R : SL) (m : Nat) : S13 R (spdS n R m) := by
  unfold spdS
  split
  · exact S13.rf.put (by omega)
  · split
    · exact S13.rf.put (by omega)
    · exact S13.rf
theorem S13_tk2 (R : SL) (m : Nat) : S13 R (tk2S R m) := by
  unfold tk2S takS
  split
  · split
    · exact S13.rf.put (by omega)
    · split
      · exact S13.rf
      · exact (S13.rf.put (by omega)).put (by omega)
  · exact S13.rf
theorem S13_not (R : SL) (m w : Nat) (hw : w ≤ 4) : S13 R (notS R m w) := (S13.rf.put (by omega)).put (by omega)
theorem S13.z {R R' : SL} (h : S13 R R') (k : Nat) : vZ R' k 13 = vZ R k 13 := by
  unfold vZ
  rw [h k]
theorem rel13 {n : Nat} {b : Int32} {R : SL} {m : Nat} (hb : 0 ≤ vZ R m 13 ∧ vZ R m 13 ≤ 90000) (k : Nat) : vZ (relS n b R m) k 13 = vZ R k 13 ∨ k = m ∧ vZ (relS n b R m) k 13 = vZ R k 13 + 1 := by
  have o : ∀ Q : SL, S13 R Q → vZ (outS Q m) k 13 = vZ R k 13 ∨ k = m ∧ vZ (outS Q m) k 13 = vZ R k 13 + 1 := fun Q hQ => by
    rw [vZ_out (by rw [hQ.z]; omega)]
    by_cases e : k = m
    · subst e
      rw [if_pos ⟨rfl, rfl⟩, hQ.z]
      exact Or.inr ⟨rfl, rfl⟩
    · rw [if_neg (fun z => e z.1), if_neg (fun z => e z.1), hQ.z]
      exact Or.inl rfl
  unfold relS
  split
  · split
    · exact o _ (S13.rf.put (by omega))
    · split
      · exact o _ (S13.rf.put (by omega))
      · exact Or.inl rfl
  · exact o _ S13.rf
theorem tur13 {n : Nat} {b : Int32} {R : SL} {m : Nat} (hb : 0 ≤ vZ R m 13 ∧ vZ R m 13 ≤ 80000) (k : Nat) : vZ R k 13 ≤ vZ (turS n b R m) k 13 ∧ (k ≠ m → vZ (turS n b R m) k 13 = vZ R k 13) := by
  unfold turS
  have h1 := S13_spd n R m
  generalize spdS n R m = Q at h1 ⊢
  split
  · have h2 := h1.tr (S13_not Q m 4 (by omega))
    rw [h2.z]
    exact ⟨by omega, fun _ => rfl⟩
  · have h2 : ∀ j, vZ (rl2S n b Q m) j 13 = vZ R j 13 ∨ j = m ∧ vZ (rl2S n b Q m) j 13 = vZ R j 13 + 1 := fun j => by
      unfold rl2S
      split
      · have := rel13 (n := n) (b := b) (R := Q) (m := m) (by rw [h1.z]; omega) j
        rw [h1.z] at this
        exact this
      · exact Or.inl (h1.z j)
    generalize rl2S n b Q m = Q2 at h2 ⊢
    have h3 := S13_tk2 Q2 m
    generalize tk2S Q2 m = Q3 at h3 ⊢
    have hm : 0 ≤ vZ Q3 m 13 ∧ vZ Q3 m 13 ≤ 80001 := by
      rw [h3.z]
      rcases h2 m with e | ⟨-, e⟩ <;> omega
    have hk : vZ Q3 k 13 = vZ R k 13 ∨ k = m ∧ vZ Q3 k 13 = vZ R k 13 + 1 := by
      rw [h3.z]
      exact h2 k
    unfold wrkS
    split
    · have h4 : S13 Q3 (notS (up2 Q3 m 6 (Q3 m 6 - 1)) m 1) := (S13.rf.put (by omega)).tr (S13_not _ m 1 (by omega))
      split
      · have r := rel13 (n := n) (b := b) (R := notS (up2 Q3 m 6 (Q3 m 6 - 1)) m 1) (m := m) (by rw [h4.z]; omega) k
        rw [h4.z] at r
        refine ⟨by omega, fun z => ?_⟩
        rcases r with r | ⟨r, -⟩
        · rcases hk with e | ⟨e, -⟩
          · omega
          · exact absurd e z
        · exact absurd r z
      · rw [h4.z]
        exact ⟨by omega, fun z => by rcases hk with e | ⟨e, -⟩; exact e; exact absurd e z⟩
    · have h4 := S13_not Q3 m (if Q3 m 6 = 0 then 3 else 2) (by split <;> omega)
      rw [h4.z]
      exact ⟨by omega, fun z => by rcases hk with e | ⟨e, -⟩; exact e; exact absurd e z⟩
theorem trs13 {n : Nat} {b : Int32} : ∀ (j : Nat) (R : SL), (∀ k, k < j → 0 ≤ vZ R k 13 ∧ vZ R k 13 ≤ 80000) → ∀ k, vZ R k 13 ≤ vZ (trsS n b j R) k 13
  | 0, _, _, _ => Int.le_refl _
  | j + 1, R, h, k => by
    have q := fun i => tur13 (n := n) (b := b) (R := R) (m := j) (h j (by omega)) i
    have ih := trs13 (n := n) (b := b) j (turS n b R j) (fun i hi => by rw [(q i).2 (by omega)]; exact h i (by omega)) k
    exact Int.le_trans (q k).1 ih
theorem pas13 {n p : Nat} {S : SL} (hn : n ≤ 8) : ∀ (j t : Nat) (R : SL), t + j ≤ 5000 → FQ n t R → FN n R → ∀ k, vZ R k 13 ≤ vZ (pasS n p S j t R) k 13
  | 0, _, _, _, _, _, _ => Int.le_refl _
  | j + 1, t, R, hj, h, hF, k => by
    have a : vZ R k 13 ≤ vZ (ticS n (dbS S (t + 1) p) R) k 13 := by
      have g := trs13 (n := n) (b := dbS S (t + 1) p) n R (fun i hi => by
        have q := h.1 i hi
        unfold RI at q
        omega) k
      have e : vZ (ticS n (dbS S (t + 1) p) R) k 13 = vZ (trsS n (dbS S (t + 1) p) n R) k 13 := by
        unfold ticS vZ
        rw [fls_col 13 (by omega)]
      rw [e]
      exact g
    exact Int.le_trans a (pas13 hn j (t + 1) _ (by omega) (FQ_tic _ hn (by omega) h hF) (FN_tic hF _) k)
theorem out_up {n p t T : Nat} {R S : SL} (hn : n ≤ 8) (hn0 : 0 < n) (hT : t + T ≤ 5000) (h : FQ n t R) (hF : FN n R) : 0 ≤ outR n (pasS n p S T t R) - outR n R := by
  have a := pas13 (p := p) (S := S) hn T t R hT h hF (n - 1)
  have g0 := h.1 (n - 1) (by omega)
  have g1 := (FQ_pas (p := p) (S := S) hn T t R hT h hF).1 (n - 1) (by omega)
  unfold RI at g0 g1
  unfold vZ at a g0 g1
  unfold outR
  rw [if_neg (by omega), if_neg (by omega), Int32.le_iff_toInt_le, i_0, i_sub (by omega) (by omega)]
  omega
theorem md_ {a d : Nat} (ha : a < 2147483648) (hd : 0 < d) (hd2 : d < 2147483648) : nI a - nI a / nI d * nI d = nI (a % d) := by
  rw [pk_div (by omega) hd (by omega), pk_mul, pk_sub (Nat.div_mul_le_self a d)]
  congr 1
  have := Nat.div_add_mod a d
  rw [Nat.mul_comm] at this
  omega
theorem nI_ge0 {a : Nat} (h : a < 2147483648) : 0 ≤ nI a := nI_le (a := 0) (by omega) (by omega)
theorem lo_ (x : Int32) {n : Nat} (hn : 0 < n) (h2 : n < 2147483648) : ∃ r, f_L_low x (nI n) = some r := by
  unfold f_L_low
  simp only [lt_n]
  rw [nz_p (by omega), gd_n]
  exact ⟨_, rfl⟩
/-- what an act comes to -/
def AC (Ls : Nat → SL) (Hs : SL) (A : LN) (v : Nat) (B : Nat → LN) (f : Option (Int32 × (Nat → SL) × SL)) : Prop :=
  ∃ (b : Int32) (Ls' : Nat → SL) (Hs' : SL), f = some (b, Ls', Hs') ∧ ((0 ≤ b ∧ ∃ (A2 : LN) (v' : Nat) (B' : Nat → LN), SC FQ Ls' Hs' A2 v' B' ∧ NX A v B v' B' ∧ A2.1.2.1 ≤ A.1.2.1 + 90) ∨ ((b = -5000002 ∨ b = -5000003) ∧ Ls' = Ls ∧ Hs' = Hs))
section ACTS
variable {Ls : Nat → SL} {Hs : SL} {n t p v : Nat} {R S : SL} {B : Nat → LN}
theorem AC.ok {A A2 : LN} {b : Int32} {fC : Option (Sum (Int32 × (Nat → SL) × SL) Nat)} {g : Nat → Option (Int32 × (Nat → SL) × SL)} (h : C2 FQ A A2 v B b fC) (hb : 0 ≤ b) (ht : A2.1.2.1 ≤ A.1.2.1 + 90) : AC Ls Hs A v B (bd3 (fwt fC g) (fun r L H => some (r, L, H))) := by
  obtain ⟨Ls', Hs', v', B', e, s, x⟩ := h
  refine ⟨b, Ls', Hs', ?_, Or.inl ⟨hb, A2, v', B', s, x, ht⟩⟩
  rw [e, fwt_i, bd3_n]
theorem AC.no {A : LN} {b : Int32} {k : Nat} {fC : Option (Sum (Int32 × (Nat → SL) × SL) Nat)} {g : Nat → Option (Int32 × (Nat → SL) × SL)} (h : fC = some (Sum.inr k)) (hb : b = -5000002 ∨ b = -5000003) (hg : g k = some (b, Ls, Hs)) : AC Ls Hs A v B (bd3 (fwt fC g) (fun r L H => some (r, L, H))) := by
  refine ⟨b, Ls, Hs, ?_, Or.inr ⟨hb, rfl, rfl⟩⟩
  rw [h, fwt_r, hg, bd3_n]
theorem ac_run (h : SC FQ Ls Hs ((n, t, p), R, S) v B) (ht : t + 90 ≤ 5000) {T : Nat} (hT : T ≤ 90) : AC Ls Hs ((n, t, p), R, S) v B (bd3 (fw_run Ls Hs (nI T)) (fun r L H => some (r, L, H))) := by
  have hn : n ≤ 8 := h.1.1.1
  unfold fw_run
  by_cases e : n = 0
  · subst e
    exact AC.no (a_run0 h (by omega)) (Or.inl rfl) rfl
  · have hF := FQ_pas (p := p) (S := S) hn T t R (by omega) h.1.2 h.1.1.2.2.2.2.1
    exact AC.ok (a_run h (by omega) (T := T) (by omega) (by omega) hF) (out_up hn (by omega) (by omega) h.1.2 h.1.1.2.2.2.2.1) (by show t + T ≤ t + 90; omega)
theorem ac_17 (h : SC FQ Ls Hs ((n, t, p), R, S) v B) (ht : t + 90 ≤ 5000) (x : Int32) {Y : Nat} (hY : Y < 10000000) {m : Nat} (hm : m < n ∨ n = 0 ∧ m = 0) : AC Ls Hs ((n, t, p), R, S) v B (f_L_acts_b17 Ls Hs x (nI Y) (nI m)) := by
  have hn : n ≤ 8 := h.1.1.1
  have hf : FQ n t R := h.1.2
  have dv : ∀ d, 0 < d → d < 2147483648 → nI Y / nI d = nI (Y / d) := fun d h1 h2 => pk_div (by omega) h1 (by omega)
  have dl : ∀ d, Y / d ≤ Y := fun d => Nat.div_le_self _ _
  have no0 : n = 0 → ¬ ∃ q, nI m = nI q ∧ q < n := fun e => by
    rintro ⟨q, -, hq⟩
    omega
  obtain ⟨r, er⟩ := lo_ x (n := 14) (by omega) (by omega)
  unfold f_L_acts_b17
  rw [show f_L_low x 14 = some r from er, bd_n]
  simp only [lt_n]
  by_cases r0 : r = 0
  · rw [if_pos r0, show nI Y - nI Y / 9 * 9 = nI (Y % 9) from md_ (d := 9) (by omega) (by omega) (by omega), show 1 + nI (Y % 9) = nI (1 + Y % 9) from nI_add 1 _, nz_p (by omega), gd_n, show nI Y / 9 = nI (Y / 9) from dv 9 (by omega) (by omega), md_ (a := Y / 9) (d := 1 + Y % 9) (by omega) (by omega) (by omega), show 1 + nI (Y / 9 % (1 + Y % 9)) = nI (1 + Y / 9 % (1 + Y % 9)) from nI_add 1 _, show nI Y / 81 = nI (Y / 81) from dv 81 (by omega) (by omega), show nI (Y / 81) - nI (Y / 81) / 6 * 6 = nI (Y / 81 % 6) from md_ (d := 6) (by omega) (by omega) (by omega)]
    have hs : Y / 9 % (1 + Y % 9) < 1 + Y % 9 := Nat.mod_lt _ (by omega)
    have h9 : Y % 9 < 9 := Nat.mod_lt _ (by omega)
    have h6 : Y / 81 % 6 < 6 := Nat.mod_lt _ (by omega)
    generalize Y / 9 % (1 + Y % 9) = f at hs ⊢
    generalize Y % 9 = s at hs h9 ⊢
    generalize Y / 81 % 6 = c at h6 ⊢
    have g1 : cyc (nI (1 + s)) (nI (1 + f)) := ⟨⟨nI_le (a := 1) (by omega) (by omega), nI_le (b := 20) (by omega) (by omega)⟩, nI_le (a := 1) (by omega) (by omega), nI_le (by omega) (by omega)⟩
    have g2 : 0 ≤ nI c ∧ nI c ≤ 40 := ⟨nI_ge0 (by omega), nI_le (b := 40) (by omega) (by omega)⟩
    unfold fw_addMachine
    rcases a_add h g1 g2 (fun h8 h0 => by
      subst h0
      exact FQ_join hf (by rw [nI_toInt (by omega), nI_toInt (by omega)]; omega)) with ⟨h8, h0, q⟩ | q
    · exact AC.ok q (nI_ge0 (by omega)) (by show t ≤ t + 90; omega)
    · exact AC.no q (Or.inl rfl) rfl
  · rw [if_neg r0]
    by_cases r1 : r = 1
    · rw [if_pos r1, show nI Y / 8 = nI (Y / 8) from dv 8 (by omega) (by omega), show nI (Y / 8) - nI (Y / 8) / 9 * 9 = nI (Y / 8 % 9) from md_ (d := 9) (by have := dl 8; omega) (by omega) (by omega), show 1 + nI (Y / 8 % 9) = nI (1 + Y / 8 % 9) from nI_add 1 _, show nI Y / 72 = nI (Y / 72) from dv 72 (by omega) (by omega), show nI (Y / 72) - nI (Y / 72) / 9 * 9 = nI (Y / 72 % 9) from md_ (d := 9) (by have := dl 72; omega) (by omega) (by omega), show nI Y / 648 = nI (Y / 648) from dv 648 (by omega) (by omega), nz_p (by omega), gd_n, md_ (a := Y / 648) (d := 1 + Y / 8 % 9) (by have := dl 648; omega) (by omega) (by omega), show 1 + nI (Y / 648 % (1 + Y / 8 % 9)) = nI (1 + Y / 648 % (1 + Y / 8 % 9)) from nI_add 1 _, show nI Y / 5000 = nI (Y / 5000) from dv 5000 (by omega) (by omega), show nI (Y / 72 % 9) + 1 = nI (Y / 72 % 9 + 1) from nI_add _ 1, nz_p (by omega), gd_n, md_ (a := Y / 5000) (d := Y / 72 % 9 + 1) (by have := dl 5000; omega) (by omega) (by omega)]
      have h1 : Y / 648 % (1 + Y / 8 % 9) < 1 + Y / 8 % 9 := Nat.mod_lt _ (by omega)
      have h2 : Y / 5000 % (Y / 72 % 9 + 1) < Y / 72 % 9 + 1 := Nat.mod_lt _ (by omega)
      have h3 : Y / 8 % 9 < 9 := Nat.mod_lt _ (by omega)
      have h4 : Y / 72 % 9 < 9 := Nat.mod_lt _ (by omega)
      generalize Y / 648 % (1 + Y / 8 % 9) = f at h1 ⊢
      generalize Y / 5000 % (Y / 72 % 9 + 1) = lo at h2 ⊢
      generalize Y / 8 % 9 = s at h1 h3 ⊢
      generalize Y / 72 % 9 = hi at h2 h4 ⊢
      unfold fw_setMachine
      rcases hm with hm | ⟨e, -⟩
      · have g1 : cyc (nI (1 + s)) (nI (1 + f)) := ⟨⟨nI_le (a := 1) (by omega) (by omega), nI_le (b := 20) (by omega) (by omega)⟩, nI_le (a := 1) (by omega) (by omega), nI_le (by omega) (by omega)⟩
        have hF : FQ n t (up2 (up2 (up2 (up2 R m 0 (nI (1 + s))) m 1 (nI (1 + f))) m 2 (nI lo)) m 3 (nI hi)) := by
          refine FQ_set hf (fun k q hq => by rw [up2_q (by omega), up2_q (by omega), up2_q (by omega), up2_q (by omega)]) (fun k hk => ?_)
          have c := hf.cyc k hk
          rw [vZ_up, vZ_up, vZ_up, vZ_up, vZ_up, vZ_up, vZ_up, vZ_up]
          by_cases e : k = m
          · subst e
            simp only [true_and, Nat.reduceEqDiff, if_true, if_false]
            rw [nI_toInt (by omega), nI_toInt (by omega)]
            omega
          · simp only [e, false_and, if_false]
            exact c
        have c := hf.cyc m hm
        exact AC.ok (a_set h hm g1 ⟨nI_ge0 (by omega), nI_le (b := 40) (by omega) (by omega)⟩ ⟨nI_ge0 (by omega), nI_le (by omega) (by omega)⟩ hF) (by
          rw [Int32.le_iff_toInt_le, i_0]
          unfold vZ at c
          omega) (by show t ≤ t + 90; omega)
      · exact AC.no (a_setR h (no0 e)) (Or.inr rfl) rfl
    · rw [if_neg r1]
      by_cases r2 : r = 2
      · rw [if_pos r2, show nI Y / 8 = nI (Y / 8) from dv 8 (by omega) (by omega), show nI (Y / 8) - nI (Y / 8) / 9 * 9 = nI (Y / 8 % 9) from md_ (d := 9) (by have := dl 8; omega) (by omega) (by omega)]
        have h3 : Y / 8 % 9 < 9 := Nat.mod_lt _ (by omega)
        generalize Y / 8 % 9 = s at h3 ⊢
        unfold fw_setCapacity
        rcases hm with hm | ⟨e, -⟩
        · have hF : FQ n t (up2 R m 4 (nI s)) := by
            refine FQ_set hf (fun k q hq => by rw [up2_q (by omega)]) (fun k hk => ?_)
            have c := hf.cyc k hk
            rw [vZ_up, vZ_up, if_neg (by omega), if_neg (by omega)]
            exact c
          have w : 0 ≤ (R m 4).toInt := (h.1.1.2.2.2.1 m hm).2.2.2.1
          exact AC.ok (a_cap h hm ⟨nI_ge0 (by omega), nI_le (b := 40) (by omega) (by omega)⟩ hF) (by rw [Int32.le_iff_toInt_le, i_0]; exact w) (by show t ≤ t + 90; omega)
        · exact AC.no (a_capR h (no0 e)) (Or.inr rfl) rfl
      · rw [if_neg r2]
        by_cases r3 : r = 3
        · rw [if_pos r3, r_now h, bd_n, show nI t + 1 = nI (t + 1) from nI_add t 1, show nI Y / 8 = nI (Y / 8) from dv 8 (by omega) (by omega), show nI (Y / 8) - nI (Y / 8) / 50 * 50 = nI (Y / 8 % 50) from md_ (d := 50) (by have := dl 8; omega) (by omega) (by omega), nI_add, show nI Y / 400 = nI (Y / 400) from dv 400 (by omega) (by omega), show nI (Y / 400) - nI (Y / 400) / 30 * 30 = nI (Y / 400 % 30) from md_ (d := 30) (by have := dl 400; omega) (by omega) (by omega), show 1 + nI (Y / 400 % 30) = nI (1 + Y / 400 % 30) from nI_add 1 _]
          have h3 : Y / 8 % 50 < 50 := Nat.mod_lt _ (by omega)
          have h4 : Y / 400 % 30 < 30 := Nat.mod_lt _ (by omega)
          generalize Y / 8 % 50 = s at h3 ⊢
          generalize Y / 400 % 30 = u at h4 ⊢
          unfold fw_addStop
          rcases hm with hm | ⟨e, -⟩
          · rcases a_stp h hm (x2 := nI (t + 1 + s)) (x3 := nI (1 + u)) ⟨nI_le (by omega) (by omega), nI_le (b := 10000) (by omega) (by omega)⟩ ⟨nI_le (a := 1) (by omega) (by omega), nI_le (b := 200) (by omega) (by omega)⟩ with ⟨hp, q⟩ | q
            · exact AC.ok q (nI_ge0 (by omega)) (by show t ≤ t + 90; omega)
            · exact AC.no q (Or.inl rfl) rfl
          · exact AC.no (a_stpR h (no0 e)) (Or.inr rfl) rfl
        · rw [if_neg r3]
          by_cases r4 : r = 4
          · rw [if_pos r4, show nI Y - nI Y / 1000000 * 1000000 = nI (Y % 1000000) from md_ (d := 1000000) (by omega) (by omega) (by omega), show nI Y - nI Y / 60 * 60 = nI (Y % 60) from md_ (d := 60) (by omega) (by omega) (by omega), show 1 + nI (Y % 60) = nI (1 + Y % 60) from nI_add 1 _, show nI Y - nI Y / 17 * 17 = nI (Y % 17) from md_ (d := 17) (by omega) (by omega) (by omega), show 1 + nI (Y % 17) = nI (1 + Y % 17) from nI_add 1 _, show nI Y - nI Y / 5 * 5 = nI (Y % 5) from md_ (d := 5) (by omega) (by omega) (by omega), show 1 + nI (Y % 5) = nI (1 + Y % 5) from nI_add 1 _]
            have h1 : Y % 1000000 < 1000000 := Nat.mod_lt _ (by omega)
            have h2 : Y % 60 < 60 := Nat.mod_lt _ (by omega)
            have h3 : Y % 17 < 17 := Nat.mod_lt _ (by omega)
            have h4 : Y % 5 < 5 := Nat.mod_lt _ (by omega)
            generalize Y % 1000000 = a1 at h1 ⊢
            generalize Y % 60 = a2 at h2 ⊢
            generalize Y % 17 = a3 at h3 ⊢
            generalize Y % 5 = a4 at h4 ⊢
            unfold fw_addRandomStops
            rcases hm with hm | ⟨e, -⟩
            · rcases a_rnd h hm (x2 := nI a1) (x3 := nI (1 + a2)) (x4 := nI (1 + a3)) (x5 := nI (1 + a4)) ⟨nI_ge0 (by omega), nI_le (b := 999999) (by omega) (by omega)⟩ ⟨nI_le (a := 1) (by omega) (by omega), nI_le (b := 500) (by omega) (by omega)⟩ ⟨nI_le (a := 1) (by omega) (by omega), nI_le (b := 100) (by omega) (by omega)⟩ ⟨nI_le (a := 1) (by omega) (by omega), nI_le (b := 40) (by omega) (by omega)⟩ with ⟨p', S', q, hp⟩ | q
              · exact AC.ok q (nI_ge0 (by omega)) (by show t ≤ t + 90; omega)
              · exact AC.no q (Or.inl rfl) rfl
            · exact AC.no (a_rndR h (no0 e)) (Or.inr rfl) rfl
          · rw [if_neg r4]
            by_cases r5 : r = 5
            · rw [if_pos r5]
              obtain ⟨Ls', Hs', v', B', q, e, hq, s, nx⟩ := a_clr h
              rw [e, bd3_n]
              exact ⟨_, Ls', Hs', rfl, Or.inl ⟨nI_ge0 (by omega), _, v', B', s, nx, by show t ≤ t + 90; omega⟩⟩
            · rw [if_neg r5]
              by_cases r6 : r = 6
              · rw [if_pos r6, show nI Y - nI Y / 3 * 3 = nI (Y % 3) from md_ (d := 3) (by omega) (by omega) (by omega)]
                have h3 : Y % 3 < 3 := Nat.mod_lt _ (by omega)
                by_cases e : Y % 3 = 0
                · rw [if_neg (show ¬ ¬ nI (Y % 3) = 0 from fun z => z (by rw [e]; rfl))]
                  obtain ⟨Ls', Hs', v', B', e2, s, nx⟩ := a_rst h (FQ_rst hf)
                  rw [e2, bd3_n]
                  exact ⟨_, Ls', Hs', rfl, Or.inl ⟨nI_ge0 (by omega), _, v', B', s, nx, by show 0 ≤ t + 90; omega⟩⟩
                · rw [if_pos (show ¬ nI (Y % 3) = 0 from fun z => e ((nI_eq (a := Y % 3) (b := 0) (by omega) (by omega)).mp z))]
                  exact ac_run h ht (by omega)
              · rw [if_neg r6, show nI Y - nI Y / 5 * 5 = nI (Y % 5) from md_ (d := 5) (by omega) (by omega) (by omega), show nI Y / 5 = nI (Y / 5) from dv 5 (by omega) (by omega), show nI (Y / 5) - nI (Y / 5) / 7 * 7 = nI (Y / 5 % 7) from md_ (d := 7) (by have := dl 5; omega) (by omega) (by omega), show nI (Y / 5) - nI (Y / 5) / 90 * 90 = nI (Y / 5 % 90) from md_ (d := 90) (by have := dl 5; omega) (by omega) (by omega)]
                have h7 : Y / 5 % 7 < 7 := Nat.mod_lt _ (by omega)
                have h9 : Y / 5 % 90 < 90 := Nat.mod_lt _ (by omega)
                unfold f_L_acts_b271
                split
                · exact ac_run h ht (by omega)
                · exact ac_run h ht (by omega)
theorem ac_all {A : LN} (h : SC FQ Ls Hs A v B) (ht : A.1.2.1 + 90 ≤ 5000) (x : Int32) {Y : Nat} (hY : Y < 10000000) : AC Ls Hs A v B (f_L_acts Ls Hs x (nI Y)) := by
  obtain ⟨⟨n, t, p⟩, R, S⟩ := A
  have hn : n ≤ 8 := h.1.1.1
  unfold f_L_acts
  simp only [lt_n]
  rw [r_size0 h, bd_n]
  by_cases e : n = 0
  · subst e
    rw [if_neg (fun z => z rfl)]
    exact ac_17 h ht x hY (m := 0) (Or.inr ⟨rfl, rfl⟩)
  · rw [if_pos (show ¬ nI n = 0 from fun z => e ((nI_eq (a := n) (b := 0) (by omega) (by omega)).mp z)), nz_p (by omega), gd_n, md_ (by omega) (by omega) (by omega)]
    exact ac_17 h ht x hY (Or.inl (Nat.mod_lt _ (by omega)))
end ACTS
