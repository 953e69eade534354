/-! THE MEANING, 16: the ticks at which a machine is up -/
def upN (S : SL) (p m : Nat) : Nat → Nat
  | 0 => 0
  | k + 1 => upN S p m k + if isD (dbS S (k + 1) p) m then 0 else 1
theorem upN_le (S : SL) (p m : Nat) : ∀ k, upN S p m k ≤ k
  | 0 => Nat.le_refl 0
  | k + 1 => by
    have := upN_le S p m k
    show upN S p m k + (if isD (dbS S (k + 1) p) m then 0 else 1) ≤ k + 1
    split <;> omega
theorem up_run (S : SL) (p m : Nat) (a : Nat) (D : Int32) : ∀ d, (∀ u, a < u → u ≤ a + d → dbS S u p = D) → upN S p m (a + d) = upN S p m a + if isD D m then 0 else d
  | 0, _ => by split <;> rfl
  | d + 1, h => by
    have ih := up_run S p m a D d (fun u h1 h2 => h u h1 (by omega))
    show upN S p m (a + d) + (if isD (dbS S (a + d + 1) p) m then 0 else 1) = _
    rw [ih, h (a + d + 1) (by omega) (by omega)]
    by_cases g : isD D m
    · rw [if_pos g, if_pos g, if_pos g]
    · rw [if_neg g, if_neg g, if_neg g]
      omega
/-- changes still ahead -/
def cnt (S : SL) (u : Nat) : Nat → Nat
  | 0 => 0
  | k + 1 => cnt S u k + (if nI u < S k 1 then 1 else 0) + if nI u < S k 1 + S k 2 then 1 else 0
theorem cnt_top (S : SL) (u : Nat) : ∀ k, cnt S u k ≤ 2 * k
  | 0 => Nat.le_refl 0
  | k + 1 => by
    have := cnt_top S u k
    show cnt S u k + (if nI u < S k 1 then 1 else 0) + (if nI u < S k 1 + S k 2 then 1 else 0) ≤ 2 * (k + 1)
    split <;> split <;> omega
theorem i_lelt {a b c : Int32} (h : a ≤ b) (h2 : b < c) : a < c := by
  rw [Int32.lt_iff_toInt_lt] at h2 ⊢; rw [Int32.le_iff_toInt_le] at h; omega
theorem cnt_mono (S : SL) {u w : Nat} (h : u ≤ w) (hw : w < 2147483648) : ∀ k, cnt S w k ≤ cnt S u k
  | 0 => Nat.le_refl 0
  | k + 1 => by
    have ih := cnt_mono S h hw k
    have hl : nI u ≤ nI w := nI_le h hw
    show cnt S w k + (if nI w < S k 1 then 1 else 0) + (if nI w < S k 1 + S k 2 then 1 else 0) ≤ cnt S u k + (if nI u < S k 1 then 1 else 0) + (if nI u < S k 1 + S k 2 then 1 else 0)
    have a1 : (if nI w < S k 1 then 1 else 0) ≤ (if nI u < S k 1 then 1 else 0 : Nat) := by
      by_cases g : nI w < S k 1
      · rw [if_pos g, if_pos (i_lelt hl g)]; exact Nat.le_refl 1
      · rw [if_neg g]; exact Nat.zero_le _
    have a2 : (if nI w < S k 1 + S k 2 then 1 else 0) ≤ (if nI u < S k 1 + S k 2 then 1 else 0 : Nat) := by
      by_cases g : nI w < S k 1 + S k 2
      · rw [if_pos g, if_pos (i_lelt hl g)]; exact Nat.le_refl 1
      · rw [if_neg g]; exact Nat.zero_le _
    omega
theorem i_ltt {a b c : Int32} (h : a < b) (h2 : b < c) : a < c := by
  rw [Int32.lt_iff_toInt_lt] at h h2 ⊢; omega
theorem i_nn (x : Int32) : ¬ x < x := by
  rw [Int32.lt_iff_toInt_lt]; omega
theorem cnt_lt (S : SL) {u w : Nat} (h : u ≤ w) (hw : w < 1000000) : ∀ k, chS S u k = nI w → cnt S w k < cnt S u k
  | 0, e => by
    have e2 : (1000000 : Int32) = nI w := e
    have := congrArg Int32.toInt e2
    rw [nI_toInt (by omega)] at this
    have z : (1000000 : Int32).toInt = 1000000 := rfl
    omega
  | k + 1, e => by
    have hl : nI u ≤ nI w := nI_le h (by omega)
    have mo := cnt_mono S h (by omega) k
    show cnt S w k + (if nI w < S k 1 then 1 else 0) + (if nI w < S k 1 + S k 2 then 1 else 0) < cnt S u k + (if nI u < S k 1 then 1 else 0) + (if nI u < S k 1 + S k 2 then 1 else 0)
    have a1 : (if nI w < S k 1 then 1 else 0) ≤ (if nI u < S k 1 then 1 else 0 : Nat) := by
      by_cases g : nI w < S k 1
      · rw [if_pos g, if_pos (i_lelt hl g)]; exact Nat.le_refl 1
      · rw [if_neg g]; exact Nat.zero_le _
    have a2 : (if nI w < S k 1 + S k 2 then 1 else 0) ≤ (if nI u < S k 1 + S k 2 then 1 else 0 : Nat) := by
      by_cases g : nI w < S k 1 + S k 2
      · rw [if_pos g, if_pos (i_lelt hl g)]; exact Nat.le_refl 1
      · rw [if_neg g]; exact Nat.zero_le _
    have e' : (if S k 1 ≤ nI u then (if S k 1 + S k 2 ≤ nI u then chS S u k else if S k 1 + S k 2 < chS S u k then S k 1 + S k 2 else chS S u k) else if S k 1 < chS S u k then S k 1 else chS S u k) = nI w := e
    by_cases g1 : S k 1 ≤ nI u
    · rw [if_pos g1] at e'
      by_cases g2 : S k 1 + S k 2 ≤ nI u
      · rw [if_pos g2] at e'
        have := cnt_lt S h hw k e'
        omega
      · rw [if_neg g2] at e'
        by_cases g3 : S k 1 + S k 2 < chS S u k
        · rw [if_pos g3] at e'
          have b1 : (if nI w < S k 1 + S k 2 then 1 else 0 : Nat) = 0 := if_neg (by rw [e']; exact i_nn _)
          have b2 : (if nI u < S k 1 + S k 2 then 1 else 0 : Nat) = 1 := if_pos (i_lt g2)
          omega
        · rw [if_neg g3] at e'
          have := cnt_lt S h hw k e'
          omega
    · rw [if_neg g1] at e'
      by_cases g3 : S k 1 < chS S u k
      · rw [if_pos g3] at e'
        have b1 : (if nI w < S k 1 then 1 else 0 : Nat) = 0 := if_neg (by rw [e']; exact i_nn _)
        have b2 : (if nI u < S k 1 then 1 else 0 : Nat) = 1 := if_pos (i_lt g1)
        omega
      · rw [if_neg g3] at e'
        have := cnt_lt S h hw k e'
        omega
theorem ch_gt (S : SL) {u : Nat} (hu : u < 1000000) : ∀ k, nI u < chS S u k
  | 0 => by
    show nI u < 1000000
    rw [Int32.lt_iff_toInt_lt, nI_toInt (by omega)]
    have z : (1000000 : Int32).toInt = 1000000 := rfl
    omega
  | k + 1 => by
    have ih := ch_gt S hu k
    show nI u < (if S k 1 ≤ nI u then (if S k 1 + S k 2 ≤ nI u then chS S u k else if S k 1 + S k 2 < chS S u k then S k 1 + S k 2 else chS S u k) else if S k 1 < chS S u k then S k 1 else chS S u k)
    by_cases g1 : S k 1 ≤ nI u
    · rw [if_pos g1]
      by_cases g2 : S k 1 + S k 2 ≤ nI u
      · rw [if_pos g2]; exact ih
      · rw [if_neg g2]
        by_cases g3 : S k 1 + S k 2 < chS S u k
        · rw [if_pos g3]; exact i_lt g2
        · rw [if_neg g3]; exact ih
    · rw [if_neg g1]
      by_cases g3 : S k 1 < chS S u k
      · rw [if_pos g3]; exact i_lt g1
      · rw [if_neg g3]; exact ih
/-- a line but for its latest look -/
def KD (L L' : SL) : Prop := ∀ k j, ¬ (k = 10 ∧ j = 4) → L' k j = L k j
theorem KD.tr {A B C : SL} (h : KD A B) (h2 : KD B C) : KD A C := fun k j g => (h2 k j g).trans (h k j g)
theorem KD.rf {L : SL} : KD L L := fun _ _ _ => rfl
theorem KD.cl {n t p : Nat} {L L' R S : SL} (h : CL n t p L R S) (k : KD L L') (hn : n ≤ 8) : CL n t p L' R S :=
  ⟨(k 0 2 (by omega)).trans h.1, (k 0 3 (by omega)).trans h.2.1, (k 10 3 (by omega)).trans h.2.2.1, fun m c hm hc => (k _ _ (by omega)).trans (h.2.2.2.1 m c hm hc), fun q hq => ⟨(k _ _ (by omega)).trans (h.2.2.2.2 q hq).1, (k _ _ (by omega)).trans (h.2.2.2.2 q hq).2.1, (k _ _ (by omega)).trans (h.2.2.2.2 q hq).2.2⟩⟩
theorem c_upL {n t p m T : Nat} {R S : SL} (hn : n ≤ 8) (hp : p ≤ 40) (hT : T ≤ 10000) : ∀ (d a k f : Nat) (L : SL), T + 1 - a ≤ d → d < f → 1 ≤ a → a ≤ T + 1 → (a ≤ T → cnt S a p + k ≤ 80) → k ≤ 81 → CL n t p L R S → ∃ L', f_X2_upTicks_h8 f L (nI m) (nI T) (nI (upN S p m (a - 1))) (nI a) (nI k) = some (nI (upN S p m T), L') ∧ KD L L' := by
  intro d
  induction d with
  | zero =>
    intro a k f L hd hf ha1 ha hk hk81 hC
    obtain ⟨f', rfl⟩ : ∃ f', f = f' + 1 := ⟨f - 1, by omega⟩
    obtain rfl : a = T + 1 := by omega
    refine ⟨L, ?_, fun _ _ _ => rfl⟩
    show f_X2_upTicks_b8 _ L _ _ _ _ _ = _
    unfold f_X2_upTicks_b8
    by_cases g : (80 : Int32) < nI k
    · rw [if_pos g, Nat.add_sub_cancel]
    · rw [if_neg g, if_pos (nI_lt (by omega) (by omega)), Nat.add_sub_cancel]
  | succ d ih =>
    intro a k f L hd hf ha1 ha hk hk81 hC
    obtain ⟨f', rfl⟩ : ∃ f', f = f' + 1 := ⟨f - 1, by omega⟩
    by_cases hat : a = T + 1
    · subst hat
      refine ⟨L, ?_, fun _ _ _ => rfl⟩
      show f_X2_upTicks_b8 _ L _ _ _ _ _ = _
      unfold f_X2_upTicks_b8
      by_cases g : (80 : Int32) < nI k
      · rw [if_pos g, Nat.add_sub_cancel]
      · rw [if_neg g, if_pos (nI_lt (by omega) (by omega)), Nat.add_sub_cancel]
    · have hk' := hk (by omega)
      have hup := upN_le S p m (a - 1)
      have hgt := ch_gt S (u := a) (by omega) p
      have kd : KD L (up2 L 10 4 (dbS S a p)) := fun q j g => up2_q g
      have stay : ∀ u, a ≤ u → u < 2147483648 → nI u < chS S a p → dbS S u p = dbS S a p := fun u h1 h2 h3 => look_stay S h1 h2 p h3
      obtain ⟨C, hC1, hC2, eC, hcn, hlt⟩ : ∃ C, a < C ∧ C ≤ T + 1 ∧ (if nI (T + 1) < chS S a p then nI (T + 1) else chS S a p) = nI C ∧ (C ≤ T → cnt S C p + (k + 1) ≤ 80) ∧ ∀ u, u < C → nI u < chS S a p := by
        by_cases g : nI (T + 1) < chS S a p
        · exact ⟨T + 1, by omega, Nat.le_refl _, by rw [if_pos g], fun z => absurd z (by omega), fun u hu => i_ltt (nI_lt hu (by omega)) g⟩
        · have h0 : ¬ chS S a p < 0 := fun z => by
            have q := hgt
            rw [Int32.lt_iff_toInt_lt, nI_toInt (by omega)] at q
            rw [Int32.lt_iff_toInt_lt, i_0] at z
            omega
          obtain ⟨u, hu, e⟩ := nI_of h0
          have q1 : a < u := (nI_ltI (by omega) hu).mp (by rw [← e]; exact hgt)
          have q2 : u ≤ T + 1 := (nI_leI hu (by omega)).mp (by rw [← e]; exact i_le g)
          have q3 := cnt_lt S (u := a) (w := u) (by omega) (by omega) p e
          exact ⟨u, q1, q2, by rw [if_neg g, e], fun z => by omega, fun x hx => by rw [e]; exact nI_lt hx hu⟩
      have er := up_run S p m (a - 1) (dbS S a p) (C - a) (fun u h1 h2 => stay u (by omega) (by omega) (hlt u (by omega)))
      rw [show a - 1 + (C - a) = C - 1 by omega] at er
      show ∃ L', f_X2_upTicks_b8 _ L _ _ _ _ _ = _ ∧ _
      unfold f_X2_upTicks_b8 f_X2_upTicks_b57
      simp only [lt_n]
      rw [if_neg (show ¬ (80 : Int32) < nI k from i_nlt (nI_le (a := k) (b := 80) (by omega) (by omega))), if_neg (show ¬ nI T < nI a from i_nlt (nI_le (by omega) (by omega))), c_look hp hC.2.2.1 hC.2.2.2.2, bd2_n, nI_1, eC, c_isD, bd_n, up2_s, nI_1]
      by_cases g : isD (dbS S a p) m
      · rw [if_pos g, if_pos (show ¬ (1 : Int32) = 0 by decide)]
        rw [if_pos g, Nat.add_zero] at er
        obtain ⟨L2, e2, k2⟩ := ih C (k + 1) f' (up2 L 10 4 (dbS S a p)) (by omega) (by omega) (by omega) hC2 hcn (by omega) (KD.cl hC kd hn)
        rw [er] at e2
        exact ⟨L2, e2, kd.tr k2⟩
      · rw [if_neg g, if_neg (show ¬ ¬ (0 : Int32) = 0 from fun z => z rfl), pk_sub (by omega), nI_add]
        rw [if_neg g] at er
        obtain ⟨L2, e2, k2⟩ := ih C (k + 1) f' (up2 L 10 4 (dbS S a p)) (by omega) (by omega) (by omega) hC2 hcn (by omega) (KD.cl hC kd hn)
        rw [er] at e2
        exact ⟨L2, e2, kd.tr k2⟩
theorem c_up {n t p m T : Nat} {L R S : SL} (hn : n ≤ 8) (hp : p ≤ 40) (hT : T ≤ 10000) (hC : CL n t p L R S) : ∃ L', f_X2_upTicks L (nI m) (nI T) = some (nI (upN S p m T), L') ∧ KD L L' := by
  unfold f_X2_upTicks
  have hc := cnt_top S 1 p
  exact c_upL hn hp hT T 1 0 fuel L (by omega) (by unfold fuel; omega) (by omega) (by omega) (fun _ => by omega) (by omega) hC
/-- what a machine could make in T ticks -/
def mstS (S R : SL) (p T m : Nat) : Int32 := nI (upN S p m T) / R m 1
theorem c_mst {n t p m T : Nat} {L R S : SL} (hW : WF ((n, t, p), R, S)) (hm : m < n) (hT : T ≤ 10000) (hC : CL n t p L R S) : ∃ L', f_X2_mostBottles L (nI m) (nI T) = some (mstS S R p T m, L') ∧ KD L L' := by
  have hn : n ≤ 8 := hW.1
  have hw := hW.2.2.2.1 m hm
  have h1 : 1 ≤ R m 1 := by
    rw [Int32.le_iff_toInt_le, i_1]
    exact hw.1
  have hz : nz (R m 1) = true := decide_eq_true (fun z => by
    rw [z] at h1
    exact absurd h1 (by decide))
  obtain ⟨L', e, k⟩ := c_up (m := m) hn hW.2.2.1 hT hC
  refine ⟨L', ?_, k⟩
  unfold f_X2_mostBottles
  simp only [lt_n]
  rw [n_chk (by omega) (by omega), gd_n, nI_clamp (by omega), hC.2.2.2.1 m 1 hm (by omega), if_pos h1, e, bd2_n, hz, gd_n]
  rfl
