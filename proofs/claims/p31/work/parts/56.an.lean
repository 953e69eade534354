/-! THE MEANING, 30: a line that begins anew; what is refused; what the law does -/
theorem slw_min (S R : SL) (p T : Nat) : ∀ (k m : Nat), m ≤ k → mstS S R p T (slwS S R p T k) ≤ mstS S R p T m
  | 0, m, h => by
    rw [show m = 0 by omega]
    exact i_le (i_nn _)
  | k + 1, m, h => by
    show mstS S R p T (if mstS S R p T (slwS S R p T k) ≤ mstS S R p T (k + 1) then slwS S R p T k else k + 1) ≤ mstS S R p T m
    by_cases g : mstS S R p T (slwS S R p T k) ≤ mstS S R p T (k + 1)
    · rw [if_pos g]
      by_cases e : m = k + 1
      · rw [e]; exact g
      · exact slw_min S R p T k m (by omega)
    · rw [if_neg g]
      by_cases e : m = k + 1
      · rw [e]; exact i_le (i_nn _)
      · exact i_lele (i_ltw (i_lt g)) (slw_min S R p T k m (by omega))
/-- a machine's most, as a number -/
theorem mst_val {n t p T m : Nat} {R S : SL} (hW : WF ((n, t, p), R, S)) (hm : m < n) (hT : T ≤ 10000) : ∃ w : Nat, R m 1 = nI w ∧ 1 ≤ w ∧ w ≤ 20 ∧ mstS S R p T m = nI (upN S p m T / w) := by
  have hw : 1 ≤ (R m 1).toInt ∧ (R m 1).toInt ≤ (R m 0).toInt ∧ (R m 0).toInt ≤ 20 ∧ 0 ≤ (R m 4).toInt ∧ (R m 4).toInt ≤ 40 := hW.2.2.2.1 m hm
  have hup := upN_le S p m T
  obtain ⟨w, hw3⟩ : ∃ w : Nat, R m 1 = nI w ∧ 1 ≤ w ∧ w ≤ 20 := by
    refine ⟨(R m 1).toInt.toNat, Int32.toInt_inj.mp ?_, by omega, by omega⟩
    rw [nI_toInt (by omega)]
    omega
  obtain ⟨e, w1, w2⟩ := hw3
  refine ⟨w, e, w1, w2, ?_⟩
  unfold mstS
  rw [e, pk_div (by omega) (by omega) (by omega)]
theorem upN_up (S : SL) (p m T : Nat) : upN S p m T ≤ upN S p m (T + 1) := Nat.le_add_right _ _
theorem mst_up {n t p T m : Nat} {R S : SL} (hW : WF ((n, t, p), R, S)) (hm : m < n) (hT : T + 1 ≤ 10000) : mstS S R p T m ≤ mstS S R p (T + 1) m := by
  obtain ⟨w, e, w1, w2, e1⟩ := mst_val hW hm (show T ≤ 10000 by omega)
  obtain ⟨w', e', w1', w2', e2⟩ := mst_val hW hm hT
  have hww : w = w' := (nI_eq (a := w) (b := w') (by omega) (by omega)).mp (e.symm.trans e')
  subst hww
  have h1 := upN_up S p m T
  have h2 := upN_le S p m (T + 1)
  have h3 : upN S p m (T + 1) / w ≤ upN S p m (T + 1) := Nat.div_le_self _ _
  rw [e1, e2]
  exact nI_le (Nat.div_le_div_right h1) (by omega)
theorem bnd_up {n t p T : Nat} {R S : SL} (hW : WF ((n, t, p), R, S)) (hn0 : 0 < n) (hT : T + 1 ≤ 10000) : mstS S R p T (slwS S R p T (n - 1)) ≤ mstS S R p (T + 1) (slwS S R p (T + 1) (n - 1)) := by
  have hl := slw_le S R p (T + 1) (n - 1)
  exact i_lele (slw_min S R p T (n - 1) (slwS S R p (T + 1) (n - 1)) (by omega)) (mst_up hW (by omega) hT)
/-- the last machine's buffer is of no use -/
theorem tic_lastc {n : Nat} {b : Int32} {R : SL} {m : Nat} (hl : ¬ m + 1 < n) (c : Int32) : ticS n b (up2 R m 4 c) = up2 (ticS n b R) m 4 c := by
  have lo : ∀ x : Int32, (-2147483648 : Int32) ≤ x := fun x => by
    rw [Int32.le_iff_toInt_le]
    have := Int32.le_toInt x
    have q : (-2147483648 : Int32).toInt = -2147483648 := by decide
    omega
  have e : ∀ d : Int32, ticS n b (up2 (up2 R m 4 (-2147483648)) m 4 d) = up2 (ticS n b (up2 R m 4 (-2147483648))) m 4 d := fun d => U_tic n b (up2 R m 4 (-2147483648)) m d (by rw [up2_s]; exact lo d) (fun z => absurd z hl)
  have e1 := e c
  have e2 := e (R m 4)
  rw [up2_up2] at e1 e2
  have e3 : up2 R m 4 (R m 4) = R := by
    funext k q
    rw [up2_ap]
    by_cases g : k = m ∧ q = 4
    · rw [if_pos g, g.1, g.2]
    · rw [if_neg g]
  rw [e3] at e2
  rw [e1, e2, up2_up2]
theorem pas_lastc {n p : Nat} {S : SL} {m : Nat} (hl : ¬ m + 1 < n) (c : Int32) : ∀ (j t : Nat) (R : SL), pasS n p S j t (up2 R m 4 c) = up2 (pasS n p S j t R) m 4 c
  | 0, _, _ => rfl
  | j + 1, t, R => by
    show pasS n p S j (t + 1) (ticS n _ (up2 R m 4 c)) = up2 (pasS n p S j (t + 1) (ticS n _ R)) m 4 c
    rw [tic_lastc hl]
    exact pas_lastc hl c j (t + 1) _
/-- what the line makes in T ticks -/
def mdT (n p : Nat) (R S : SL) (T : Nat) : Int32 := outR n (pasS n p S T 0 (allS n R))
theorem md_last {n p : Nat} {R S : SL} {T : Nat} (hn0 : 0 < n) (c : Int32) : mdW n p R S (n - 1) c T = mdT n p R S T := by
  unfold mdW mdT rowW outR
  rw [if_neg (by omega), if_neg (by omega), all_up, pas_lastc (by omega), up2_q (by omega)]
theorem md_own {n p : Nat} {R S : SL} {T m : Nat} : mdW n p R S m (R m 4) T = mdT n p R S T := by
  unfold mdW mdT rowW
  have e3 : up2 R m 4 (R m 4) = R := by
    funext k q
    rw [up2_ap]
    by_cases g : k = m ∧ q = 4
    · rw [if_pos g, g.1, g.2]
    · rw [if_neg g]
  rw [e3]
theorem all_z {n : Nat} {R : SL} : outR n (allS n R) = 0 := by
  unfold outR
  by_cases e : n = 0
  · rw [if_pos e]
  · rw [if_neg e]
    unfold allS
    rw [if_pos (by omega)]
    rfl
theorem ins_z {n : Nat} {R : SL} : ∀ k, k ≤ n → insS (allS n R) k = 0
  | 0, _ => rfl
  | k + 1, h => by
    have a5 : allS n R k 5 = 0 := (if_pos ⟨by omega, by omega, by omega⟩).trans rfl
    have a6 : allS n R k 6 = -1 := (if_pos ⟨by omega, by omega, by omega⟩).trans rfl
    show insS (allS n R) k + (allS n R k 5 + if allS n R k 6 = -1 then 0 else 1) = 0
    rw [ins_z k (by omega), a5, a6, if_pos rfl]
    rfl
theorem md_nn {n t p T : Nat} {R S : SL} (hW : WF ((n, t, p), R, S)) (hn0 : 0 < n) (hT : T ≤ 2000) : 0 ≤ mdT n p R S T := by
  have h0 := INV_pas (p := p) (S := S) hW.1 T 0 _ (by omega) (INV_all (m := 0) (c := R 0 4) hW)
  rw [← md_own (m := 0)]
  have g := (h0.1 (n - 1) (show n - 1 < n by omega)).2.2.2.2.2.1
  rw [Int32.le_iff_toInt_le, i_0]
  unfold mdW rowW outR
  rw [if_neg (by omega)]
  exact g
theorem lg_self (x : Int64) : lg_cmp x x = 0 := by
  unfold lg_cmp
  rw [if_neg (fun z => Int64.lt_irrefl z), if_pos rfl]
theorem bd3_n {α β γ δ : Type} (a : α) (b : β) (c : γ) (f : α → β → γ → Option δ) : bd3 (some (a, b, c)) f = f a b c := id rfl
section ANEW
variable {Ls : Nat → SL} {Hs : SL} {n t p v : Nat} {R S : SL} {B : Nat → LN}
theorem C2.fw {F : Nat → Nat → SL → Prop} {A A2 : LN} {b : Int32} {fC : Option (Sum (Int32 × (Nat → SL) × SL) Nat)} {g : Nat → Option (Int32 × (Nat → SL) × SL)} (h : C2 F A A2 v B b fC) : ∃ (Ls' : Nat → SL) (Hs' : SL) (v' : Nat) (B' : Nat → LN), fwt fC g = some (b, Ls', Hs') ∧ SC F Ls' Hs' A2 v' B' ∧ NX A v B v' B' := by
  obtain ⟨Ls', Hs', v', B', e, s, x⟩ := h
  exact ⟨Ls', Hs', v', B', by rw [e, fwt_i], s, x⟩
/-- a line that begins anew: back it is as it was -/
theorem an_all (h : SC FQ Ls Hs ((n, t, p), R, S) v B) {T : Nat} (hT1 : 1 ≤ T) (hT : T ≤ 80) : ∃ (Ls' : Nat → SL) (Hs' : SL) (v' : Nat) (B' : Nat → LN), f_L_isAnew Ls Hs (nI T) = some (1, Ls', Hs') ∧ SC FQ Ls' Hs' ((n, t, p), R, S) v' B' := by
  have hn : n ≤ 8 := h.1.1.1
  have hW := h.1.1
  unfold f_L_isAnew
  rw [pr_all h, bd_n, r_size0 h, bd_n]
  by_cases e : n = 0
  · subst e
    rw [if_neg (fun z => z rfl)]
    unfold fw_run fw_bound
    rw [a_run0 h (by omega), fwt_r, if_neg (show ¬ (2 : Nat) = 1 by decide), if_pos rfl, bd3_n, if_neg (fun z => z rfl), r_bnd0 h hT1 (by omega), fwt_r, if_neg (show ¬ (2 : Nat) = 1 by decide), if_pos rfl, bd2_n, if_neg (fun z => z rfl)]
    exact ⟨Ls, Hs, v, B, rfl, h⟩
  · have hn0 : 0 < n := by omega
    have en1 : nI n - 1 = nI (n - 1) := pk_sub (b := 1) (by omega)
    rw [if_pos (show ¬ nI n = 0 from fun z => e ((nI_eq (a := n) (b := 0) (by omega) (by omega)).mp z))]
    simp only [lt_n]
    rw [en1]
    have hl := slw_le S R p T (n - 1)
    obtain ⟨L1, e1, s1⟩ := r_ow h (m := n - 1) (T := T) (c := 5) (by omega) (by decide) hT1 (by omega)
    obtain ⟨L2, e2, s2⟩ := r_bnd s1 hn0 hT1 (show T ≤ 10000 by omega)
    obtain ⟨L3, e3, s3⟩ := r_slw s2 hn0 hT1 (show T ≤ 10000 by omega)
    rw [md_last hn0] at e1
    have hmb : mdT n p R S T ≤ mstS S R p T (slwS S R p T (n - 1)) := by
      rw [← md_own (m := 0)]
      exact md_le hW (by omega) (by omega)
    have hm0 := md_nn (T := T) hW hn0 (by omega)
    obtain ⟨w, ew, w1, w2, eb⟩ := mst_val hW (show slwS S R p T (n - 1) < n by omega) (show T ≤ 10000 by omega)
    have hup := upN_le S p (slwS S R p T (n - 1)) T
    have hdv : upN S p (slwS S R p T (n - 1)) T / w ≤ T / w := Nat.div_le_div_right hup
    have hdT : T / w ≤ T := Nat.div_le_self _ _
    unfold fw_outputWith fw_bound fw_slowest
    rw [e1, fwt_i, bd2_n, e2, fwt_i, bd2_n, e3, fwt_i, bd2_n, pr_all s3, bd_n, lg_self, if_neg (fun z => z rfl), if_neg (i_nlt hm0), if_neg (i_nlt hmb), if_neg (show ¬ nI (slwS S R p T (n - 1)) < 0 from i_nlt (nI_le (a := 0) (b := slwS S R p T (n - 1)) (by omega) (by omega))), if_neg (nI_ge (a := slwS S R p T (n - 1)) (b := n) (by omega) (by omega))]
    unfold fw_setting
    rw [show f_X5_setting L3 (nI (slwS S R p T (n - 1))) 1 = _ from r_set s3 (m := slwS S R p T (n - 1)) (w := 1) (by omega) (by omega), fwt_i, bd_n, ew, nz_p (by omega), gd_n, pk_div (a := T) (d := w) (by omega) (by omega) (by omega), eb, if_neg (show ¬ nI (T / w) < nI (upN S p (slwS S R p T (n - 1)) T / w) from nI_nlt hdv (by omega)), nI_1]
    obtain ⟨L4, e4, s4⟩ := r_bnd s3 hn0 (show 1 ≤ T + 1 by omega) (show T + 1 ≤ 10000 by omega)
    have hbu := bnd_up hW hn0 (show T + 1 ≤ 10000 by omega)
    rw [eb] at hbu
    rw [e4, fwt_i, bd2_n, if_neg (i_nlt hbu), show f_X5_setting L4 0 4 = _ from r_set s4 (m := 0) (w := 4) (by omega) (by omega), fwt_i, bd_n]
    have hcap : 0 ≤ R 0 4 ∧ R 0 4 ≤ 40 := by
      have q := hW.2.2.2.1 0 hn0
      have q1 : 0 ≤ (R 0 4).toInt ∧ (R 0 4).toInt ≤ 40 := ⟨q.2.2.2.1, q.2.2.2.2⟩
      rw [Int32.le_iff_toInt_le, Int32.le_iff_toInt_le, i_0, i_40]
      exact q1
    obtain ⟨L5, e5, s5⟩ := r_ow s4 (m := 0) (T := T) (c := R 0 4) hn0 hcap hT1 (by omega)
    rw [md_own] at e5
    rw [show f_X5_outputWith L4 0 (R 0 4) (nI T) = _ from e5, fwt_i, bd2_n, if_neg (fun z => z rfl)]
    have hm2 : mdT n p R S T ≤ 2000 := i_lele hmb (by rw [eb]; exact nI_le (b := 2000) (by omega) (by omega))
    obtain ⟨L6, e6, s6⟩ := r_cf0 s5 (m := n - 1) (T := T) (w := mdT n p R S T) (by omega) ⟨hm0, hm2⟩ hT1 (by omega) hmb (by rw [md_last hn0]; exact i_le (i_nn _))
    unfold fw_capacityFor
    rw [e6, fwt_i, bd2_n, if_neg (fun z => z rfl)]
    obtain ⟨L7, H7, v7, B7, e7, s7, x7⟩ := a_rst s6 (FQ_rst h.1.2)
    rw [e7, bd3_n, if_neg (show ¬ nI t < 0 from i_nlt (nI_le (a := 0) (by omega) (by have ht9 : t ≤ 10000 := hW.2.1; omega))), r_ins s7, bd_n, ins_z n (Nat.le_refl n), if_neg (fun z => z rfl)]
    unfold f_L_isAnew_b178
    have hFp : FQ n (0 + T) (pasS n p S T 0 (allS n R)) := FQ_pas hn T 0 _ (by omega) (FQ_rst h.1.2) (FN_all hW.2.2.2.2.1)
    obtain ⟨L8, H8, v8, B8, e8, s8, x8⟩ := C2.fw (g := fun k => if k = 1 then some ((-5000001), L7, H7) else if k = 2 then some ((-5000002), L7, H7) else none) (a_run s7 hn0 (T := T) (by omega) (by omega) hFp)
    unfold fw_run
    rw [all_z, Int32.sub_zero] at e8
    rw [if_neg (show ¬ (1 : Int32) = 0 by decide), e8, bd3_n, if_neg (fun z => z rfl), r_out s8, bd_n, if_neg (fun z => z rfl), r_now s8, bd_n, if_neg (fun z => z (by rw [Nat.zero_add]))]
    unfold f_L_isAnew_b217 fw_undo
    obtain ⟨L9, H9, e9, s9⟩ := a_und s8 (by have := x8.1; omega)
    have y8 := x8.2.2 x7.1
    rw [if_neg (show ¬ (1 : Int32) = 0 by decide), e9, fwt_i, bd3_n, if_neg (show ¬ nI (v8 - 1) < 0 from i_nlt (nI_le (a := 0) (by omega) (by have := s8.2.2.1; omega)))]
    obtain ⟨L10, H10, e10, s10⟩ := a_und s9 (by have := y8.1; omega)
    have ea : B8 (v8 - 1 - 1) = ((n, t, p), R, S) := by
      rw [show v8 - 1 - 1 = v8 - 2 by omega, y8.2]
      exact x7.2.1
    rw [ea] at s10
    rw [e10, fwt_i, bd3_n, if_neg (show ¬ nI (v8 - 1 - 1) < 0 from i_nlt (nI_le (a := 0) (by omega) (by have := s8.2.2.1; omega))), pr_all s10, bd_n, lg_self, lt_n, if_neg (fun z => z rfl)]
    exact ⟨L10, H10, _, B8, rfl, s10⟩
/-- what is refused changes nothing -/
theorem rf_all {A : LN} {TT : SL} (h : SC FQ Ls Hs A v B) : f_L_refused Ls Hs TT = some (1, Ls, Hs, TT) := by
  obtain ⟨⟨n, t, p⟩, R, S⟩ := A
  have hn : n ≤ 8 := h.1.1.1
  have h8 : ¬ ∃ m, (8 : Int32) = nI m ∧ m < n := no_m (k := 8) hn (by omega)
  have hm1 : ¬ ∃ m, (-1 : Int32) = nI m ∧ m < n := no_n hn
  have r31 : ¬ (3 : Nat) = 1 := by decide
  unfold f_L_refused
  rw [pr_all h, bd_n]
  unfold fw_addMachine
  rw [a_addR (show ¬ cyc 0 1 by decide), fwt_r, if_pos rfl, bd3_n, if_neg (fun z => z rfl)]
  unfold fw_setMachine
  rw [a_setR h h8, fwt_r, if_pos rfl, bd3_n, if_neg (fun z => z rfl)]
  unfold fw_setCapacity
  rw [a_capR h hm1, fwt_r, if_pos rfl, bd3_n, if_neg (fun z => z rfl)]
  unfold fw_addStop
  rw [a_stpR h h8, fwt_r, if_pos rfl, bd3_n, if_neg (fun z => z rfl)]
  unfold fw_addRandomStops
  rw [a_rndR h h8, fwt_r, if_pos rfl, bd3_n, if_neg (fun z => z rfl)]
  unfold fw_stop
  rw [r_stpR h, fwt_r, if_pos rfl, bd_n, if_neg (fun z => z rfl)]
  unfold fw_run
  rw [a_runR (show ¬ (0 ≤ (3000 : Int32) ∧ (3000 : Int32) ≤ 2000) by decide), fwt_r, if_pos rfl, bd3_n, if_neg (fun z => z rfl)]
  unfold fw_setting
  rw [r_setR h h8, fwt_r, if_pos rfl, bd_n, if_neg (fun z => z rfl)]
  unfold fw_machine
  rw [r_macR h h8, fwt_r, if_pos rfl, bd_n, if_neg (fun z => z rfl)]
  unfold fw_count
  rw [r_cntR h hm1, fwt_r, if_pos rfl, bd_n, if_neg (fun z => z rfl)]
  unfold fw_bound
  rw [r_bndR (show ¬ (1 ≤ (-1 : Int32) ∧ (-1 : Int32) ≤ 10000) by decide), fwt_r, if_pos rfl, bd2_n, if_neg (fun z => z rfl)]
  unfold fw_slowest
  rw [r_slwR (show ¬ (1 ≤ (20000 : Int32) ∧ (20000 : Int32) ≤ 10000) by decide), fwt_r, if_pos rfl, bd2_n, if_neg (fun z => z rfl)]
  unfold f_L_refused_b157
  rw [if_neg (show ¬ (1 : Int32) = 0 by decide)]
  unfold fw_outputWith
  rw [r_owR h h8, fwt_r, if_pos rfl, bd2_n, if_neg (fun z => z rfl)]
  unfold fw_capacityFor
  rw [r_cfR h h8, fwt_r, if_pos rfl, bd2_n, if_neg (fun z => z rfl)]
  unfold fw_bestBuffer
  rw [r_bbR (show ¬ (1 ≤ (3000 : Int32) ∧ (3000 : Int32) ≤ 2000) by decide), fwt_r, if_pos rfl, bd2_n, if_neg (fun z => z rfl)]
  unfold fw_append
  rw [r_apR (show ¬ (0 ≤ (999 : Int32) ∧ (999 : Int32) ≤ 127) by decide), fwt_r, if_pos rfl, bd2_n, if_neg (fun z => z rfl), pr_all h, bd_n, lt_n, lg_self, if_neg (fun z => z rfl)]
end ANEW
