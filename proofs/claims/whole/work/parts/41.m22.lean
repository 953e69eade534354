/-! THE MEANING, 22: a number of the text -/
theorem nI_m {s : Nat} (h : s < 2147483648) : ¬ nI s = -1 := fun z => by
  have q := congrArg Int32.toInt z
  rw [nI_toInt (by omega)] at q
  have z1 : (-1 : Int32).toInt = -1 := rfl
  omega
def JT (T M : SL) (len a : Nat) : Prop := len ≤ 120 ∧ a ≤ len ∧ T 0 1 = nI len ∧ M 0 6 = nI len ∧ (∀ i, i < len → T 1 i = M 4 i) ∧ T 0 2 = nI a ∧ T 0 3 = -1 ∧ M 0 9 = nI a
def KT (T T' : SL) : Prop := T' 0 1 = T 0 1 ∧ T' 1 = T 1
theorem KT.rf {T : SL} : KT T T := ⟨rfl, rfl⟩
theorem KT.tr {A B C : SL} (h : KT A B) (h2 : KT B C) : KT A C := ⟨h2.1.trans h.1, h2.2.trans h.2⟩
theorem KT.put {A T : SL} (h : KT A T) {q : Nat} {v : Int32} (hq : q ≠ 1) : KT A (up2 T 0 q v) := ⟨(up2_q (by omega)).trans h.1, (up2_row (by omega)).trans h.2⟩
/-- all but the row, the spot, the value -/
def KN (M M' : SL) : Prop := (∀ k, k ≠ 0 → k ≠ 1 → M' k = M k) ∧ ∀ q, q ≠ 9 → q ≠ 10 → M' 0 q = M 0 q
theorem KN.rf {M : SL} : KN M M := ⟨fun _ _ _ => rfl, fun _ _ _ => rfl⟩
theorem KN.tr {A B C : SL} (h : KN A B) (h2 : KN B C) : KN A C := ⟨fun k a b => (h2.1 k a b).trans (h.1 k a b), fun q a b => (h2.2 q a b).trans (h.2 q a b)⟩
theorem KN.put {A M : SL} (h : KN A M) {q : Nat} {v : Int32} (hq : q = 9 ∨ q = 10) : KN A (up2 M 0 q v) := ⟨fun k a b => (up2_row a).trans (h.1 k a b), fun r a b => (up2_q (by omega)).trans (h.2 r a b)⟩
theorem KN.k1 {A M M' : SL} (h : KN A M) (k : K1 M M') : KN A M' := ⟨fun q a b => (k q b).trans (h.1 q a b), fun q a b => by rw [k 0 (by omega)]; exact h.2 q a b⟩
/-- but the row -/
def KR (M M' : SL) : Prop := M' 1 = M 1
def btS (M : SL) (len a : Nat) : Int32 := if a < len then M 4 a else -1
def dgt (M : SL) (len a : Nat) : Prop := a < len ∧ 48 ≤ M 4 a ∧ M 4 a ≤ 57
theorem bt_dg (M : SL) (len a : Nat) : (48 ≤ btS M len a ∧ btS M len a ≤ 57) ↔ dgt M len a := by
  unfold btS dgt
  by_cases h : a < len
  · rw [if_pos h]
    exact ⟨fun z => ⟨h, z⟩, fun z => z.2⟩
  · rw [if_neg h]
    exact ⟨fun z => absurd z.1 (by decide), fun z => absurd z.1 h⟩
theorem c_byt {T M : SL} {len a : Nat} (hl : len ≤ 120) (ha : a ≤ 120) (h1 : T 0 1 = nI len) (hb : ∀ i, i < len → T 1 i = M 4 i) : f_X3_byteAt T (nI a) = some (btS M len a) := by
  unfold f_X3_byteAt f_X3_byteAt_b12 btS
  rw [if_neg (show ¬ nI a < 0 from nI_nlt (a := a) (b := 0) (by omega) (by omega)), lt_n, h1]
  by_cases h : a < len
  · rw [if_pos (nI_lt h (by omega)), if_pos h, n_chk (by omega) (by omega), gd_n, nI_clamp (by omega), lt_n, hb a h]
  · rw [if_neg (nI_nlt (by omega) (by omega)), if_neg h]
theorem c_dgt (x : Int32) : f_X3_isDigit x = some (bI (48 ≤ x ∧ x ≤ 57)) := by
  unfold f_X3_isDigit
  rw [is_in, bd_n, bI_B]
  rfl
theorem bI_c {P Q : Prop} [Decidable P] [Decidable Q] (h : P ↔ Q) : bI P = bI Q := by
  by_cases p : P
  · rw [bI_t p, bI_t (h.mp p)]
  · rw [bI_f p, bI_f (fun q => p (h.mpr q))]
theorem m_isAt {M : SL} {len s : Nat} {lo hi : Int32} (hl : len ≤ 120) (h6 : M 0 6 = nI len) (h9 : M 0 9 = nI s) (hs : s ≤ 120) : f_X6_isAt M lo hi = some (bI (s < len ∧ lo ≤ M 4 s ∧ M 4 s ≤ hi)) := by
  unfold f_X6_isAt f_X6_isAt_b32
  rw [lt_n, lt_n, h6, h9]
  by_cases h : s < len
  · rw [if_neg (nI_ge h (by omega)), lt_n, n_chk (by omega) (by omega), gd_n, nI_clamp (by omega), lt_n, m_in, bd_n]
    by_cases g : lo ≤ M 4 s ∧ M 4 s ≤ hi
    · rw [bI_t g, if_neg (show ¬ (1 : Int32) = 0 by decide), bI_t (show s < len ∧ lo ≤ M 4 s ∧ M 4 s ≤ hi from ⟨h, g⟩)]
    · rw [bI_f g, if_pos rfl, bI_f (show ¬ (s < len ∧ lo ≤ M 4 s ∧ M 4 s ≤ hi) from fun z => g z.2)]
  · rw [if_pos (nI_le (by omega) (by omega)), bI_f (show ¬ (s < len ∧ lo ≤ M 4 s ∧ M 4 s ≤ hi) from fun z => h z.1)]
theorem m_signT {M : SL} {len s : Nat} {e : Int32} (hl : len ≤ 120) (h6 : M 0 6 = nI len) (h9 : M 0 9 = nI s) (hs : s ≤ 120) (g : s < len ∧ M 4 s = e) : f_X6_sign M e = some (1, up2 M 0 9 (nI (s + 1))) := by
  unfold f_X6_sign
  rw [m_isAt hl h6 h9 hs, bd_n, bI_t (show s < len ∧ e ≤ M 4 s ∧ M 4 s ≤ e from ⟨g.1, by rw [g.2]; exact Int32.le_refl _, by rw [g.2]; exact Int32.le_refl _⟩), lt_n, h9, if_neg (show ¬ (1 : Int32) = 0 by decide), lt_n, lt_n, nI_1]
  rfl
theorem m_signF {M : SL} {len s : Nat} {e : Int32} (hl : len ≤ 120) (h6 : M 0 6 = nI len) (h9 : M 0 9 = nI s) (hs : s ≤ 120) (g : ¬ (s < len ∧ M 4 s = e)) : f_X6_sign M e = some (0, up2 M 0 9 (nI s)) := by
  unfold f_X6_sign
  rw [m_isAt hl h6 h9 hs, bd_n, bI_f (show ¬ (s < len ∧ e ≤ M 4 s ∧ M 4 s ≤ e) from fun z => g ⟨z.1, i_anti z.2.2 z.2.1⟩), lt_n, h9, if_pos rfl, lt_n, lt_n, Int32.add_zero]
  rfl
/-! a step of a number -/
theorem c_nst {T M : SL} {len s k : Nat} {v : Int32} (K : SL → Int32 → Int32 → Int32 → Int32 → Int32 → Int32 → Option (Int32 × SL)) (x1 x2 x3 x4 : Int32) (hl : len ≤ 120) (hs : s ≤ 120) (hk : k < 2) (h1 : T 0 1 = nI len) (hb : ∀ i, i < len → T 1 i = M 4 i) (h2 : T 0 2 = nI s) :
    (dgt M len s → f_X3_readNumber_b22 K T x1 x2 x3 x4 v (nI k) = K (up2 T 0 2 (nI (s + 1))) x1 x2 x3 x4 (10 * v + M 4 s - 48) (nI (k + 1))) ∧ (¬ dgt M len s → f_X3_readNumber_b22 K T x1 x2 x3 x4 v (nI k) = f_X3_readNumber_b77 T x1 x2 x3 x4 v) := by
  have e0 : f_X3_readNumber_b22 K T x1 x2 x3 x4 v (nI k) = if bI (48 ≤ btS M len s ∧ btS M len s ≤ 57) = 0 then f_X3_readNumber_b77 T x1 x2 x3 x4 v else K (up2 T 0 2 (nI (s + 1))) x1 x2 x3 x4 (10 * v + btS M len s - 48) (nI (k + 1)) := by
    unfold f_X3_readNumber_b22
    rw [if_neg (show ¬ (2 : Int32) ≤ nI k from nI_ge (a := k) (b := 2) (by omega) (by omega)), lt_n, h2, c_byt hl hs h1 hb, bd_n, c_dgt, bd_n]
    simp only [lt_n]
    rw [c_byt hl hs h1 hb, bd_n, nI_1, nI_1]
  refine ⟨fun g => ?_, fun g => ?_⟩
  · rw [e0, bI_t ((bt_dg M len s).mpr g), if_neg (show ¬ (1 : Int32) = 0 by decide)]
    unfold btS
    rw [if_pos g.1]
  · rw [e0, bI_f (fun z => g ((bt_dg M len s).mp z)), if_pos rfl]
theorem c_nst2 {T : SL} {v : Int32} (K : SL → Int32 → Int32 → Int32 → Int32 → Int32 → Int32 → Option (Int32 × SL)) (x1 x2 x3 x4 : Int32) : f_X3_readNumber_b22 K T x1 x2 x3 x4 v (nI 2) = f_X3_readNumber_b77 T x1 x2 x3 x4 v := by
  unfold f_X3_readNumber_b22
  rw [if_pos (show (2 : Int32) ≤ nI 2 from nI_le (a := 2) (b := 2) (by omega) (by omega))]
theorem m_nst {M : SL} {len s a : Nat} (K : SL → Int32 → Int32 → Int32 → Option (Int32 × SL)) (x1 x2 : Int32) (hl : len ≤ 120) (hs : s ≤ 120) (hk : a ≤ s ∧ s < a + 2) (h6 : M 0 6 = nI len) (h9 : M 0 9 = nI s) :
    (dgt M len s → f_X6_number_b10 K M x1 x2 (nI a) = K (up2 (up2 M 0 10 (10 * M 0 10 + M 4 s - 48)) 0 9 (nI (s + 1))) x1 x2 (nI a)) ∧ (¬ dgt M len s → f_X6_number_b10 K M x1 x2 (nI a) = f_X6_number_b68 M x1 x2 (nI a)) := by
  have e0 : ∀ P : Prop, (s < len ∧ 48 ≤ M 4 s ∧ M 4 s ≤ 57 ↔ P) → ∀ D : Decidable P, dgt M len s ∨ ¬ P → f_X6_number_b10 K M x1 x2 (nI a) = if ¬ P then f_X6_number_b68 M x1 x2 (nI a) else K (up2 (up2 M 0 10 (10 * M 0 10 + M 4 s - 48)) 0 9 (nI (s + 1))) x1 x2 (nI a) := by
    intro P hP D hor
    unfold f_X6_number_b10
    simp only [lt_n]
    rw [h9, pk_sub hk.1, if_neg (show ¬ (2 : Int32) ≤ nI (s - a) from nI_ge (a := s - a) (b := 2) (by omega) (by omega)), m_isAt hl h6 h9 hs, bd_n, bI_c hP]
    by_cases p : P
    · have hs2 : s < 120 := by have := (hP.mpr p).1; omega
      rw [bI_t p, if_neg (show ¬ (1 : Int32) = 0 by decide), if_neg (fun z => z p), n_chk (by omega) (by omega), gd_n, nI_clamp (by omega), up2_q (by omega), h9, nI_1]
    · rw [bI_f p, if_pos rfl, if_pos p]
  refine ⟨fun g => ?_, fun g => ?_⟩
  · rw [e0 True ⟨fun _ => trivial, fun _ => g⟩ inferInstance (Or.inl g), if_neg (fun z => z trivial)]
  · rw [e0 False ⟨fun z => g z, fun z => z.elim⟩ inferInstance (Or.inr (fun z => z)), if_pos (fun z => z)]
theorem m_nst2 {M : SL} {a : Nat} (K : SL → Int32 → Int32 → Int32 → Option (Int32 × SL)) (x1 x2 : Int32) (ha : a ≤ 120) (h9 : M 0 9 = nI (a + 2)) : f_X6_number_b10 K M x1 x2 (nI a) = f_X6_number_b68 M x1 x2 (nI a) := by
  unfold f_X6_number_b10
  simp only [lt_n]
  rw [h9, pk_sub (by omega), show a + 2 - a = 2 by omega, if_pos (show (2 : Int32) ≤ nI 2 from nI_le (a := 2) (b := 2) (by omega) (by omega))]
/-- the digits of a number: both sides stand behind them, at s, with the value v -/
theorem p_dig {T M : SL} {len a : Nat} (h : JT T M len a) (lo hi e : Int32) : ∃ (s : Nat) (v : Int32) (T1 M1 : SL), a ≤ s ∧ s ≤ len ∧ f_X3_readNumber T lo hi e = f_X3_readNumber_b77 T1 lo hi e (nI a) v ∧ f_X6_number M lo hi = f_X6_number_b68 M1 lo hi (nI a) ∧ KT T T1 ∧ KN M M1 ∧ M1 1 = M 1 ∧ T1 0 2 = nI s ∧ T1 0 3 = -1 ∧ M1 0 9 = nI s ∧ M1 0 10 = v := by
  obtain ⟨hl, ha, h1, h6, hb, h2, h3, h9⟩ := h
  have hF : 3 < fuel := by unfold fuel; omega
  unfold f_X3_readNumber f_X6_number
  generalize fuel = F at hF ⊢
  obtain ⟨f, rfl⟩ : ∃ f, F = f + 3 := ⟨F - 3, by omega⟩
  simp only [lt_n]
  rw [h3, if_pos rfl, h2, h9]
  have h6' : up2 M 0 10 0 0 6 = nI len := by rw [up2_q (by omega)]; exact h6
  have h9' : up2 M 0 10 0 0 9 = nI a := by rw [up2_q (by omega)]; exact h9
  have hM4 : ∀ (q : Nat) (v : Int32), up2 M 0 q v 4 = M 4 := fun q v => up2_row (by omega)
  have hdg : ∀ s, dgt (up2 M 0 10 0) len s ↔ dgt M len s := fun s => by unfold dgt; rw [hM4]
  have c1 := c_nst (M := M) (v := 0) (k := 0) (f_X3_readNumber_h22 (f + 2)) lo hi e (nI a) hl (by omega) (by omega) h1 hb h2
  have m1 := m_nst (M := up2 M 0 10 0) (f_X6_number_h10 (f + 2)) lo hi hl (show a ≤ 120 by omega) ⟨Nat.le_refl a, by omega⟩ h6' h9'
  show ∃ s v T1 M1, a ≤ s ∧ s ≤ len ∧ f_X3_readNumber_b22 (f_X3_readNumber_h22 (f + 2)) T lo hi e (nI a) 0 (nI 0) = _ ∧ f_X6_number_b10 (f_X6_number_h10 (f + 2)) (up2 M 0 10 0) lo hi (nI a) = _ ∧ _
  by_cases g : dgt M len a
  · rw [c1.1 g, m1.1 ((hdg a).mpr g)]
    have ga := g.1
    have hT1 : up2 T 0 2 (nI (a + 1)) 0 1 = nI len := by rw [up2_q (by omega)]; exact h1
    have hTb : ∀ i, i < len → up2 T 0 2 (nI (a + 1)) 1 i = M 4 i := fun i hi => by rw [up2_row (by omega)]; exact hb i hi
    rw [up2_s, hM4]
    generalize hw : (10 * 0 + M 4 a - 48 : Int32) = w
    generalize hX : up2 (up2 (up2 M 0 10 0) 0 10 w) 0 9 (nI (a + 1)) = X
    have x6 : X 0 6 = nI len := by rw [← hX, up2_q (by omega), up2_q (by omega)]; exact h6'
    have x9 : X 0 9 = nI (a + 1) := by rw [← hX, up2_s]
    have x10 : X 0 10 = w := by rw [← hX, up2_q (by omega), up2_s]
    have x4 : X 4 = M 4 := by rw [← hX, up2_row (by omega), up2_row (by omega), up2_row (by omega)]
    have xN : KN M X := by rw [← hX]; exact ((KN.rf.put (Or.inr rfl)).put (Or.inr rfl)).put (Or.inl rfl)
    have xR : X 1 = M 1 := by rw [← hX, up2_row (by omega), up2_row (by omega), up2_row (by omega)]
    have hdx : ∀ s, dgt X len s ↔ dgt M len s := fun s => by unfold dgt; rw [x4]
    have c2 := c_nst (T := up2 T 0 2 (nI (a + 1))) (M := M) (v := w) (k := 1) (f_X3_readNumber_h22 (f + 1)) lo hi e (nI a) hl (show a + 1 ≤ 120 by omega) (by omega) hT1 hTb (up2_s _ _ _ _)
    have m2 := m_nst (M := X) (f_X6_number_h10 (f + 1)) lo hi hl (show a + 1 ≤ 120 by omega) (a := a) ⟨by omega, by omega⟩ x6 x9
    show ∃ s v T1 M1, a ≤ s ∧ s ≤ len ∧ f_X3_readNumber_b22 (f_X3_readNumber_h22 (f + 1)) (up2 T 0 2 (nI (a + 1))) lo hi e (nI a) w (nI 1) = _ ∧ f_X6_number_b10 (f_X6_number_h10 (f + 1)) X lo hi (nI a) = _ ∧ _
    by_cases g2 : dgt M len (a + 1)
    · rw [c2.1 g2, m2.1 ((hdx (a + 1)).mpr g2)]
      have ga2 := g2.1
      rw [x10, x4]
      refine ⟨a + 2, 10 * w + M 4 (a + 1) - 48, up2 (up2 T 0 2 (nI (a + 1))) 0 2 (nI (a + 1 + 1)), up2 (up2 X 0 10 (10 * w + M 4 (a + 1) - 48)) 0 9 (nI (a + 1 + 1)), by omega, by omega, ?_, ?_, (KT.rf.put (by omega)).put (by omega), (xN.put (Or.inr rfl)).put (Or.inl rfl), ?_, up2_s _ _ _ _, ?_, up2_s _ _ _ _, ?_⟩
      · exact c_nst2 (f_X3_readNumber_h22 f) lo hi e (nI a)
      · exact m_nst2 (f_X6_number_h10 f) lo hi (by omega) (up2_s _ _ _ _)
      · rw [up2_row (by omega), up2_row (by omega)]
        exact xR
      · rw [up2_q (by omega), up2_q (by omega)]
        exact h3
      · rw [up2_q (by omega), up2_s]
    · rw [c2.2 g2, m2.2 (fun z => g2 ((hdx (a + 1)).mp z))]
      exact ⟨a + 1, w, _, X, by omega, by omega, rfl, rfl, KT.rf.put (by omega), xN, xR, up2_s _ _ _ _, by rw [up2_q (by omega)]; exact h3, x9, x10⟩
  · rw [c1.2 g, m1.2 (fun z => g ((hdg a).mp z))]
    exact ⟨a, 0, T, up2 M 0 10 0, Nat.le_refl a, ha, rfl, rfl, KT.rf, KN.rf.put (Or.inr rfl), up2_row (by omega), h2, h3, h9', up2_s _ _ _ _⟩
theorem p_num {T M : SL} {len a : Nat} (h : JT T M len a) (lo hi : Int32) {e : Int32} (he : ¬ -1 = e) : ∃ (v : Int32) (T' M' : SL), f_X3_readNumber T lo hi e = some (v, T') ∧ KT T T' ∧ KN M M' ∧ M' 1 = M 1 ∧
    ((∃ s, s ≤ len ∧ f_X6_number M lo hi = some (0, M') ∧ M' 0 9 = nI s ∧ T' 0 3 = nI s) ∨
     (∃ s, a < s ∧ s ≤ len ∧ f_X6_number M lo hi = some (1, M') ∧ M' 0 9 = nI s ∧ M' 0 10 = v ∧ lo ≤ v ∧ v ≤ hi ∧ (((s < len ∧ M 4 s = e) ∧ T' 0 2 = nI (s + 1) ∧ T' 0 3 = -1) ∨ (¬ (s < len ∧ M 4 s = e) ∧ T' 0 3 = nI s)))) := by
  obtain ⟨s, v, T1, M1, h1, h2, e1, e2, kT, kN, kR, t2, t3, m9, m10⟩ := p_dig h lo hi e
  obtain ⟨hl, ha, j1, j6, hb, -, -, -⟩ := h
  have t1 : T1 0 1 = nI len := kT.1.trans j1
  have tb : ∀ i, i < len → T1 1 i = M 4 i := fun i hi => by rw [kT.2]; exact hb i hi
  have m6 : M1 0 6 = nI len := (kN.2 6 (by omega) (by omega)).trans j6
  have m4 : M1 4 = M 4 := kN.1 4 (by omega) (by omega)
  rw [e1, e2]
  have eC : f_X3_readNumber_b77 T1 lo hi e (nI a) v = if nI s = nI a then some (v, up2 T1 0 3 (nI s)) else if bI (48 ≤ btS M len s ∧ btS M len s ≤ 57) = 0 then (if ¬ bI (lo ≤ v ∧ v ≤ hi) = 0 then (if btS M len s = e then some (v, up2 T1 0 2 (nI (s + 1))) else some (v, up2 T1 0 3 (nI s))) else some (v, up2 T1 0 3 (nI a))) else some (v, up2 T1 0 3 (nI s)) := by
    unfold f_X3_readNumber_b77 f_X3_readNumber_b104
    simp only [lt_n]
    rw [t2, c_byt hl (by omega) t1 tb, bd_n, c_dgt, bd_n, is_in, bd_n, nI_1]
  have eM : f_X6_number_b68 M1 lo hi (nI a) = if nI s = nI a then some (0, M1) else if bI (s < len ∧ 48 ≤ M 4 s ∧ M 4 s ≤ 57) = 0 then (if bI (lo ≤ v ∧ v ≤ hi) = 0 then some (bI (lo ≤ v ∧ v ≤ hi), up2 M1 0 9 (nI a)) else some (bI (lo ≤ v ∧ v ≤ hi), up2 M1 0 9 (nI s))) else some (0, M1) := by
    unfold f_X6_number_b68
    simp only [lt_n]
    rw [m9, m_isAt hl m6 m9 (by omega), bd_n, m10, m_in, bd_n, bI_B, gd_n, gd_n, m4]
  rw [eC, eM]
  by_cases g1 : s = a
  · rw [if_pos (show nI s = nI a by rw [g1]), if_pos (show nI s = nI a by rw [g1])]
    exact ⟨v, _, M1, rfl, kT.put (by omega), kN, kR, Or.inl ⟨s, h2, rfl, m9, up2_s _ _ _ _⟩⟩
  · have g1' : ¬ nI s = nI a := fun z => g1 ((nI_eq (by omega) (by omega)).mp z)
    rw [if_neg g1', if_neg g1']
    by_cases g2 : dgt M len s
    · rw [bI_t ((bt_dg M len s).mpr g2), bI_t (show s < len ∧ 48 ≤ M 4 s ∧ M 4 s ≤ 57 from g2), if_neg (show ¬ (1 : Int32) = 0 by decide), if_neg (show ¬ (1 : Int32) = 0 by decide)]
      exact ⟨v, _, M1, rfl, kT.put (by omega), kN, kR, Or.inl ⟨s, h2, rfl, m9, up2_s _ _ _ _⟩⟩
    · rw [bI_f (fun z => g2 ((bt_dg M len s).mp z)), bI_f (show ¬ (s < len ∧ 48 ≤ M 4 s ∧ M 4 s ≤ 57) from g2), if_pos rfl, if_pos rfl]
      by_cases g3 : lo ≤ v ∧ v ≤ hi
      · rw [bI_t g3, if_pos (show ¬ (1 : Int32) = 0 by decide), if_neg (show ¬ (1 : Int32) = 0 by decide)]
        have r1 : up2 M1 0 9 (nI s) 1 = M 1 := (up2_row (by omega)).trans kR
        by_cases g4 : s < len ∧ M 4 s = e
        · rw [if_pos (show btS M len s = e by unfold btS; rw [if_pos g4.1]; exact g4.2)]
          exact ⟨v, _, _, rfl, kT.put (by omega), kN.put (Or.inl rfl), r1, Or.inr ⟨s, by omega, h2, rfl, up2_s _ _ _ _, by rw [up2_q (by omega)]; exact m10, g3.1, g3.2, Or.inl ⟨g4, up2_s _ _ _ _, by rw [up2_q (by omega)]; exact t3⟩⟩⟩
        · rw [if_neg (show ¬ btS M len s = e from fun z => by
            unfold btS at z
            by_cases q : s < len
            · rw [if_pos q] at z
              exact g4 ⟨q, z⟩
            · rw [if_neg q] at z
              exact he z)]
          exact ⟨v, _, _, rfl, kT.put (by omega), kN.put (Or.inl rfl), r1, Or.inr ⟨s, by omega, h2, rfl, up2_s _ _ _ _, by rw [up2_q (by omega)]; exact m10, g3.1, g3.2, Or.inr ⟨g4, up2_s _ _ _ _⟩⟩⟩
      · rw [bI_f g3, if_neg (show ¬ ¬ (0 : Int32) = 0 from fun z => z rfl), if_pos rfl]
        exact ⟨v, _, _, rfl, kT.put (by omega), kN.put (Or.inl rfl), (up2_row (by omega)).trans kR, Or.inl ⟨a, ha, rfl, up2_s _ _ _ _, up2_s _ _ _ _⟩⟩
/-- a number and its comma -/
theorem p_com {T M : SL} {len a : Nat} (h : JT T M len a) (lo hi : Int32) : ∃ (v : Int32) (T' : SL), f_X3_readNumber T lo hi 44 = some (v, T') ∧ KT T T' ∧
    ((∃ M' s, s ≤ len ∧ f_X6_number M lo hi = some (0, M') ∧ KN M M' ∧ M' 1 = M 1 ∧ M' 0 9 = nI s ∧ T' 0 3 = nI s) ∨
     (∃ M' M'' s, s ≤ len ∧ f_X6_number M lo hi = some (1, M') ∧ M' 0 10 = v ∧ f_X6_sign M' 44 = some (0, M'') ∧ lo ≤ v ∧ v ≤ hi ∧ KN M M'' ∧ M'' 1 = M 1 ∧ M'' 0 9 = nI s ∧ T' 0 3 = nI s) ∨
     (∃ M' M'' a', a < a' ∧ f_X6_number M lo hi = some (1, M') ∧ M' 0 10 = v ∧ lo ≤ v ∧ v ≤ hi ∧ f_X6_sign M' 44 = some (1, M'') ∧ KN M M'' ∧ M'' 1 = M 1 ∧ JT T' M'' len a')) := by
  obtain ⟨v, T', M', e1, kT, kN, kR, q⟩ := p_num h lo hi (e := 44) (by decide)
  obtain ⟨hl, ha, j1, j6, hb, -, -, -⟩ := h
  have m6 : M' 0 6 = nI len := (kN.2 6 (by omega) (by omega)).trans j6
  have m4 : M' 4 = M 4 := kN.1 4 (by omega) (by omega)
  refine ⟨v, T', e1, kT, ?_⟩
  rcases q with ⟨s, hs, e2, m9, t3⟩ | ⟨s, hs1, hs, e2, m9, m10, b1, b2, ⟨g, t2, t3⟩ | ⟨g, t3⟩⟩
  · exact Or.inl ⟨M', s, hs, e2, kN, kR, m9, t3⟩
  · have e3 := m_signT (e := 44) hl m6 m9 (by omega) (by rw [m4]; exact g)
    exact Or.inr (Or.inr ⟨M', _, s + 1, by omega, e2, m10, b1, b2, e3, kN.put (Or.inl rfl), (up2_row (by omega)).trans kR, hl, by have := g.1; omega, kT.1.trans j1, by rw [up2_q (by omega)]; exact m6, fun i hi => by rw [kT.2, up2_row (by omega), m4]; exact hb i hi, t2, t3, up2_s _ _ _ _⟩)
  · have e3 := m_signF (e := 44) hl m6 m9 (by omega) (by rw [m4]; exact g)
    exact Or.inr (Or.inl ⟨M', _, s, hs, e2, m10, e3, b1, b2, kN.put (Or.inl rfl), (up2_row (by omega)).trans kR, up2_s _ _ _ _, t3⟩)
theorem c_err {T : SL} {s : Nat} (hs : s ≤ 120) (h : T 0 3 = nI s) (lo hi e : Int32) : f_X3_readNumber T lo hi e = some (-1, T) := by
  unfold f_X3_readNumber
  rw [lt_n, h, if_neg (nI_m (by omega))]
