/-! THE BASE: names for values, guards, the world as one function of the state, derived rows over it -/
def lt_ {α β : Type} (a : α) (f : α → β) : β := f a
theorem lt_out {α β : Type} {a : α} {f : α → β} {r : β} (h : lt_ a f = r) : ∃ x, x = a ∧ f x = r := ⟨a, rfl, h⟩
def gd {α : Type} (b : Bool) (x : Option α) : Option α := match b with
  | true => x
  | false => none
theorem gd_out {α : Type} {b : Bool} {x : Option α} {r : α} (h : gd b x = some r) : b = true ∧ x = some r := by
  cases b
  · cases h
  · exact ⟨rfl, h⟩
def bd {α β : Type} (o : Option α) (f : α → Option β) : Option β := match o with
  | some a => f a
  | none => none
theorem bd_out {α β : Type} {o : Option α} {f : α → Option β} {r : β} (h : bd o f = some r) : ∃ a, o = some a ∧ f a = some r := by
  cases o
  · cases h
  · exact ⟨_, rfl, h⟩
theorem if_t {α : Type} {c : Prop} [Decidable c] {a b r : α} (hc : c) (h : (if c then a else b) = r) : a = r := by
  rw [if_pos hc] at h
  exact h
theorem if_f {α : Type} {c : Prop} [Decidable c] {a b r : α} (hc : ¬ c) (h : (if c then a else b) = r) : b = r := by
  rw [if_neg hc] at h
  exact h
def chk (i : Int32) (n : Nat) : Bool := decide (0 ≤ i.toInt ∧ i.toInt < n)
theorem chk_in {i : Int32} {n : Nat} (h : chk i n = true) : vp_in i n := vp_in_iff.mpr (of_decide_eq_true h)
def nz (i : Int32) : Bool := decide (i ≠ 0)
theorem nz_ne {i : Int32} (h : nz i = true) : ¬ i = 0 := of_decide_eq_true h
def nzl (i : Int64) : Bool := decide (i ≠ 0)
theorem nzl_ne {i : Int64} (h : nzl i = true) : ¬ i = 0 := of_decide_eq_true h
def isB (i : Int32) : Bool := decide (i = 0 ∨ i = 1)
theorem isB_nar {i : Int32} (h : isB i = true) : narrow .boolean (.int i) = .int i := by
  rcases of_decide_eq_true h with h | h <;> (subst h; rfl)
def sx {α β : Type} (r : Sum α Nat) (f : α → Option β) (g : Nat → Option β) : Option β := match r with
  | .inl a => f a
  | .inr c => g c
/-- a component of the state: cell, place -/
abbrev SL : Type := Nat → Nat → Int32
def up2 (L : SL) (k j : Nat) (v : Int32) : SL := va_up L k (upd (L k) j v)
theorem up_id {α : Type} (f : Nat → α) (k : Nat) : va_up f k (f k) = f := by
  funext j
  by_cases h : j = k
  · subst h; rw [va_up_self]
  · rw [va_up_ne _ _ h]
/-! the world: 89 cells, at the addresses ad; 0..4 the object and what is its own, 5..88 six lines of fourteen cells -/
def wE5 (cs : Nat → ClassId) (ad : Nat → Nat) (Hs T : SL) (p : Nat) : va_E :=
  if p = 0 then .inr (5, [.ref (ad (5 + 14 * 0 + 0)), .ref (ad (5 + 14 * 1 + 0)), .ref (ad 1), .ref (ad 3)])
  else if p = 1 then .inr (1, [.ref (ad 2), .int (Hs 0 1), .int (Hs 0 2)])
  else if p = 2 then .inl (cs 1, 4, .inr (.inr (.inr (.inr (fun j => some (ad (5 + 14 * (2 + j) + 0)))))))
  else if p = 3 then .inr (3, [.ref (ad 4), .int (T 0 1), .int (T 0 2), .int (T 0 3)])
  else .inl (cs 0, 120, .inl (T 1))
def wEL (cs : Nat → ClassId) (ad : Nat → Nat) (i k : Nat) (f : Nat → Int32) : va_E :=
  if k = 0 then .inr (2, [.ref (ad (5 + 14 * i + 1)), .ref (ad (5 + 14 * i + 10)), .int (f 2), .int (f 3)])
  else if k = 1 then .inl (cs 2, 8, .inr (.inr (.inr (.inr (fun m => some (ad (5 + 14 * i + (2 + m))))))))
  else if k < 10 then .inl (cs 0, 16, .inl f)
  else if k = 10 then .inr (4, [.ref (ad (5 + 14 * i + 11)), .ref (ad (5 + 14 * i + 12)), .ref (ad (5 + 14 * i + 13)), .int (f 3), .int (f 4)])
  else .inl (cs 0, 40, .inl f)
def wE (cs : Nat → ClassId) (ad : Nat → Nat) (Ls : Nat → SL) (Hs T : SL) (p : Nat) : va_E :=
  if p < 5 then wE5 cs ad Hs T p
  else wEL cs ad ((p - 5) / 14) ((p - 5) % 14) (Ls ((p - 5) / 14) ((p - 5) % 14))
def wMk (ad : Nat → Nat) (F : Nat → va_E) : va_W := (List.range 89).map (fun p => (ad p, F p))
abbrev wA (cs : Nat → ClassId) (ad : Nat → Nat) (Ls : Nat → SL) (Hs T : SL) : va_W := wMk ad (wE cs ad Ls Hs T)
def adOK (ad : Nat → Nat) : Prop := ∀ i j : Nat, i < 89 → j < 89 → ad i = ad j → i = j
/-- which cells a method may change: the world's, and those that it makes -/
def Afr (ad : Nat → Nat) (sz : Nat) : Nat → Prop := fun q => (∃ p : Nat, p < 89 ∧ q = ad p) ∨ sz ≤ q
theorem Afr.mono {ad : Nat → Nat} {a b : Nat} (h : a ≤ b) {q : Nat} (hq : Afr ad b q) : Afr ad a q := hq.elim Or.inl (fun x => Or.inr (Nat.le_trans h x))
theorem wMk_len (ad : Nat → Nat) (F : Nat → va_E) : (wMk ad F).length = 89 := by simp [wMk]
theorem wMk_at {ad : Nat → Nat} {F : Nat → va_E} {p : Nat} (hp : p < 89) : (wMk ad F)[p]? = some (ad p, F p) := by
  unfold wMk
  rw [List.getElem?_map, List.getElem?_range hp]
  rfl
theorem wMk_inv {ad : Nat → Nat} {F : Nat → va_E} {p : Nat} {x : Nat × va_E} (h : (wMk ad F)[p]? = some x) : p < 89 ∧ x = (ad p, F p) := by
  have hp : p < 89 := by
    have := (List.getElem?_eq_some_iff.mp h).1
    rw [wMk_len] at this
    exact this
  refine ⟨hp, ?_⟩
  rw [wMk_at hp] at h
  exact (Option.some.inj h).symm
theorem wMk_set {ad : Nat → Nat} {F F' : Nat → va_E} {p : Nat} {e : va_E} (hp : p < 89) (he : F' p = e) (ho : ∀ q, q < 89 → q ≠ p → F' q = F q) : (wMk ad F).set p (ad p, e) = wMk ad F' := by
  refine List.ext_getElem? fun q => ?_
  by_cases hq : q = p
  · subst hq
    rw [List.getElem?_set_self (by rw [wMk_len]; exact hp), wMk_at hp, he]
  · rw [List.getElem?_set_ne (Ne.symm hq)]
    by_cases h9 : q < 89
    · rw [wMk_at h9, wMk_at h9, ho q h9 hq]
    · rw [List.getElem?_eq_none (by rw [wMk_len]; omega), List.getElem?_eq_none (by rw [wMk_len]; omega)]
theorem wMk_D {ad : Nat → Nat} {F : Nat → va_E} (h : adOK ad) (sz : Nat) : va_D (Afr ad sz) (wMk ad F) := by
  refine ⟨fun i j x y hi hj hxy => ?_, fun k q hk => ?_⟩
  · obtain ⟨h1, rfl⟩ := wMk_inv hi
    obtain ⟨h2, rfl⟩ := wMk_inv hj
    exact h i j h1 h2 hxy
  · obtain ⟨h1, rfl⟩ := wMk_inv hk
    exact Or.inl ⟨k, h1, rfl⟩
section WORLD
variable {cs : Nat → ClassId} {ad : Nat → Nat} {Ls : Nat → SL} {Hs T : SL}
theorem wE_L {i k : Nat} (hi : i < 6) (hk : k < 14) : wE cs ad Ls Hs T (5 + 14 * i + k) = wEL cs ad i k (Ls i k) := by
  have e1 : (5 + 14 * i + k - 5) / 14 = i := by omega
  have e2 : (5 + 14 * i + k - 5) % 14 = k := by omega
  unfold wE
  rw [if_neg (by omega), e1, e2]
theorem wE_5 {k : Nat} (hk : k < 5) : wE cs ad Ls Hs T k = wE5 cs ad Hs T k := by
  unfold wE
  rw [if_pos hk]
/-- a line's cell is written -/
theorem wA_setL {i k : Nat} (hi : i < 6) (hk : k < 14) (f : Nat → Int32) : (wA cs ad Ls Hs T).set (5 + 14 * i + k) (ad (5 + 14 * i + k), wEL cs ad i k f) = wA cs ad (va_up Ls i (va_up (Ls i) k f)) Hs T := by
  refine wMk_set (by omega) ?_ fun q hq hne => ?_
  · rw [wE_L hi hk, va_up_self, va_up_self]
  · unfold wE
    by_cases h1 : q < 5
    · rw [if_pos h1, if_pos h1]
    · rw [if_neg h1, if_neg h1]
      by_cases h3 : (q - 5) / 14 = i
      · have h4 : (q - 5) % 14 ≠ k := by omega
        rw [h3, va_up_self, va_up_ne _ _ h4]
      · rw [va_up_ne _ _ h3]
theorem wA_set5 {k : Nat} (hk : k < 5) {H2 T2 : SL} {e : va_E} (he : wE5 cs ad H2 T2 k = e) (ho : ∀ q, q < 5 → q ≠ k → wE5 cs ad H2 T2 q = wE5 cs ad Hs T q) : (wA cs ad Ls Hs T).set k (ad k, e) = wA cs ad Ls H2 T2 := by
  refine wMk_set (by omega) ?_ fun q hq hne => ?_
  · rw [wE_5 hk, he]
  · unfold wE
    by_cases h1 : q < 5
    · rw [if_pos h1, if_pos h1, ho q h1 hne]
    · rw [if_neg h1, if_neg h1]
/-! what stands where: lines (c: any line; v: the line that a method works at) -/
theorem c_obj {i : Nat} (hi : i < 6) : (wA cs ad Ls Hs T)[5 + 14 * i + 0]? = some (ad (5 + 14 * i + 0), .inr (2, [.ref (ad (5 + 14 * i + 1)), .ref (ad (5 + 14 * i + 10)), .int (Ls i 0 2), .int (Ls i 0 3)])) := by
  rw [wMk_at (by omega), wE_L hi (by omega)]; rfl
theorem c_rows {i : Nat} (hi : i < 6) : (wA cs ad Ls Hs T)[5 + 14 * i + 1]? = some (ad (5 + 14 * i + 1), .inl (cs 2, 8, .inr (.inr (.inr (.inr (fun m => some (ad (5 + 14 * i + (2 + m))))))))) := by
  rw [wMk_at (by omega), wE_L hi (by omega)]; rfl
theorem wEL_row {i k : Nat} {f : Nat → Int32} (hk : 2 ≤ k ∧ k < 10) : wEL cs ad i k f = .inl (cs 0, 16, .inl f) := by
  unfold wEL
  rw [if_neg (by omega), if_neg (by omega), if_pos (by omega)]
theorem wEL_sar {i k : Nat} {f : Nat → Int32} (hk : 11 ≤ k ∧ k < 14) : wEL cs ad i k f = .inl (cs 0, 40, .inl f) := by
  unfold wEL
  rw [if_neg (by omega), if_neg (by omega), if_neg (by omega), if_neg (by omega)]
theorem c_row {i k : Nat} (hi : i < 6) (hk : 2 ≤ k ∧ k < 10) : (wA cs ad Ls Hs T)[5 + 14 * i + k]? = some (ad (5 + 14 * i + k), .inl (cs 0, 16, .inl (Ls i k))) := by
  rw [wMk_at (by omega), wE_L hi (by omega), wEL_row hk]
theorem c_sar {i k : Nat} (hi : i < 6) (hk : 11 ≤ k ∧ k < 14) : (wA cs ad Ls Hs T)[5 + 14 * i + k]? = some (ad (5 + 14 * i + k), .inl (cs 0, 40, .inl (Ls i k))) := by
  rw [wMk_at (by omega), wE_L hi (by omega), wEL_sar hk]
theorem c_sto {i : Nat} (hi : i < 6) : (wA cs ad Ls Hs T)[5 + 14 * i + 10]? = some (ad (5 + 14 * i + 10), .inr (4, [.ref (ad (5 + 14 * i + 11)), .ref (ad (5 + 14 * i + 12)), .ref (ad (5 + 14 * i + 13)), .int (Ls i 10 3), .int (Ls i 10 4)])) := by
  rw [wMk_at (by omega), wE_L hi (by omega)]; rfl
theorem c_rowS {i k : Nat} (hi : i < 6) (hk : 2 ≤ k ∧ k < 10) {j : Nat} {x : Int32} : (wA cs ad Ls Hs T).set (5 + 14 * i + k) (ad (5 + 14 * i + k), .inl (cs 0, 16, .inl (upd (Ls i k) j x))) = wA cs ad (va_up Ls i (up2 (Ls i) k j x)) Hs T := by
  rw [← wEL_row (i := i) (ad := ad) hk, wA_setL hi (by omega)]; rfl
theorem c_sarS {i k : Nat} (hi : i < 6) (hk : 11 ≤ k ∧ k < 14) {j : Nat} {x : Int32} : (wA cs ad Ls Hs T).set (5 + 14 * i + k) (ad (5 + 14 * i + k), .inl (cs 0, 40, .inl (upd (Ls i k) j x))) = wA cs ad (va_up Ls i (up2 (Ls i) k j x)) Hs T := by
  rw [← wEL_sar (i := i) (ad := ad) hk, wA_setL hi (by omega)]; rfl
theorem c_rowF {i k : Nat} (hi : i < 6) (hk : 2 ≤ k ∧ k < 10) {f : Nat → Int32} : (wA cs ad Ls Hs T).set (5 + 14 * i + k) (ad (5 + 14 * i + k), .inl (cs 0, 16, .inl f)) = wA cs ad (va_up Ls i (va_up (Ls i) k f)) Hs T := by
  rw [← wEL_row (i := i) (ad := ad) hk, wA_setL hi (by omega)]
theorem c_sarF {i k : Nat} (hi : i < 6) (hk : 11 ≤ k ∧ k < 14) {f : Nat → Int32} : (wA cs ad Ls Hs T).set (5 + 14 * i + k) (ad (5 + 14 * i + k), .inl (cs 0, 40, .inl f)) = wA cs ad (va_up Ls i (va_up (Ls i) k f)) Hs T := by
  rw [← wEL_sar (i := i) (ad := ad) hk, wA_setL hi (by omega)]
theorem c_objS2 {i : Nat} (hi : i < 6) {x : Int32} : (wA cs ad Ls Hs T).set (5 + 14 * i + 0) (ad (5 + 14 * i + 0), .inr (2, [.ref (ad (5 + 14 * i + 1)), .ref (ad (5 + 14 * i + 10)), .int x, .int (Ls i 0 3)])) = wA cs ad (va_up Ls i (up2 (Ls i) 0 2 x)) Hs T := wA_setL hi (by omega) (upd (Ls i 0) 2 x)
theorem c_objS3 {i : Nat} (hi : i < 6) {x : Int32} : (wA cs ad Ls Hs T).set (5 + 14 * i + 0) (ad (5 + 14 * i + 0), .inr (2, [.ref (ad (5 + 14 * i + 1)), .ref (ad (5 + 14 * i + 10)), .int (Ls i 0 2), .int x])) = wA cs ad (va_up Ls i (up2 (Ls i) 0 3 x)) Hs T := wA_setL hi (by omega) (upd (Ls i 0) 3 x)
theorem c_stoS3 {i : Nat} (hi : i < 6) {x : Int32} : (wA cs ad Ls Hs T).set (5 + 14 * i + 10) (ad (5 + 14 * i + 10), .inr (4, [.ref (ad (5 + 14 * i + 11)), .ref (ad (5 + 14 * i + 12)), .ref (ad (5 + 14 * i + 13)), .int x, .int (Ls i 10 4)])) = wA cs ad (va_up Ls i (up2 (Ls i) 10 3 x)) Hs T := wA_setL hi (by omega) (upd (Ls i 10) 3 x)
theorem c_stoS4 {i : Nat} (hi : i < 6) {x : Int32} : (wA cs ad Ls Hs T).set (5 + 14 * i + 10) (ad (5 + 14 * i + 10), .inr (4, [.ref (ad (5 + 14 * i + 11)), .ref (ad (5 + 14 * i + 12)), .ref (ad (5 + 14 * i + 13)), .int (Ls i 10 3), .int x])) = wA cs ad (va_up Ls i (up2 (Ls i) 10 4 x)) Hs T := wA_setL hi (by omega) (upd (Ls i 10) 4 x)
variable {L : SL}
theorem v_obj {i : Nat} (hi : i < 6) : (wA cs ad (va_up Ls i L) Hs T)[5 + 14 * i + 0]? = some (ad (5 + 14 * i + 0), .inr (2, [.ref (ad (5 + 14 * i + 1)), .ref (ad (5 + 14 * i + 10)), .int (L 0 2), .int (L 0 3)])) := by
  rw [c_obj hi, va_up_self]
theorem v_rows {i : Nat} (hi : i < 6) : (wA cs ad (va_up Ls i L) Hs T)[5 + 14 * i + 1]? = some (ad (5 + 14 * i + 1), .inl (cs 2, 8, .inr (.inr (.inr (.inr (fun m => some (ad (5 + 14 * i + (2 + m))))))))) := c_rows hi
theorem v_row {i k : Nat} (hi : i < 6) (hk : 2 ≤ k ∧ k < 10) : (wA cs ad (va_up Ls i L) Hs T)[5 + 14 * i + k]? = some (ad (5 + 14 * i + k), .inl (cs 0, 16, .inl (L k))) := by
  rw [c_row hi hk, va_up_self]
theorem v_sar {i k : Nat} (hi : i < 6) (hk : 11 ≤ k ∧ k < 14) : (wA cs ad (va_up Ls i L) Hs T)[5 + 14 * i + k]? = some (ad (5 + 14 * i + k), .inl (cs 0, 40, .inl (L k))) := by
  rw [c_sar hi hk, va_up_self]
theorem v_sto {i : Nat} (hi : i < 6) : (wA cs ad (va_up Ls i L) Hs T)[5 + 14 * i + 10]? = some (ad (5 + 14 * i + 10), .inr (4, [.ref (ad (5 + 14 * i + 11)), .ref (ad (5 + 14 * i + 12)), .ref (ad (5 + 14 * i + 13)), .int (L 10 3), .int (L 10 4)])) := by
  rw [c_sto hi, va_up_self]
theorem v_rowS {i k : Nat} (hi : i < 6) (hk : 2 ≤ k ∧ k < 10) {j : Nat} {x : Int32} : (wA cs ad (va_up Ls i L) Hs T).set (5 + 14 * i + k) (ad (5 + 14 * i + k), .inl (cs 0, 16, .inl (upd (L k) j x))) = wA cs ad (va_up Ls i (up2 L k j x)) Hs T := by
  have h := c_rowS (cs := cs) (ad := ad) (Ls := va_up Ls i L) (Hs := Hs) (T := T) hi hk (j := j) (x := x)
  rw [va_up_self, bx_uu] at h
  exact h
theorem v_sarS {i k : Nat} (hi : i < 6) (hk : 11 ≤ k ∧ k < 14) {j : Nat} {x : Int32} : (wA cs ad (va_up Ls i L) Hs T).set (5 + 14 * i + k) (ad (5 + 14 * i + k), .inl (cs 0, 40, .inl (upd (L k) j x))) = wA cs ad (va_up Ls i (up2 L k j x)) Hs T := by
  have h := c_sarS (cs := cs) (ad := ad) (Ls := va_up Ls i L) (Hs := Hs) (T := T) hi hk (j := j) (x := x)
  rw [va_up_self, bx_uu] at h
  exact h
theorem v_objS2 {i : Nat} (hi : i < 6) {x : Int32} : (wA cs ad (va_up Ls i L) Hs T).set (5 + 14 * i + 0) (ad (5 + 14 * i + 0), .inr (2, [.ref (ad (5 + 14 * i + 1)), .ref (ad (5 + 14 * i + 10)), .int x, .int (L 0 3)])) = wA cs ad (va_up Ls i (up2 L 0 2 x)) Hs T := by
  have h := c_objS2 (cs := cs) (ad := ad) (Ls := va_up Ls i L) (Hs := Hs) (T := T) hi (x := x)
  rw [va_up_self, bx_uu] at h
  exact h
theorem v_objS3 {i : Nat} (hi : i < 6) {x : Int32} : (wA cs ad (va_up Ls i L) Hs T).set (5 + 14 * i + 0) (ad (5 + 14 * i + 0), .inr (2, [.ref (ad (5 + 14 * i + 1)), .ref (ad (5 + 14 * i + 10)), .int (L 0 2), .int x])) = wA cs ad (va_up Ls i (up2 L 0 3 x)) Hs T := by
  have h := c_objS3 (cs := cs) (ad := ad) (Ls := va_up Ls i L) (Hs := Hs) (T := T) hi (x := x)
  rw [va_up_self, bx_uu] at h
  exact h
theorem v_stoS3 {i : Nat} (hi : i < 6) {x : Int32} : (wA cs ad (va_up Ls i L) Hs T).set (5 + 14 * i + 10) (ad (5 + 14 * i + 10), .inr (4, [.ref (ad (5 + 14 * i + 11)), .ref (ad (5 + 14 * i + 12)), .ref (ad (5 + 14 * i + 13)), .int x, .int (L 10 4)])) = wA cs ad (va_up Ls i (up2 L 10 3 x)) Hs T := by
  have h := c_stoS3 (cs := cs) (ad := ad) (Ls := va_up Ls i L) (Hs := Hs) (T := T) hi (x := x)
  rw [va_up_self, bx_uu] at h
  exact h
theorem v_stoS4 {i : Nat} (hi : i < 6) {x : Int32} : (wA cs ad (va_up Ls i L) Hs T).set (5 + 14 * i + 10) (ad (5 + 14 * i + 10), .inr (4, [.ref (ad (5 + 14 * i + 11)), .ref (ad (5 + 14 * i + 12)), .ref (ad (5 + 14 * i + 13)), .int (L 10 3), .int x])) = wA cs ad (va_up Ls i (up2 L 10 4 x)) Hs T := by
  have h := c_stoS4 (cs := cs) (ad := ad) (Ls := va_up Ls i L) (Hs := Hs) (T := T) hi (x := x)
  rw [va_up_self, bx_uu] at h
  exact h
/-! the object, the history, the text -/
theorem g_obj : (wA cs ad Ls Hs T)[0]? = some (ad 0, .inr (5, [.ref (ad (5 + 14 * 0 + 0)), .ref (ad (5 + 14 * 1 + 0)), .ref (ad 1), .ref (ad 3)])) := wMk_at (by omega)
theorem g_his : (wA cs ad Ls Hs T)[1]? = some (ad 1, .inr (1, [.ref (ad 2), .int (Hs 0 1), .int (Hs 0 2)])) := wMk_at (by omega)
theorem g_pla : (wA cs ad Ls Hs T)[2]? = some (ad 2, .inl (cs 1, 4, .inr (.inr (.inr (.inr (fun j => some (ad (5 + 14 * (2 + j) + 0)))))))) := wMk_at (by omega)
theorem g_txt : (wA cs ad Ls Hs T)[3]? = some (ad 3, .inr (3, [.ref (ad 4), .int (T 0 1), .int (T 0 2), .int (T 0 3)])) := wMk_at (by omega)
theorem g_byt : (wA cs ad Ls Hs T)[4]? = some (ad 4, .inl (cs 0, 120, .inl (T 1))) := wMk_at (by omega)
theorem five {P : Nat → Prop} (h0 : P 0) (h1 : P 1) (h2 : P 2) (h3 : P 3) (h4 : P 4) : ∀ q, q < 5 → P q := fun q hq => by
  match q, hq with
  | 0, _ => exact h0
  | 1, _ => exact h1
  | 2, _ => exact h2
  | 3, _ => exact h3
  | 4, _ => exact h4
theorem g_hisS1 {x : Int32} : (wA cs ad Ls Hs T).set 1 (ad 1, .inr (1, [.ref (ad 2), .int x, .int (Hs 0 2)])) = wA cs ad Ls (up2 Hs 0 1 x) T := wA_set5 (by omega) rfl (five (fun _ => rfl) (fun h => absurd rfl h) (fun _ => rfl) (fun _ => rfl) (fun _ => rfl))
theorem g_hisS2 {x : Int32} : (wA cs ad Ls Hs T).set 1 (ad 1, .inr (1, [.ref (ad 2), .int (Hs 0 1), .int x])) = wA cs ad Ls (up2 Hs 0 2 x) T := wA_set5 (by omega) rfl (five (fun _ => rfl) (fun h => absurd rfl h) (fun _ => rfl) (fun _ => rfl) (fun _ => rfl))
theorem g_txtS1 {x : Int32} : (wA cs ad Ls Hs T).set 3 (ad 3, .inr (3, [.ref (ad 4), .int x, .int (T 0 2), .int (T 0 3)])) = wA cs ad Ls Hs (up2 T 0 1 x) := wA_set5 (by omega) rfl (five (fun _ => rfl) (fun _ => rfl) (fun _ => rfl) (fun h => absurd rfl h) (fun _ => rfl))
theorem g_txtS2 {x : Int32} : (wA cs ad Ls Hs T).set 3 (ad 3, .inr (3, [.ref (ad 4), .int (T 0 1), .int x, .int (T 0 3)])) = wA cs ad Ls Hs (up2 T 0 2 x) := wA_set5 (by omega) rfl (five (fun _ => rfl) (fun _ => rfl) (fun _ => rfl) (fun h => absurd rfl h) (fun _ => rfl))
theorem g_txtS3 {x : Int32} : (wA cs ad Ls Hs T).set 3 (ad 3, .inr (3, [.ref (ad 4), .int (T 0 1), .int (T 0 2), .int x])) = wA cs ad Ls Hs (up2 T 0 3 x) := wA_set5 (by omega) rfl (five (fun _ => rfl) (fun _ => rfl) (fun _ => rfl) (fun h => absurd rfl h) (fun _ => rfl))
theorem g_bytS {j : Nat} {x : Int32} : (wA cs ad Ls Hs T).set 4 (ad 4, .inl (cs 0, 120, .inl (upd (T 1) j x))) = wA cs ad Ls Hs (up2 T 1 j x) := wA_set5 (by omega) rfl (five (fun _ => rfl) (fun _ => rfl) (fun _ => rfl) (fun _ => rfl) (fun h => absurd rfl h))
end WORLD
