/-! THE LAW: what a call on both sides comes to; its script -/
def DK (cod : Nat → Nat) (k : Nat) (v : Int32) : Prop := ∃ kk : Nat, (kk = 1 ∨ kk = 2 ∧ ¬ cod 2 = cod 1 ∨ kk = 3 ∧ cod 3 = 2 ∧ cod 1 = 3) ∧ k = cod kk ∧ v = nI kk
theorem dk_ne {cod : Nat → Nat} {k : Nat} {v : Int32} (h : DK cod k v) : ¬ v = 0 := by
  obtain ⟨kk, h1, -, rfl⟩ := h
  intro z
  have := (nI_eq (a := kk) (b := 0) (by omega) (by omega)).mp z
  omega
theorem dk_id {k : Nat} {v : Int32} (h : DK (fun k => k) k v) : (k = 1 ∧ v = 1) ∨ (k = 2 ∧ v = 2) := by
  obtain ⟨kk, h1 | h1 | h1, rfl, rfl⟩ := h
  · subst h1
    exact Or.inl ⟨rfl, rfl⟩
  · obtain ⟨rfl, -⟩ := h1
    exact Or.inr ⟨rfl, rfl⟩
  · exact absurd h1.2.1 (by decide)
theorem dk_B {k : Nat} {v : Int32} (h : DK codB k v) : (k = 3 ∧ v = 1) ∨ (k = 1 ∧ v = 2) := by
  obtain ⟨kk, h1 | h1 | h1, rfl, rfl⟩ := h
  · subst h1
    exact Or.inl ⟨rfl, rfl⟩
  · obtain ⟨rfl, -⟩ := h1
    exact Or.inr ⟨rfl, rfl⟩
  · exact absurd h1.2.1 (by decide)
theorem dk_C {k : Nat} {v : Int32} (h : DK codC k v) : (k = 3 ∧ v = 1) ∨ (k = 1 ∧ v = 2) ∨ (k = 2 ∧ v = 3) := by
  obtain ⟨kk, h1 | h1 | h1, rfl, rfl⟩ := h
  · subst h1
    exact Or.inl ⟨rfl, rfl⟩
  · obtain ⟨rfl, -⟩ := h1
    exact Or.inr (Or.inl ⟨rfl, rfl⟩)
  · obtain ⟨rfl, -⟩ := h1
    exact Or.inr (Or.inr ⟨rfl, rfl⟩)
theorem dk_2 {k : Nat} {v : Int32} (h : DK (fun _ => 2) k v) : k = 2 ∧ v = 1 := by
  obtain ⟨kk, h1 | h1 | h1, rfl, rfl⟩ := h
  · subst h1
    exact ⟨rfl, rfl⟩
  · exact absurd rfl h1.2
  · exact absurd h1.2.2 (by decide)
theorem r2_out {cod : Nat → Nat} {Ls : Nat → SL} {Hs T : SL} {fC : Option (Sum (Int32 × (Nat → SL) × SL) Nat)} {fM : Option (Int32 × SL)} (o : Int64) (h : R2 cod Ls Hs T fC fM) : ∃ (bv : Int32) (M' : SL) (res : Sum (Int32 × (Nat → SL) × SL) Nat) (v : Int32) (Ls' : Nat → SL) (Hs' : SL) (o' : Int64), fM = some (bv, M') ∧ fC = some res ∧ M' 0 4 = v ∧ SS Ls' Hs' T M' ∧ (v = 0 → o' = bv.toInt64) ∧ (∀ u, res = Sum.inl u → v = 0 ∧ Ls' = u.2.1 ∧ Hs' = u.2.2 ∧ o' = u.1.toInt64) ∧ ∀ k, res = Sum.inr k → (Ls' = Ls ∧ Hs' = Hs ∧ o' = o) ∧ DK cod k v := by
  obtain ⟨bv, M', e, ⟨h0, Ls', Hs', e2, hS⟩ | ⟨k, hk, e2, h0, hS⟩⟩ := h
  · exact ⟨bv, M', _, 0, Ls', Hs', bv.toInt64, e, e2, h0, hS, fun _ => rfl, fun u hu => by cases hu; exact ⟨rfl, rfl, rfl, rfl⟩, fun k hk => by cases hk⟩
  · have hd : DK cod (cod k) (nI k) := ⟨k, hk, rfl, rfl⟩
    exact ⟨bv, M', _, nI k, Ls, Hs, o, e, e2, h0, hS, fun z => absurd z (dk_ne hd), fun u hu => (by cases hu), fun k' hk' => by cases hk'; exact ⟨⟨rfl, rfl, rfl⟩, hd⟩⟩
theorem rq_out {cod : Nat → Nat} {Ls : Nat → SL} {Hs T : SL} {fC : Option (Sum (Int32 × (Nat → SL)) Nat)} {fM : Option (Int32 × SL)} (o : Int64) (h : RQ cod Ls Hs T fC fM) : ∃ (bv : Int32) (M' : SL) (res : Sum (Int32 × (Nat → SL)) Nat) (v : Int32) (Ls' : Nat → SL) (o' : Int64), fM = some (bv, M') ∧ fC = some res ∧ M' 0 4 = v ∧ SS Ls' Hs T M' ∧ (v = 0 → o' = bv.toInt64) ∧ (∀ u, res = Sum.inl u → v = 0 ∧ Ls' = u.2 ∧ o' = u.1.toInt64) ∧ ∀ k, res = Sum.inr k → (Ls' = Ls ∧ o' = o) ∧ DK cod k v := by
  obtain ⟨bv, M', e, ⟨h0, Ls', e2, hS⟩ | ⟨k, hk, e2, h0, hS⟩⟩ := h
  · exact ⟨bv, M', _, 0, Ls', bv.toInt64, e, e2, h0, hS, fun _ => rfl, fun u hu => by cases hu; exact ⟨rfl, rfl, rfl⟩, fun k hk => by cases hk⟩
  · have hd : DK cod (cod k) (nI k) := ⟨k, hk, rfl, rfl⟩
    exact ⟨bv, M', _, nI k, Ls, o, e, e2, h0, hS, fun z => absurd z (dk_ne hd), fun u hu => (by cases hu), fun k' hk' => by cases hk'; exact ⟨⟨rfl, rfl⟩, hd⟩⟩
theorem r0_out {cod : Nat → Nat} {Ls : Nat → SL} {Hs T : SL} {fC : Option (Sum Int32 Nat)} {fM : Option (Int32 × SL)} (o : Int64) (h : R0 cod Ls Hs T fC fM) : ∃ (bv : Int32) (M' : SL) (res : Sum Int32 Nat) (v : Int32) (o' : Int64), fM = some (bv, M') ∧ fC = some res ∧ M' 0 4 = v ∧ SS Ls Hs T M' ∧ (v = 0 → o' = bv.toInt64) ∧ (∀ u, res = Sum.inl u → v = 0 ∧ o' = u.toInt64) ∧ ∀ k, res = Sum.inr k → o' = o ∧ DK cod k v := by
  obtain ⟨bv, M', e, hS, ⟨h0, e2⟩ | ⟨k, hk, e2, h0⟩⟩ := h
  · exact ⟨bv, M', _, 0, bv.toInt64, e, e2, h0, hS, fun _ => rfl, fun u hu => by cases hu; exact ⟨rfl, rfl⟩, fun k hk => by cases hk⟩
  · have hd : DK cod (cod k) (nI k) := ⟨k, hk, rfl, rfl⟩
    exact ⟨bv, M', _, nI k, o, e, e2, h0, hS, fun z => absurd z (dk_ne hd), fun u hu => (by cases hu), fun k' hk' => by cases hk'; exact ⟨rfl, hd⟩⟩
theorem rt_out {Ls : Nat → SL} {Hs T : SL} {fC : Option (Sum (Int32 × SL) Nat)} {fM : Option (Int32 × SL)} (o : Int64) (h : RT Ls Hs fC fM T) : ∃ (bv : Int32) (M' : SL) (res : Sum (Int32 × SL) Nat) (v : Int32) (T' : SL) (o' : Int64), fM = some (bv, M') ∧ fC = some res ∧ M' 0 4 = v ∧ SS Ls Hs T' M' ∧ (v = 0 → o' = bv.toInt64) ∧ (∀ u, res = Sum.inl u → v = 0 ∧ T' = u.2 ∧ o' = u.1.toInt64) ∧ ∀ k, res = Sum.inr k → (T' = T ∧ o' = o) ∧ DK (fun k => k) k v := by
  obtain ⟨bv, M', e, ⟨h0, T', e2, hS⟩ | ⟨k, hk, e2, h0, hS⟩⟩ := h
  · exact ⟨bv, M', _, 0, T', bv.toInt64, e, e2, h0, hS, fun _ => rfl, fun u hu => by cases hu; exact ⟨rfl, rfl, rfl⟩, fun k hk => by cases hk⟩
  · have hd : DK (fun k => k) k (nI k) := ⟨k, by rcases hk with h1 | h1 | h1; exact Or.inl h1; exact Or.inr (Or.inl h1); exact h1.elim, rfl, rfl⟩
    exact ⟨bv, M', _, nI k, T, o, e, e2, h0, hS, fun z => absurd z (dk_ne hd), fun u hu => (by cases hu), fun k' hk' => by cases hk'; exact ⟨⟨rfl, rfl⟩, hd⟩⟩
theorem rd_out {Ls : Nat → SL} {Hs T : SL} {fC : Option (Sum (Int32 × (Nat → SL) × SL) Nat)} {fM : Option (Int32 × SL × Int64)} (o : Int64) (h : RD Ls Hs T fC fM) : ∃ (bv : Int32) (M' : SL) (dr' : Int64) (res : Sum (Int32 × (Nat → SL) × SL) Nat) (v : Int32) (Ls' : Nat → SL) (Hs' : SL) (o' : Int64), fM = some (bv, M', dr') ∧ fC = some res ∧ M' 0 4 = v ∧ SS Ls' Hs' T M' ∧ (v = 0 → o' = bv.toInt64) ∧ (∀ u, res = Sum.inl u → v = 0 ∧ Ls' = u.2.1 ∧ Hs' = u.2.2 ∧ o' = u.1.toInt64) ∧ ∀ k, res = Sum.inr k → (Ls' = Ls ∧ Hs' = Hs ∧ o' = o) ∧ DK codC k v := by
  obtain ⟨bv, M', dr', e, ⟨h0, Ls', Hs', e2, hS⟩ | ⟨k, hk, e2, h0, hS⟩⟩ := h
  · exact ⟨bv, M', dr', _, 0, Ls', Hs', bv.toInt64, e, e2, h0, hS, fun _ => rfl, fun u hu => by cases hu; exact ⟨rfl, rfl, rfl, rfl⟩, fun k hk => by cases hk⟩
  · have hd : DK codC (codC k) (nI k) := ⟨k, hk, rfl, rfl⟩
    exact ⟨bv, M', dr', _, nI k, Ls, Hs, o, e, e2, h0, hS, fun z => absurd z (dk_ne hd), fun u hu => (by cases hu), fun k' hk' => by cases hk'; exact ⟨⟨rfl, rfl, rfl⟩, hd⟩⟩
theorem rm_out {Ls : Nat → SL} {Hs T : SL} {fC : Option (Sum UInt64 Nat)} {fM : Option (UInt64 × SL)} (od : UInt64) (h : RM0 Ls Hs T fC fM) : ∃ (bv : UInt64) (M' : SL) (res : Sum UInt64 Nat) (v : Int32) (od' : UInt64), fM = some (bv, M') ∧ fC = some res ∧ M' 0 4 = v ∧ SS Ls Hs T M' ∧ (v = 0 → od' = bv) ∧ (∀ u, res = Sum.inl u → v = 0 ∧ od' = u) ∧ ∀ k, res = Sum.inr k → od' = od ∧ (k = 3 ∧ v = 1) := by
  obtain ⟨bv, M', e, hS, ⟨h0, e2⟩ | ⟨e2, h0⟩⟩ := h
  · exact ⟨bv, M', _, 0, bv, e, e2, h0, hS, fun _ => rfl, fun u hu => by cases hu; exact ⟨rfl, rfl⟩, fun k hk => by cases hk⟩
  · exact ⟨bv, M', _, 1, od, e, e2, h0, hS, fun z => absurd z (by decide), fun u hu => (by cases hu), fun k' hk' => by cases hk'; exact ⟨rfl, rfl, rfl⟩⟩
theorem np1 (i : Nat) : nI (i + 1) = nI i + 1 := (show nI i + 1 = nI (i + 1) from nI_add i 1).symm
theorem np2 (i : Nat) : nI (i + 2) = nI i + 2 := (show nI i + 2 = nI (i + 2) from nI_add i 2).symm
theorem np3 (i : Nat) : nI (i + 3) = nI i + 3 := (show nI i + 3 = nI (i + 3) from nI_add i 3).symm
theorem np4 (i : Nat) : nI (i + 4) = nI i + 4 := (show nI i + 4 = nI (i + 4) from nI_add i 4).symm
theorem np5 (i : Nat) : nI (i + 5) = nI i + 5 := (show nI i + 5 = nI (i + 5) from nI_add i 5).symm
theorem np6 (i : Nat) : nI (i + 6) = nI i + 6 := (show nI i + 6 = nI (i + 6) from nI_add i 6).symm
theorem lg_self (x : Int64) : lg_cmp x x = 0 := by
  unfold lg_cmp
  rw [if_neg (fun z => Int64.lt_irrefl z), if_pos rfl]
section LKROWS
variable {p : Program} {l : Launch} {e : Env} {R : Room} {s : State} {m : MethodId} {args : Array Value} {below : List Frame} {meth : Method} {c : Code} {H : Heap} {locs : List Loc} {cells slots : Nat} {Q : State → Prop}
variable {cc : ByteArray} {pc : Nat} {ls : Array Slot} {rest : List Value} {nL : Nat} {ret : Option FieldType} {own : String} {ws : List Cond} {D : va_G} {cs : Nat → ClassId} {ad : Nat → Nat}
theorem k_sld (C : Cx p s m args meth c cc nL ret own ws) {bs L : Nat} {xs : Nat → Int32} (hX : va_X bs L xs s s.heap) (hbl : bs < s.heap.size) (hbA : ¬ Afr ad s.heap.size bs) (hL : L ≤ 3072) (hS : va_S (Afr ad s.heap.size) s.heap H locs) {j : Nat} (hj : j < L) (d : decode cc pc = .ok (.iaload, 1))
    (kk : W p l e R s m args below meth c H locs cells slots Q (F0 m (pc + 1) ls (.int (xs j) :: rest))) : W p l e R s m args below meth c H locs cells slots Q (F0 m pc ls (.int (nI j) :: .ref bs :: rest)) := by
  refine va_sld C.1 C.2.1 hX hbl hbA hS (vp_in_nI hj (by omega)) d ?_
  rw [nI_clamp (by omega)]
  exact kk
end LKROWS
abbrev lvL (bs : Nat) (ad : Nat → Nat) (x : Int32) : List (Nat × Value) := [(0, .ref bs), (1, .ref (ad 0)), (2, .ref (ad 89)), (3, .ref (ad 95)), (4, .ref (ad 96)), (5, .int x)]
/-- where the law stands: the machine, the tables' words, what throws and catches need, the script -/
def LX (p : Program) (l : Launch) (s : State) (m : MethodId) (meth : Method) (c : Code) (bs L : Nat) (xs : Nat → Int32) (D : va_G) (cs : Nat → ClassId) (ad : Nat → Nat) : Prop :=
  Cx p s m #[.ref bs] meth c code 9 ret RL lw_tbl ∧ Gx D cs ad s ∧ XS ad s.heap.size s s.heap ∧ NC s ∧ YC s ∧ va_X bs L xs s s.heap ∧ bs < s.heap.size ∧ (¬ Afr ad s.heap.size bs) ∧ L ≤ 3072 ∧ l.stackTraces = false
/-- what follows a call, at the end of the loop's body -/
def LK (p : Program) (l : Launch) (e : Env) (s : State) (m : MethodId) (bs : Nat) (below : List Frame) (meth : Method) (c : Code) (D : va_G) (cs : Nat → ClassId) (ad : Nat → Nat) (i cells slots : Nat) (Q : State → Prop) : Prop :=
  ∀ (Ls : Nat → SL) (Hs T M : SL) (dr hs o : Int64) (od : UInt64) (H : Heap) (locs : List Loc) (ls : Array Slot), SS Ls Hs T M → va_P D vwCl (wA cs ad Ls Hs T M dr hs o od) H → va_S (Afr ad s.heap.size) s.heap H locs → lv_has ls 9 (lvL bs ad (nI i)) → W p l e room_1 s m #[.ref bs] below meth c H locs (cells + 3) (slots + 18) Q (F0 m 1643 ls [])
