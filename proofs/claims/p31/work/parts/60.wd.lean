/-! THE WORLD, at the start -/
def stW (cs : Nat → ClassId) (x h q t y : Nat) (f : Nat → Option Nat) (aL aT a0 a1 a2 a3 : Nat → Nat) (fL fT f0 f1 f2 f3 : Nat → Option Nat) : va_W := [] ++ lbW cs x h q t y f aL aT a0 a1 a2 a3 fL fT f0 f1 f2 f3
def ixL : List Nat := [0, 29, 30, 87, 88, 1, 2, 3, 4, 5, 6, 7, 8, 9, 10, 11, 12, 13, 14, 15, 16, 17, 18, 19, 20, 21, 22, 23, 24, 25, 26, 27, 28, 31, 32, 33, 34, 35, 36, 37, 38, 39, 40, 41, 42, 43, 44, 45, 46, 47, 48, 49, 50, 51, 52, 53, 54, 55, 56, 57, 58, 59, 60, 61, 62, 63, 64, 65, 66, 67, 68, 69, 70, 71, 72, 73, 74, 75, 76, 77, 78, 79, 80, 81, 82, 83, 84, 85, 86]
def ixI : List Nat := [0, 5, 6, 7, 8, 9, 10, 11, 12, 13, 14, 15, 16, 17, 18, 19, 20, 21, 22, 23, 24, 25, 26, 27, 28, 29, 30, 31, 32, 1, 2, 33, 34, 35, 36, 37, 38, 39, 40, 41, 42, 43, 44, 45, 46, 47, 48, 49, 50, 51, 52, 53, 54, 55, 56, 57, 58, 59, 60, 61, 62, 63, 64, 65, 66, 67, 68, 69, 70, 71, 72, 73, 74, 75, 76, 77, 78, 79, 80, 81, 82, 83, 84, 85, 86, 87, 88, 3, 4]
theorem ix_inv : ∀ i, i < 89 → ixI.getD (ixL.getD i 0) 0 = i := by decide +kernel
theorem arrN (c : ClassId) {n : Nat} {f g : Nat → Value} (h : ∀ j, j < n → f j = g j) : arrV c n f = arrV c n g := by
  unfold arrV
  congr 1
  apply Array.ext
  · simp
  · intro i h1 h2
    simp at h1
    simp [h i h1]
theorem at_ref {D : va_G} {cl : List vw_C} {H : Heap} {a n : Nat} {c : ClassId} {f g : Nat → Option Nat} (e : ∀ j, j < n → f j = g j) (h : va_at D cl (a, .inl (c, n, .inr (.inr (.inr (.inr f))))) H) : va_at D cl (a, .inl (c, n, .inr (.inr (.inr (.inr g))))) H := by
  have h2 : H[a]? = some (vp_cell c (n, .inr (.inr (.inr (.inr f))))) := h
  show H[a]? = some (vp_cell c (n, .inr (.inr (.inr (.inr g)))))
  rw [h2]
  refine congrArg some ?_
  show arrV c n (fun j => va_rf (f j)) = arrV c n (fun j => va_rf (g j))
  exact arrN c (fun j hj => by rw [e j hj])
section WORLD0
variable {D : va_G} {cs : Nat → ClassId} {H : Heap} {x h q t y : Nat} {f : Nat → Option Nat} {aL aT a0 a1 a2 a3 : Nat → Nat} {fL fT f0 f1 f2 f3 : Nat → Option Nat}
def adW (x h q t y : Nat) (aL aT a0 a1 a2 a3 : Nat → Nat) (p : Nat) : Nat := [x, h, q, t, y, aL 0, aL 1, aL 2, aL 3, aL 4, aL 5, aL 6, aL 7, aL 8, aL 9, aL 10, aL 11, aL 12, aL 13, aT 0, aT 1, aT 2, aT 3, aT 4, aT 5, aT 6, aT 7, aT 8, aT 9, aT 10, aT 11, aT 12, aT 13, a0 0, a0 1, a0 2, a0 3, a0 4, a0 5, a0 6, a0 7, a0 8, a0 9, a0 10, a0 11, a0 12, a0 13, a1 0, a1 1, a1 2, a1 3, a1 4, a1 5, a1 6, a1 7, a1 8, a1 9, a1 10, a1 11, a1 12, a1 13, a2 0, a2 1, a2 2, a2 3, a2 4, a2 5, a2 6, a2 7, a2 8, a2 9, a2 10, a2 11, a2 12, a2 13, a3 0, a3 1, a3 2, a3 3, a3 4, a3 5, a3 6, a3 7, a3 8, a3 9, a3 10, a3 11, a3 12, a3 13].getD p 0
set_option maxRecDepth 100000 in
set_option maxHeartbeats 8000000 in
theorem wd_ix (hln : lnO aL fL ∧ lnO aT fT ∧ lnO a0 f0 ∧ lnO a1 f1 ∧ lnO a2 f2 ∧ lnO a3 f3) (hfs : f 0 = some (a0 0) ∧ f 1 = some (a1 0) ∧ f 2 = some (a2 0) ∧ f 3 = some (a3 0)) : ∀ i, i < 89 → ∃ e : va_E, (stW cs x h q t y f aL aT a0 a1 a2 a3 fL fT f0 f1 f2 f3)[ixL.getD i 0]? = some (adW x h q t y aL aT a0 a1 a2 a3 i, e) ∧ (va_at D vwCl (adW x h q t y aL aT a0 a1 a2 a3 i, e) H → va_at D vwCl (adW x h q t y aL aT a0 a1 a2 a3 i, wE cs (adW x h q t y aL aT a0 a1 a2 a3) (fun _ _ _ => 0) (fun _ _ => 0) (fun _ _ => 0) i) H) := by
  intro i hi
  match i, hi with
  | 0, _ => exact ⟨_, rfl, id⟩
  | 1, _ => exact ⟨_, rfl, id⟩
  | 2, _ => exact ⟨_, rfl, at_ref (fun j hj => by
      rcases (show j = 0 ∨ j = 1 ∨ j = 2 ∨ j = 3 by omega) with rfl | rfl | rfl | rfl
      · exact hfs.1
      · exact hfs.2.1
      · exact hfs.2.2.1
      · exact hfs.2.2.2)⟩
  | 3, _ => exact ⟨_, rfl, id⟩
  | 4, _ => exact ⟨_, rfl, id⟩
  | 5, _ => exact ⟨_, rfl, id⟩
  | 6, _ => exact ⟨_, rfl, at_ref (fun j hj => (hln.1 j hj).trans (by
      rcases (show j = 0 ∨ j = 1 ∨ j = 2 ∨ j = 3 ∨ j = 4 ∨ j = 5 ∨ j = 6 ∨ j = 7 by omega) with rfl | rfl | rfl | rfl | rfl | rfl | rfl | rfl <;> rfl))⟩
  | 7, _ => exact ⟨_, rfl, id⟩
  | 8, _ => exact ⟨_, rfl, id⟩
  | 9, _ => exact ⟨_, rfl, id⟩
  | 10, _ => exact ⟨_, rfl, id⟩
  | 11, _ => exact ⟨_, rfl, id⟩
  | 12, _ => exact ⟨_, rfl, id⟩
  | 13, _ => exact ⟨_, rfl, id⟩
  | 14, _ => exact ⟨_, rfl, id⟩
  | 15, _ => exact ⟨_, rfl, id⟩
  | 16, _ => exact ⟨_, rfl, id⟩
  | 17, _ => exact ⟨_, rfl, id⟩
  | 18, _ => exact ⟨_, rfl, id⟩
  | 19, _ => exact ⟨_, rfl, id⟩
  | 20, _ => exact ⟨_, rfl, at_ref (fun j hj => (hln.2.1 j hj).trans (by
      rcases (show j = 0 ∨ j = 1 ∨ j = 2 ∨ j = 3 ∨ j = 4 ∨ j = 5 ∨ j = 6 ∨ j = 7 by omega) with rfl | rfl | rfl | rfl | rfl | rfl | rfl | rfl <;> rfl))⟩
  | 21, _ => exact ⟨_, rfl, id⟩
  | 22, _ => exact ⟨_, rfl, id⟩
  | 23, _ => exact ⟨_, rfl, id⟩
  | 24, _ => exact ⟨_, rfl, id⟩
  | 25, _ => exact ⟨_, rfl, id⟩
  | 26, _ => exact ⟨_, rfl, id⟩
  | 27, _ => exact ⟨_, rfl, id⟩
  | 28, _ => exact ⟨_, rfl, id⟩
  | 29, _ => exact ⟨_, rfl, id⟩
  | 30, _ => exact ⟨_, rfl, id⟩
  | 31, _ => exact ⟨_, rfl, id⟩
  | 32, _ => exact ⟨_, rfl, id⟩
  | 33, _ => exact ⟨_, rfl, id⟩
  | 34, _ => exact ⟨_, rfl, at_ref (fun j hj => (hln.2.2.1 j hj).trans (by
      rcases (show j = 0 ∨ j = 1 ∨ j = 2 ∨ j = 3 ∨ j = 4 ∨ j = 5 ∨ j = 6 ∨ j = 7 by omega) with rfl | rfl | rfl | rfl | rfl | rfl | rfl | rfl <;> rfl))⟩
  | 35, _ => exact ⟨_, rfl, id⟩
  | 36, _ => exact ⟨_, rfl, id⟩
  | 37, _ => exact ⟨_, rfl, id⟩
  | 38, _ => exact ⟨_, rfl, id⟩
  | 39, _ => exact ⟨_, rfl, id⟩
  | 40, _ => exact ⟨_, rfl, id⟩
  | 41, _ => exact ⟨_, rfl, id⟩
  | 42, _ => exact ⟨_, rfl, id⟩
  | 43, _ => exact ⟨_, rfl, id⟩
  | 44, _ => exact ⟨_, rfl, id⟩
  | 45, _ => exact ⟨_, rfl, id⟩
  | 46, _ => exact ⟨_, rfl, id⟩
  | 47, _ => exact ⟨_, rfl, id⟩
  | 48, _ => exact ⟨_, rfl, at_ref (fun j hj => (hln.2.2.2.1 j hj).trans (by
      rcases (show j = 0 ∨ j = 1 ∨ j = 2 ∨ j = 3 ∨ j = 4 ∨ j = 5 ∨ j = 6 ∨ j = 7 by omega) with rfl | rfl | rfl | rfl | rfl | rfl | rfl | rfl <;> rfl))⟩
  | 49, _ => exact ⟨_, rfl, id⟩
  | 50, _ => exact ⟨_, rfl, id⟩
  | 51, _ => exact ⟨_, rfl, id⟩
  | 52, _ => exact ⟨_, rfl, id⟩
  | 53, _ => exact ⟨_, rfl, id⟩
  | 54, _ => exact ⟨_, rfl, id⟩
  | 55, _ => exact ⟨_, rfl, id⟩
  | 56, _ => exact ⟨_, rfl, id⟩
  | 57, _ => exact ⟨_, rfl, id⟩
  | 58, _ => exact ⟨_, rfl, id⟩
  | 59, _ => exact ⟨_, rfl, id⟩
  | 60, _ => exact ⟨_, rfl, id⟩
  | 61, _ => exact ⟨_, rfl, id⟩
  | 62, _ => exact ⟨_, rfl, at_ref (fun j hj => (hln.2.2.2.2.1 j hj).trans (by
      rcases (show j = 0 ∨ j = 1 ∨ j = 2 ∨ j = 3 ∨ j = 4 ∨ j = 5 ∨ j = 6 ∨ j = 7 by omega) with rfl | rfl | rfl | rfl | rfl | rfl | rfl | rfl <;> rfl))⟩
  | 63, _ => exact ⟨_, rfl, id⟩
  | 64, _ => exact ⟨_, rfl, id⟩
  | 65, _ => exact ⟨_, rfl, id⟩
  | 66, _ => exact ⟨_, rfl, id⟩
  | 67, _ => exact ⟨_, rfl, id⟩
  | 68, _ => exact ⟨_, rfl, id⟩
  | 69, _ => exact ⟨_, rfl, id⟩
  | 70, _ => exact ⟨_, rfl, id⟩
  | 71, _ => exact ⟨_, rfl, id⟩
  | 72, _ => exact ⟨_, rfl, id⟩
  | 73, _ => exact ⟨_, rfl, id⟩
  | 74, _ => exact ⟨_, rfl, id⟩
  | 75, _ => exact ⟨_, rfl, id⟩
  | 76, _ => exact ⟨_, rfl, at_ref (fun j hj => (hln.2.2.2.2.2 j hj).trans (by
      rcases (show j = 0 ∨ j = 1 ∨ j = 2 ∨ j = 3 ∨ j = 4 ∨ j = 5 ∨ j = 6 ∨ j = 7 by omega) with rfl | rfl | rfl | rfl | rfl | rfl | rfl | rfl <;> rfl))⟩
  | 77, _ => exact ⟨_, rfl, id⟩
  | 78, _ => exact ⟨_, rfl, id⟩
  | 79, _ => exact ⟨_, rfl, id⟩
  | 80, _ => exact ⟨_, rfl, id⟩
  | 81, _ => exact ⟨_, rfl, id⟩
  | 82, _ => exact ⟨_, rfl, id⟩
  | 83, _ => exact ⟨_, rfl, id⟩
  | 84, _ => exact ⟨_, rfl, id⟩
  | 85, _ => exact ⟨_, rfl, id⟩
  | 86, _ => exact ⟨_, rfl, id⟩
  | 87, _ => exact ⟨_, rfl, id⟩
  | 88, _ => exact ⟨_, rfl, id⟩
  | i + 89, hi => exact absurd hi (by omega)
theorem world0 {A : Nat → Prop} (hln : lnO aL fL ∧ lnO aT fT ∧ lnO a0 f0 ∧ lnO a1 f1 ∧ lnO a2 f2 ∧ lnO a3 f3) (hfs : f 0 = some (a0 0) ∧ f 1 = some (a1 0) ∧ f 2 = some (a2 0) ∧ f 3 = some (a3 0)) (hP : va_P D vwCl (stW cs x h q t y f aL aT a0 a1 a2 a3 fL fT f0 f1 f2 f3) H) (hD : va_D A (stW cs x h q t y f aL aT a0 a1 a2 a3 fL fT f0 f1 f2 f3)) : ∃ ad : Nat → Nat, adOK ad ∧ (∀ p, p < 89 → A (ad p)) ∧ ad 0 = x ∧ va_P D vwCl (wA cs ad (fun _ _ _ => 0) (fun _ _ => 0) (fun _ _ => 0)) H := by
  refine ⟨adW x h q t y aL aT a0 a1 a2 a3, fun i j hi hj e => ?_, fun i hi => ?_, rfl, fun k e hk => ?_⟩
  · obtain ⟨e1, h1, -⟩ := wd_ix (D := D) (H := H) (cs := cs) hln hfs (t := t) (y := y) (x := x) (h := h) (q := q) i hi
    obtain ⟨e2, h2, -⟩ := wd_ix (D := D) (H := H) (cs := cs) hln hfs (t := t) (y := y) (x := x) (h := h) (q := q) j hj
    have h3 := hD.1 _ _ _ _ h1 h2 e
    rw [← ix_inv i hi, ← ix_inv j hj, h3]
  · obtain ⟨e1, h1, -⟩ := wd_ix (D := D) (H := H) (cs := cs) hln hfs (t := t) (y := y) (x := x) (h := h) (q := q) i hi
    exact hD.2 _ _ h1
  · obtain ⟨hk9, rfl⟩ := wMk_inv hk
    obtain ⟨e1, h1, h2⟩ := wd_ix (D := D) (H := H) (cs := cs) hln hfs (t := t) (y := y) (x := x) (h := h) (q := q) k hk9
    exact h2 (hP _ _ h1)
end WORLD0
theorem SS0 (F : Nat → Nat → SL → Prop) (h : ∀ R, F 0 0 R) : SC F (fun _ _ _ => 0) (fun _ _ => 0) ((0, 0, 0), fun _ _ => 0, fun _ _ => 0) 0 (fun _ => ((0, 0, 0), fun _ _ => 0, fun _ _ => 0)) :=
  ⟨⟨⟨by show 0 ≤ 8; omega, by show 0 ≤ 10000; omega, by show 0 ≤ 40; omega, fun m hm => absurd hm (Nat.not_lt_zero m), fun m hm => absurd hm (Nat.not_lt_zero m), fun m hm => absurd hm (Nat.not_lt_zero m), fun m hm => absurd hm (Nat.not_lt_zero m)⟩, h _⟩,
   ⟨rfl, rfl, rfl, fun m c hm _ => absurd hm (Nat.not_lt_zero m), fun k hk => absurd hk (Nat.not_lt_zero k)⟩, by omega, fun j hj => absurd hj (Nat.not_lt_zero j), 0, by omega, rfl, rfl, fun j hj => absurd hj (Nat.not_lt_zero j)⟩
theorem FQ0 (R : SL) : FQ 0 0 R := ⟨fun m hm => absurd hm (Nat.not_lt_zero m), fun m hm => absurd hm (by omega), fun m hm => absurd hm (Nat.not_lt_zero m), fun m hm => absurd hm (Nat.not_lt_zero m)⟩
