theorem nar_0 : narrow .boolean (.int 0) = .int 0 := rfl
theorem nar_1 : narrow .boolean (.int 1) = .int 1 := rfl
theorem if_n {α : Type} {c : Prop} [Decidable c] {a b r : α} (hc : c) (h : (if ¬ c then a else b) = r) : b = r := by
  rw [if_neg (fun q => q hc)] at h
  exact h
def dnn (x y : UInt64) : Bool := decide (FP.ddiv x y &&& 0x7fffffffffffffff ≤ 0x7ff0000000000000)
theorem dnn_out {x y : UInt64} (h : dnn x y = true) : vf_n64 (FP.ddiv x y) := by
  unfold dnn at h
  unfold vf_n64
  exact of_decide_eq_true h
def f_X0_drawBelow (x : Int64) (x1 : Int32) : Option (Int32 × Int64) :=
  lt_ ((1103515245 * x : Int64)) (fun w1 => lt_ ((w1 + 12345 : Int64)) (fun w2 => lt_ ((w2 - w2 / 2147483648 * 2147483648 : Int64)) (fun w3 => (if 1 ≤ x1 then lt_ ((w3 / 65536 : Int64)) (fun w4 => lt_ (x1.toInt64) (fun w5 => gd (nzl w5) (lt_ ((w4 - w4 / w5 * w5 : Int64)) (fun w6 => lt_ (w6.toInt32) (fun v7 => some (v7, w3)))))) else some (0, w3)))))
/-! functions of X4 -/
def f_X4_copy (i : Nat) (j : Nat) (Ls : Nat → SL) : Option ((Nat → SL)) :=
  lt_ ((Ls i) 10 3) (fun v1 => gd (cpo v1 40 40) ( lt_ (va_up Ls j (va_up (Ls j) 11 (va_cpy (Ls i 11) (Ls j 11) 0 0 v1.toNatClampNeg))) (fun Ls3 => gd (cpo v1 40 40) ( lt_ (va_up Ls3 j (va_up (Ls3 j) 12 (va_cpy (Ls3 i 12) (Ls3 j 12) 0 0 v1.toNatClampNeg))) (fun Ls5 => gd (cpo v1 40 40) ( lt_ (va_up Ls5 j (va_up (Ls5 j) 13 (va_cpy (Ls5 i 13) (Ls5 j 13) 0 0 v1.toNatClampNeg))) (fun Ls7 => lt_ (va_up Ls7 j (up2 (Ls7 j) 10 3 v1)) (fun Ls8 => some Ls8))))))))
def f_X4_plan (L : SL) (x1 : Int32) (x2 : Int32) (x3 : Int32) : Option (SL) :=
  lt_ (L 10 3) (fun v1 => (if 40 ≤ v1 then  some L else lt_ (L 10 3) (fun v3 => gd (chk v3 40) ( lt_ (up2 L 11 v3.toNatClampNeg x1) (fun L5 => lt_ (L5 10 3) (fun v6 => gd (chk v6 40) ( lt_ (up2 L5 12 v6.toNatClampNeg x2) (fun L8 => lt_ (L8 10 3) (fun v9 => gd (chk v9 40) ( lt_ (up2 L8 13 v9.toNatClampNeg x3) (fun L11 => lt_ (L11 10 3) (fun v12 => lt_ ((v12 + 1 : Int32)) (fun v13 => lt_ (up2 L11 10 3 v13) (fun L14 => some L14))))))))))))))
def f_X4_dropAfter_b49 (K12 : SL → Int32 → Int32 → Int32 → Option (Int32 × SL)) (L : SL) (x1 : Int32) (x2 : Int32) (x3 : Int32) : Option (Int32 × SL) :=
  lt_ (x3 + 1) (fun z1 => K12 L x1 x2 z1)
def f_X4_dropAfter_b12 (K12 : SL → Int32 → Int32 → Int32 → Option (Int32 × SL)) (L : SL) (x1 : Int32) (x2 : Int32) (x3 : Int32) : Option (Int32 × SL) :=
   (if x2 ≤ x3 then lt_ (L 10 3) (fun v2 => lt_ ((x2 - v2 : Int32)) (fun v3 => some (v3, L))) else gd (chk x3 40) ( lt_ (L 12 x3.toNatClampNeg) (fun v5 => (if x1 < v5 then  f_X4_dropAfter_b49 K12 L x1 x2 x3 else lt_ (L 11 x3.toNatClampNeg) (fun v7 => lt_ (L 12 x3.toNatClampNeg) (fun v8 => lt_ (L 13 x3.toNatClampNeg) (fun v9 => bd (f_X4_plan L v7 v8 v9) (fun L10 => f_X4_dropAfter_b49 K12 L10 x1 x2 x3))))))))
def f_X4_dropAfter_h12 : Nat → SL → Int32 → Int32 → Int32 → Option (Int32 × SL)
  | 0, _, _, _, _ => none
  | n + 1, L, x1, x2, x3 => f_X4_dropAfter_b12  (f_X4_dropAfter_h12  n) L x1 x2 x3
def f_X4_dropAfter (L : SL) (x1 : Int32) : Option (Int32 × SL) :=
  lt_ (L 10 3) (fun v1 => lt_ (up2 L 10 3 0) (fun L2 => f_X4_dropAfter_h12 fuel L2 x1 v1 0))
def f_X4_value (L : SL) (x1 : Int32) (x2 : Int32) : Option (Int32) :=
   (if ¬ x2 = 0 then  (if ¬ x2 = 1 then gd (chk x1 40) ( lt_ (L 13 x1.toNatClampNeg) (fun v4 => some v4)) else gd (chk x1 40) ( lt_ (L 12 x1.toNatClampNeg) (fun v6 => some v6))) else gd (chk x1 40) ( lt_ (L 11 x1.toNatClampNeg) (fun v8 => some v8)))
def f_X4_lookAt_b83 (K10 : SL → Int32 → Int32 → Int32 → Option (Int32 × SL)) (L : SL) (x1 : Int32) (x2 : Int32) (x3 : Int32) : Option (Int32 × SL) :=
  lt_ (x3 + 1) (fun z1 => K10 L x1 x2 z1)
def f_X4_lookAt_b10 (K10 : SL → Int32 → Int32 → Int32 → Option (Int32 × SL)) (L : SL) (x1 : Int32) (x2 : Int32) (x3 : Int32) : Option (Int32 × SL) :=
  lt_ (L 10 3) (fun v1 => (if v1 ≤ x3 then  some (x2, L) else gd (chk x3 40) ( lt_ (L 12 x3.toNatClampNeg) (fun v4 => lt_ (L 13 x3.toNatClampNeg) (fun v5 => lt_ ((v4 + v5 : Int32)) (fun v6 => (if v4 ≤ x1 then  (if v6 ≤ x1 then  f_X4_lookAt_b83 K10 L x1 x2 x3 else lt_ (L 10 4) (fun v9 => lt_ (L 11 x3.toNatClampNeg) (fun v10 => lt_ ((1 <<< (v10 &&& 31) : Int32)) (fun v11 => lt_ ((v9 ||| v11 : Int32)) (fun v12 => lt_ (up2 L 10 4 v12) (fun L13 => lt_ ((if v6 < x2 then v6 else x2 : Int32)) (fun v14 => f_X4_lookAt_b83 K10 L13 x1 v14 x3))))))) else lt_ ((if v4 < x2 then v4 else x2 : Int32)) (fun v15 => f_X4_lookAt_b83 K10 L x1 v15 x3))))))))
def f_X4_lookAt_h10 : Nat → SL → Int32 → Int32 → Int32 → Option (Int32 × SL)
  | 0, _, _, _, _ => none
  | n + 1, L, x1, x2, x3 => f_X4_lookAt_b10  (f_X4_lookAt_h10  n) L x1 x2 x3
def f_X4_lookAt (L : SL) (x1 : Int32) : Option (Int32 × SL) :=
  lt_ (up2 L 10 4 0) (fun L1 => f_X4_lookAt_h10 fuel L1 x1 1000000 0)
def f_X4_isDown (L : SL) (x1 : Int32) : Option (Int32) :=
  lt_ (L 10 4) (fun v1 => lt_ ((v1 >>> (x1 &&& 31) : Int32)) (fun v2 => lt_ ((v2 &&& 1 : Int32)) (fun v3 => (if ¬ v3 = 1 then  some (0 : Int32) else  some (1 : Int32)))))
def f_X4_mixInto_b27 (K15 : SL → Int64 → Int32 → Option (Int64)) (K27 : SL → Int64 → Int32 → Int32 → Option (Int64)) (L : SL) (y3 : Int64) (x5 : Int32) (x6 : Int32) : Option (Int64) :=
   (if 3 ≤ x6 then lt_ (x5 + 1) (fun z2 => K15 L y3 z2) else lt_ ((31 * y3 : Int64)) (fun w3 => bd (f_X4_value L x5 x6) (fun r4 => lt_ ((r4 : Int32).toInt64) (fun w6 => lt_ ((w3 + w6 : Int64)) (fun w7 => lt_ (x6 + 1) (fun z8 => K27 L w7 x5 z8))))))
def f_X4_mixInto_h27 (K15 : SL → Int64 → Int32 → Option (Int64)) : Nat → SL → Int64 → Int32 → Int32 → Option (Int64)
  | 0, _, _, _, _ => none
  | n + 1, L, y3, x5, x6 => f_X4_mixInto_b27 K15 (f_X4_mixInto_h27 K15 n) L y3 x5 x6
def f_X4_mixInto_b15 (K15 : SL → Int64 → Int32 → Option (Int64)) (L : SL) (y3 : Int64) (x5 : Int32) : Option (Int64) :=
  lt_ (L 10 3) (fun v1 => (if v1 ≤ x5 then  some y3 else  f_X4_mixInto_h27 K15 fuel L y3 x5 0))
def f_X4_mixInto_h15 : Nat → SL → Int64 → Int32 → Option (Int64)
  | 0, _, _, _ => none
  | n + 1, L, y3, x5 => f_X4_mixInto_b15  (f_X4_mixInto_h15  n) L y3 x5
def f_X4_mixInto (L : SL) (y1 : Int64) : Option (Int64) :=
  lt_ ((31 * y1 : Int64)) (fun w1 => lt_ (L 10 3) (fun v2 => lt_ ((v2 : Int32).toInt64) (fun w3 => lt_ ((w1 + w3 : Int64)) (fun w4 => f_X4_mixInto_h15 fuel L w4 0))))

/-! functions of X2 -/
def f_X2_copy_b11 (i : Nat) (j : Nat) (K11 : (Nat → SL) → Int32 → Option ((Nat → SL))) (Ls : Nat → SL) (x2 : Int32) : Option ((Nat → SL)) :=
  lt_ ((Ls i) 0 2) (fun v1 => (if v1 ≤ x2 then bd (f_X4_copy i j Ls) (fun Ls3 => lt_ ((Ls3 i) 0 2) (fun v5 => lt_ (va_up Ls3 j (up2 (Ls3 j) 0 2 v5)) (fun Ls6 => lt_ ((Ls6 i) 0 3) (fun v7 => lt_ (va_up Ls6 j (up2 (Ls6 j) 0 3 v7)) (fun Ls8 => some Ls8))))) else gd (chk x2 8) ( lt_ (2 + x2.toNatClampNeg) (fun kq10 => lt_ (2 + x2.toNatClampNeg) (fun kq11 => lt_ (va_up Ls j (va_up (Ls j) kq11 (va_cpy (Ls i kq10) (Ls j kq11) 0 0 16))) (fun Ls12 => lt_ (x2 + 1) (fun z13 => K11 Ls12 z13)))))))
def f_X2_copy_h11 (i : Nat) (j : Nat) : Nat → (Nat → SL) → Int32 → Option ((Nat → SL))
  | 0, _, _ => none
  | n + 1, Ls, x2 => f_X2_copy_b11 i j (f_X2_copy_h11 i j n) Ls x2
def f_X2_copy (i : Nat) (j : Nat) (Ls : Nat → SL) : Option ((Nat → SL)) :=
   f_X2_copy_h11 i j fuel Ls 0
def f_X2_takeApart (L : SL) : Option (SL) :=
  lt_ (up2 L 0 2 0) (fun L1 => lt_ (up2 L1 0 3 0) (fun L2 => lt_ (up2 L2 10 3 0) (fun L3 => some L3)))
def f_X2_empty_b2 (K2 : SL → Nat → Int32 → Option (SL)) (L : SL) (k0 : Nat) (x1 : Int32) : Option (SL) :=
   (if 16 ≤ x1 then lt_ (up2 L k0 6 (-1)) (fun L2 => lt_ (up2 L2 k0 7 1) (fun L3 => some L3)) else gd (chk x1 16) ( lt_ (up2 L k0 x1.toNatClampNeg 0) (fun L5 => lt_ (x1 + 1) (fun z6 => K2 L5 k0 z6))))
def f_X2_empty_h2 : Nat → SL → Nat → Int32 → Option (SL)
  | 0, _, _, _ => none
  | n + 1, L, k0, x1 => f_X2_empty_b2  (f_X2_empty_h2  n) L k0 x1
def f_X2_empty (k0 : Nat) (L : SL) : Option (SL) :=
   f_X2_empty_h2 fuel L k0 5
def f_X2_join (L : SL) (x1 : Int32) (x2 : Int32) (x3 : Int32) : Option (Int32 × SL) :=
  lt_ (L 0 2) (fun v1 => (if v1 < 8 then lt_ (L 0 2) (fun v3 => gd (chk v3 8) ( lt_ (2 + v3.toNatClampNeg) (fun kq5 => lt_ (up2 L kq5 0 x1) (fun L6 => lt_ (up2 L6 kq5 1 x2) (fun L7 => lt_ (up2 L7 kq5 2 0) (fun L8 => lt_ (up2 L8 kq5 3 40) (fun L9 => lt_ (up2 L9 kq5 4 x3) (fun L10 => bd (f_X2_empty kq5 L10) (fun L11 => lt_ (L11 0 2) (fun v13 => lt_ ((v13 + 1 : Int32)) (fun v14 => lt_ (up2 L11 0 2 v14) (fun L15 => lt_ (L15 0 2) (fun v16 => lt_ ((v16 - 1 : Int32)) (fun v17 => some (v17, L15))))))))))))))) else  some ((-1), L)))
def f_X2_mark (L : SL) (x1 : Int32) (x2 : Int32) (x3 : Int32) : Option (SL) :=
   (if x1 < 0 then  some L else lt_ (L 0 2) (fun v2 => (if v2 ≤ x1 then  some L else gd (chk x1 8) ( lt_ (2 + x1.toNatClampNeg) (fun kq5 => lt_ (up2 L kq5 2 x2) (fun L6 => lt_ (2 + x1.toNatClampNeg) (fun kq7 => lt_ (up2 L6 kq7 3 x3) (fun L8 => some L8))))))))
def f_X2_beginAnew_b7 (K7 : SL → Int32 → Option (SL)) (L : SL) (x1 : Int32) : Option (SL) :=
  lt_ (L 0 2) (fun v1 => (if v1 ≤ x1 then  some L else gd (chk x1 8) ( lt_ (2 + x1.toNatClampNeg) (fun kq4 => bd (f_X2_empty kq4 L) (fun L5 => lt_ (x1 + 1) (fun z7 => K7 L5 z7))))))
def f_X2_beginAnew_h7 : Nat → SL → Int32 → Option (SL)
  | 0, _, _ => none
  | n + 1, L, x1 => f_X2_beginAnew_b7  (f_X2_beginAnew_h7  n) L x1
def f_X2_beginAnew (L : SL) : Option (SL) :=
  lt_ (up2 L 0 3 0) (fun L1 => f_X2_beginAnew_h7 fuel L1 0)
def f_X2_countFills_b46 (K2 : SL → Int32 → Option (SL)) (L : SL) (x1 : Int32) : Option (SL) :=
  lt_ (x1 + 1) (fun z1 => K2 L z1)
def f_X2_countFills_b2 (K2 : SL → Int32 → Option (SL)) (L : SL) (x1 : Int32) : Option (SL) :=
  lt_ (L 0 2) (fun v1 => lt_ ((v1 - 1 : Int32)) (fun v2 => (if v2 ≤ x1 then  some L else gd (chk x1 8) ( lt_ (2 + x1.toNatClampNeg) (fun kq5 => lt_ (L kq5 15) (fun v6 => lt_ (L kq5 5) (fun v7 => lt_ ((v6 + v7 : Int32)) (fun v8 => lt_ (up2 L kq5 15 v8) (fun L9 => lt_ (L9 kq5 5) (fun v10 => lt_ (L9 kq5 4) (fun v11 => (if v10 < v11 then  f_X2_countFills_b46 K2 L9 x1 else lt_ (L9 kq5 14) (fun v13 => lt_ ((v13 + 1 : Int32)) (fun v14 => lt_ (up2 L9 kq5 14 v14) (fun L15 => f_X2_countFills_b46 K2 L15 x1)))))))))))))))
def f_X2_countFills_h2 : Nat → SL → Int32 → Option (SL)
  | 0, _, _ => none
  | n + 1, L, x1 => f_X2_countFills_b2  (f_X2_countFills_h2  n) L x1
def f_X2_countFills (L : SL) : Option (SL) :=
   f_X2_countFills_h2 fuel L 0
def f_X2_chooseSpeed_b26 (L : SL) (k2 : Nat) : Option (SL) :=
  lt_ (up2 L k2 7 1) (fun L1 => some L1)
def f_X2_chooseSpeed (L : SL) (x1 : Int32) : Option (SL) :=
  gd (chk x1 8) ( lt_ (2 + x1.toNatClampNeg) (fun kq2 => lt_ (L 0 2) (fun v3 => lt_ ((v3 - 1 : Int32)) (fun v4 => (if x1 = v4 then  f_X2_chooseSpeed_b26 L kq2 else lt_ (L kq2 5) (fun v6 => lt_ (L kq2 2) (fun v7 => (if v7 < v6 then lt_ (L kq2 5) (fun v9 => lt_ (L kq2 3) (fun v10 => (if v9 < v10 then  some L else lt_ (up2 L kq2 7 0) (fun L12 => some L12)))) else  f_X2_chooseSpeed_b26 L kq2))))))))
def f_X2_noteTurn (k0 : Nat) (L : SL) (x1 : Int32) : Option (SL) :=
  lt_ (up2 L k0 8 x1) (fun L1 => lt_ ((9 + x1 : Int32)) (fun v2 => lt_ ((v2 - 1 : Int32)) (fun v3 => gd (chk v3 16) ( lt_ (L1 k0 v3.toNatClampNeg) (fun v5 => lt_ ((v5 + 1 : Int32)) (fun v6 => lt_ (up2 L1 k0 v3.toNatClampNeg v6) (fun L7 => some L7)))))))
def f_X2_presentCycle (k0 : Nat) (L : SL) : Option (Int32) :=
  lt_ (L k0 7) (fun v1 => (if ¬ v1 = 1 then lt_ (L k0 0) (fun v3 => some v3) else lt_ (L k0 1) (fun v4 => some v4)))
def f_X2_release_b84 (L : SL) (k2 : Nat) : Option (SL) :=
  lt_ (up2 L k2 6 (-1)) (fun L1 => lt_ (L1 k2 13) (fun v2 => lt_ ((v2 + 1 : Int32)) (fun v3 => lt_ (up2 L1 k2 13 v3) (fun L4 => some L4))))
def f_X2_release_b64 (L : SL) (k2 : Nat) : Option (SL) :=
  lt_ (L k2 5) (fun v1 => lt_ (L k2 4) (fun v2 => (if v2 ≤ v1 then  some L else lt_ (L k2 5) (fun v4 => lt_ ((v4 + 1 : Int32)) (fun v5 => lt_ (up2 L k2 5 v5) (fun L6 => f_X2_release_b84 L6 k2))))))
def f_X2_release (L : SL) (x1 : Int32) : Option (SL) :=
  gd (chk x1 8) ( lt_ (2 + x1.toNatClampNeg) (fun kq2 => lt_ (L 0 2) (fun v3 => lt_ ((v3 - 1 : Int32)) (fun v4 => (if v4 ≤ x1 then  f_X2_release_b84 L kq2 else lt_ ((x1 + 1 : Int32)) (fun v6 => gd (chk v6 8) ( lt_ (2 + v6.toNatClampNeg) (fun kq8 => lt_ (L kq2 5) (fun v9 => (if ¬ v9 = 0 then  f_X2_release_b64 L kq2 else lt_ (L kq8 6) (fun v11 => (if ¬ v11 = (-1) then  f_X2_release_b64 L kq2 else lt_ ((x1 + 1 : Int32)) (fun v13 => bd (f_X4_isDown L v13) (fun r14 => (if ¬ r14 = 0 then  f_X2_release_b64 L kq2 else bd (f_X2_presentCycle kq8 L) (fun r17 => lt_ (up2 L kq8 6 r17) (fun L19 => f_X2_release_b84 L19 kq2)))))))))))))))))
def f_X2_takeBottle_b34 (L : SL) (k2 : Nat) : Option (SL) :=
  bd (f_X2_presentCycle k2 L) (fun r1 => lt_ (up2 L k2 6 r1) (fun L3 => some L3))
def f_X2_takeBottle (L : SL) (x1 : Int32) : Option (SL) :=
  gd (chk x1 8) ( lt_ (2 + x1.toNatClampNeg) (fun kq2 => (if x1 ≤ 0 then  f_X2_takeBottle_b34 L kq2 else lt_ ((x1 - 1 : Int32)) (fun v4 => gd (chk v4 8) ( lt_ (2 + v4.toNatClampNeg) (fun kq6 => lt_ (L kq6 5) (fun v7 => (if ¬ v7 = 0 then lt_ (L kq6 5) (fun v9 => lt_ ((v9 - 1 : Int32)) (fun v10 => lt_ (up2 L kq6 5 v10) (fun L11 => f_X2_takeBottle_b34 L11 kq2))) else  some L))))))))
def f_X2_takeTurn_b102 (L : SL) (kk0 : Nat) (s1 : Int32) : Option (SL) :=
  bd (f_X2_noteTurn kk0 L s1) (fun L1 => some L1)
def f_X2_takeTurn_b54 (L : SL) (x1 : Int32) (k2 : Nat) : Option (SL) :=
  lt_ (L k2 6) (fun v1 => (if v1 ≤ 0 then lt_ (L k2 6) (fun v3 => (if ¬ v3 = 0 then  f_X2_takeTurn_b102 L k2 2 else  f_X2_takeTurn_b102 L k2 3)) else lt_ (L k2 6) (fun v5 => lt_ ((v5 - 1 : Int32)) (fun v6 => lt_ (up2 L k2 6 v6) (fun L7 => bd (f_X2_noteTurn k2 L7 1) (fun L8 => lt_ (L8 k2 6) (fun v10 => (if ¬ v10 = 0 then  some L8 else bd (f_X2_release L8 x1) (fun L12 => some L12)))))))))
def f_X2_takeTurn_b41 (L : SL) (x1 : Int32) (k2 : Nat) : Option (SL) :=
  lt_ (L k2 6) (fun v1 => (if ¬ v1 = (-1) then  f_X2_takeTurn_b54 L x1 k2 else bd (f_X2_takeBottle L x1) (fun L3 => f_X2_takeTurn_b54 L3 x1 k2)))
def f_X2_takeTurn (L : SL) (x1 : Int32) : Option (SL) :=
  gd (chk x1 8) ( lt_ (2 + x1.toNatClampNeg) (fun kq2 => bd (f_X2_chooseSpeed L x1) (fun L3 => bd (f_X4_isDown L3 x1) (fun r5 => (if r5 = 0 then lt_ (L3 kq2 6) (fun v8 => (if ¬ v8 = 0 then  f_X2_takeTurn_b41 L3 x1 kq2 else bd (f_X2_release L3 x1) (fun L10 => f_X2_takeTurn_b41 L10 x1 kq2))) else bd (f_X2_noteTurn kq2 L3 4) (fun L12 => some L12))))))
def f_X2_pass_b52 (K9 : SL → Int32 → Int32 → Int32 → Option (SL)) (K52 : SL → Int32 → Int32 → Int32 → Int32 → Option (SL)) (L : SL) (x1 : Int32) (x2 : Int32) (x3 : Int32) (x4 : Int32) : Option (SL) :=
   (if x4 < 0 then bd (f_X2_countFills L) (fun L2 => lt_ (x3 + 1) (fun z4 => K9 L2 x1 x2 z4)) else bd (f_X2_takeTurn L x4) (fun L5 => lt_ (x4 + (-1)) (fun z7 => K52 L5 x1 x2 x3 z7)))
def f_X2_pass_h52 (K9 : SL → Int32 → Int32 → Int32 → Option (SL)) : Nat → SL → Int32 → Int32 → Int32 → Int32 → Option (SL)
  | 0, _, _, _, _, _ => none
  | n + 1, L, x1, x2, x3, x4 => f_X2_pass_b52 K9 (f_X2_pass_h52 K9 n) L x1 x2 x3 x4
def f_X2_pass_b44 (K9 : SL → Int32 → Int32 → Int32 → Option (SL)) (L : SL) (x1 : Int32) (x2 : Int32) (x3 : Int32) : Option (SL) :=
  lt_ (L 0 2) (fun v1 => lt_ ((v1 - 1 : Int32)) (fun v2 => f_X2_pass_h52 K9 fuel L x1 x2 x3 v2))
def f_X2_pass_b9 (K9 : SL → Int32 → Int32 → Int32 → Option (SL)) (L : SL) (x1 : Int32) (x2 : Int32) (x3 : Int32) : Option (SL) :=
   (if x1 ≤ x3 then  some L else lt_ (L 0 3) (fun v2 => lt_ ((v2 + 1 : Int32)) (fun v3 => lt_ (up2 L 0 3 v3) (fun L4 => lt_ (L4 0 3) (fun v5 => (if v5 < x2 then  f_X2_pass_b44 K9 L4 x1 x2 x3 else lt_ (L4 0 3) (fun v7 => bd2 (f_X4_lookAt L4 v7) (fun r8 L9 => f_X2_pass_b44 K9 L9 x1 r8 x3))))))))
def f_X2_pass_h9 : Nat → SL → Int32 → Int32 → Int32 → Option (SL)
  | 0, _, _, _, _ => none
  | n + 1, L, x1, x2, x3 => f_X2_pass_b9  (f_X2_pass_h9  n) L x1 x2 x3
def f_X2_pass (L : SL) (x1 : Int32) : Option (SL) :=
  lt_ (L 0 3) (fun v1 => lt_ ((v1 + 1 : Int32)) (fun v2 => f_X2_pass_h9 fuel L x1 v2 0))
def f_X2_bottlesOut (L : SL) : Option (Int32) :=
  lt_ (L 0 2) (fun v1 => (if ¬ v1 = 0 then lt_ (L 0 2) (fun v3 => lt_ ((v3 - 1 : Int32)) (fun v4 => gd (chk v4 8) ( lt_ (2 + v4.toNatClampNeg) (fun kq6 => lt_ (L kq6 13) (fun v7 => some v7))))) else  some (0 : Int32)))
def f_X2_bottlesInside_b39 (K4 : SL → Int32 → Int32 → Option (Int32)) (L : SL) (x2 : Int32) (s0 : Int32) (s1 : Int32) (s2 : Int32) : Option (Int32) :=
  lt_ ((s1 + s2 : Int32)) (fun v1 => lt_ ((s0 + v1 : Int32)) (fun v2 => lt_ (x2 + 1) (fun z3 => K4 L v2 z3)))
def f_X2_bottlesInside_b4 (K4 : SL → Int32 → Int32 → Option (Int32)) (L : SL) (x1 : Int32) (x2 : Int32) : Option (Int32) :=
  lt_ (L 0 2) (fun v1 => (if v1 ≤ x2 then  some x1 else gd (chk x2 8) ( lt_ (2 + x2.toNatClampNeg) (fun kq4 => lt_ (L kq4 5) (fun v5 => lt_ (2 + x2.toNatClampNeg) (fun kq6 => lt_ (L kq6 6) (fun v7 => (if ¬ v7 = (-1) then  f_X2_bottlesInside_b39 K4 L x2 x1 v5 1 else  f_X2_bottlesInside_b39 K4 L x2 x1 v5 0))))))))
def f_X2_bottlesInside_h4 : Nat → SL → Int32 → Int32 → Option (Int32)
  | 0, _, _, _ => none
  | n + 1, L, x1, x2 => f_X2_bottlesInside_b4  (f_X2_bottlesInside_h4  n) L x1 x2
def f_X2_bottlesInside (L : SL) : Option (Int32) :=
   f_X2_bottlesInside_h4 fuel L 0 0
def f_X2_findLimiting_b47 (K7 : SL → Int32 → Int32 → Int32 → Option (Int32)) (L : SL) (x1 : Int32) (x2 : Int32) (x3 : Int32) : Option (Int32) :=
  lt_ (x3 + 1) (fun z1 => K7 L x1 x2 z1)
def f_X2_findLimiting_b7 (K7 : SL → Int32 → Int32 → Int32 → Option (Int32)) (L : SL) (x1 : Int32) (x2 : Int32) (x3 : Int32) : Option (Int32) :=
  lt_ (L 0 2) (fun v1 => (if v1 ≤ x3 then  some x1 else gd (chk x3 8) ( lt_ (2 + x3.toNatClampNeg) (fun kq4 => lt_ (L kq4 10) (fun v5 => lt_ (2 + x3.toNatClampNeg) (fun kq6 => lt_ (L kq6 11) (fun v7 => lt_ ((v5 + v7 : Int32)) (fun v8 => (if x2 ≤ v8 then  f_X2_findLimiting_b47 K7 L x1 x2 x3 else  f_X2_findLimiting_b47 K7 L x3 v8 x3)))))))))
def f_X2_findLimiting_h7 : Nat → SL → Int32 → Int32 → Int32 → Option (Int32)
  | 0, _, _, _, _ => none
  | n + 1, L, x1, x2, x3 => f_X2_findLimiting_b7  (f_X2_findLimiting_h7  n) L x1 x2 x3
def f_X2_findLimiting (L : SL) : Option (Int32) :=
   f_X2_findLimiting_h7 fuel L 0 1000000 0
def f_X2_upTicks_b57 (K8 : SL → Int32 → Int32 → Int32 → Int32 → Int32 → Option (Int32 × SL)) (L : SL) (x1 : Int32) (x2 : Int32) (x3 : Int32) (x5 : Int32) (x6 : Int32) : Option (Int32 × SL) :=
  lt_ (x5 + 1) (fun z1 => K8 L x1 x2 x3 x6 z1)
def f_X2_upTicks_b8 (K8 : SL → Int32 → Int32 → Int32 → Int32 → Int32 → Option (Int32 × SL)) (L : SL) (x1 : Int32) (x2 : Int32) (x3 : Int32) (x4 : Int32) (x5 : Int32) : Option (Int32 × SL) :=
   (if 80 < x5 then  some (x3, L) else  (if x2 < x4 then  some (x3, L) else bd2 (f_X4_lookAt L x4) (fun r3 L4 => lt_ ((x2 + 1 : Int32)) (fun v6 => lt_ ((if v6 < r3 then v6 else r3 : Int32)) (fun v7 => bd (f_X4_isDown L4 x1) (fun r8 => (if ¬ r8 = 0 then  f_X2_upTicks_b57 K8 L4 x1 x2 x3 x5 v7 else lt_ ((v7 - x4 : Int32)) (fun v11 => lt_ ((x3 + v11 : Int32)) (fun v12 => f_X2_upTicks_b57 K8 L4 x1 x2 v12 x5 v7)))))))))
def f_X2_upTicks_h8 : Nat → SL → Int32 → Int32 → Int32 → Int32 → Int32 → Option (Int32 × SL)
  | 0, _, _, _, _, _, _ => none
  | n + 1, L, x1, x2, x3, x4, x5 => f_X2_upTicks_b8  (f_X2_upTicks_h8  n) L x1 x2 x3 x4 x5
def f_X2_upTicks (L : SL) (x1 : Int32) (x2 : Int32) : Option (Int32 × SL) :=
   f_X2_upTicks_h8 fuel L x1 x2 0 1 0
def f_X2_mostBottles (L : SL) (x1 : Int32) (x2 : Int32) : Option (Int32 × SL) :=
  gd (chk x1 8) ( lt_ (2 + x1.toNatClampNeg) (fun kq2 => lt_ (L kq2 1) (fun v3 => (if 1 ≤ v3 then bd2 (f_X2_upTicks L x1 x2) (fun r5 L6 => gd (nz v3) ( lt_ ((r5 / v3 : Int32)) (fun v9 => some (v9, L6)))) else  some (0, L)))))
def f_X2_findSlowest_b38 (K8 : SL → Int32 → Int32 → Int32 → Int32 → Option (Int32 × SL)) (L : SL) (x1 : Int32) (x2 : Int32) (x3 : Int32) (x4 : Int32) : Option (Int32 × SL) :=
  lt_ (x4 + 1) (fun z1 => K8 L x1 x2 x3 z1)
def f_X2_findSlowest_b8 (K8 : SL → Int32 → Int32 → Int32 → Int32 → Option (Int32 × SL)) (L : SL) (x1 : Int32) (x2 : Int32) (x3 : Int32) (x4 : Int32) : Option (Int32 × SL) :=
  lt_ (L 0 2) (fun v1 => (if v1 ≤ x4 then  some (x2, L) else bd2 (f_X2_mostBottles L x4 x1) (fun r3 L4 => (if x3 ≤ r3 then  f_X2_findSlowest_b38 K8 L4 x1 x2 x3 x4 else  f_X2_findSlowest_b38 K8 L4 x1 x4 r3 x4))))
def f_X2_findSlowest_h8 : Nat → SL → Int32 → Int32 → Int32 → Int32 → Option (Int32 × SL)
  | 0, _, _, _, _, _ => none
  | n + 1, L, x1, x2, x3, x4 => f_X2_findSlowest_b8  (f_X2_findSlowest_h8  n) L x1 x2 x3 x4
def f_X2_findSlowest (L : SL) (x1 : Int32) : Option (Int32 × SL) :=
   f_X2_findSlowest_h8 fuel L x1 0 1000000 0
def f_X2_mixInto_b51 (K39 : SL → Int64 → Int32 → Option (Int64)) (K51 : SL → Int64 → Int32 → Int32 → Option (Int64)) (L : SL) (y3 : Int64) (x5 : Int32) (x6 : Int32) : Option (Int64) :=
   (if 15 ≤ x6 then lt_ (x5 + 1) (fun z2 => K39 L y3 z2) else lt_ ((31 * y3 : Int64)) (fun w3 => gd (chk x5 8) ( lt_ (2 + x5.toNatClampNeg) (fun kq5 => gd (chk x6 16) ( lt_ (L kq5 x6.toNatClampNeg) (fun v7 => lt_ ((v7 : Int32).toInt64) (fun w8 => lt_ ((w3 + w8 : Int64)) (fun w9 => lt_ (x6 + 1) (fun z10 => K51 L w9 x5 z10)))))))))
def f_X2_mixInto_h51 (K39 : SL → Int64 → Int32 → Option (Int64)) : Nat → SL → Int64 → Int32 → Int32 → Option (Int64)
  | 0, _, _, _, _ => none
  | n + 1, L, y3, x5, x6 => f_X2_mixInto_b51 K39 (f_X2_mixInto_h51 K39 n) L y3 x5 x6
def f_X2_mixInto_b39 (K39 : SL → Int64 → Int32 → Option (Int64)) (L : SL) (y3 : Int64) (x5 : Int32) : Option (Int64) :=
  lt_ (L 0 2) (fun v1 => (if v1 ≤ x5 then  some y3 else  f_X2_mixInto_h51 K39 fuel L y3 x5 0))
def f_X2_mixInto_h39 : Nat → SL → Int64 → Int32 → Option (Int64)
  | 0, _, _, _ => none
  | n + 1, L, y3, x5 => f_X2_mixInto_b39  (f_X2_mixInto_h39  n) L y3 x5
def f_X2_mixInto (L : SL) (y1 : Int64) : Option (Int64) :=
  lt_ ((31 * y1 : Int64)) (fun w1 => lt_ (L 0 3) (fun v2 => lt_ ((v2 : Int32).toInt64) (fun w3 => lt_ ((w1 + w3 : Int64)) (fun w4 => lt_ ((31 * w4 : Int64)) (fun w5 => bd (f_X2_bottlesOut L) (fun r6 => lt_ ((r6 : Int32).toInt64) (fun w8 => lt_ ((w5 + w8 : Int64)) (fun w9 => lt_ ((31 * w9 : Int64)) (fun w10 => lt_ (L 0 2) (fun v11 => lt_ ((v11 : Int32).toInt64) (fun w12 => lt_ ((w10 + w12 : Int64)) (fun w13 => f_X2_mixInto_h39 fuel L w13 0))))))))))))

/-! functions of X1 -/
def f_X1_keep (i : Nat) (Ls : Nat → SL) (Hs : SL) : Option ((Nat → SL) × SL) :=
  lt_ (Hs 0 1) (fun v1 => lt_ ((v1 + 1 : Int32)) (fun v2 => lt_ ((v2 - v2 / 4 * 4 : Int32)) (fun v3 => lt_ (up2 Hs 0 1 v3) (fun Hs4 => lt_ (Hs4 0 1) (fun v5 => gd (chk v5 4) ( lt_ (2 + v5.toNatClampNeg) (fun jq7 => bd (f_X2_copy i jq7 Ls) (fun Ls8 => lt_ (Hs4 0 2) (fun v10 => (if 4 ≤ v10 then  some (Ls8, Hs4) else lt_ (Hs4 0 2) (fun v12 => lt_ ((v12 + 1 : Int32)) (fun v13 => lt_ (up2 Hs4 0 2 v13) (fun Hs14 => some (Ls8, Hs14))))))))))))))
def f_X1_giveBack (i : Nat) (Ls : Nat → SL) (Hs : SL) : Option ((Nat → SL) × SL) :=
  lt_ (Hs 0 2) (fun v1 => (if ¬ v1 = 0 then lt_ (Hs 0 1) (fun v3 => gd (chk v3 4) ( lt_ (2 + v3.toNatClampNeg) (fun jq5 => bd (f_X2_copy jq5 i Ls) (fun Ls6 => lt_ (Hs 0 1) (fun v8 => lt_ ((v8 + 4 : Int32)) (fun v9 => lt_ ((v9 - 1 : Int32)) (fun v10 => lt_ ((v10 - v10 / 4 * 4 : Int32)) (fun v11 => lt_ (up2 Hs 0 1 v11) (fun Hs12 => lt_ (Hs12 0 2) (fun v13 => lt_ ((v13 - 1 : Int32)) (fun v14 => lt_ (up2 Hs12 0 2 v14) (fun Hs15 => some (Ls6, Hs15))))))))))))) else  some (Ls, Hs)))

/-! functions of X3 -/
def f_X3_put (T : SL) (x1 : Int32) : Option (SL) :=
  lt_ (T 0 1) (fun v1 => (if 120 ≤ v1 then  some T else lt_ (T 0 1) (fun v3 => gd (chk v3 120) ( lt_ (up2 T 1 v3.toNatClampNeg x1) (fun T5 => lt_ (T5 0 1) (fun v6 => lt_ ((v6 + 1 : Int32)) (fun v7 => lt_ (up2 T5 0 1 v7) (fun T8 => some T8))))))))
def f_X3_byteAt_b12 (T : SL) : Option (Int32) :=
   some ((-1) : Int32)
def f_X3_byteAt (T : SL) (x1 : Int32) : Option (Int32) :=
   (if x1 < 0 then  f_X3_byteAt_b12 T else lt_ (T 0 1) (fun v2 => (if x1 < v2 then gd (chk x1 120) ( lt_ (T 1 x1.toNatClampNeg) (fun v5 => some v5)) else  f_X3_byteAt_b12 T)))
def f_X5_isIn_b14 : Option (Int32) :=
   some (0 : Int32)
def f_X5_isIn (x0 : Int32) (x1 : Int32) (x2 : Int32) : Option (Int32) :=
   (if x0 < x1 then  f_X5_isIn_b14  else  (if x2 < x0 then  f_X5_isIn_b14  else  some (1 : Int32)))
def f_X3_isDigit (x0 : Int32) : Option (Int32) :=
  bd (f_X5_isIn x0 48 57) (fun r1 => gd (isB r1) ( some r1))
def f_X3_readNumber_b104 (T : SL) (x5 : Int32) : Option (Int32 × SL) :=
  lt_ (T 0 2) (fun v1 => lt_ (up2 T 0 3 v1) (fun T2 => some (x5, T2)))
def f_X3_readNumber_b77 (T : SL) (x1 : Int32) (x2 : Int32) (x3 : Int32) (x4 : Int32) (x5 : Int32) : Option (Int32 × SL) :=
  lt_ (T 0 2) (fun v1 => bd (f_X3_byteAt T v1) (fun r2 => lt_ (T 0 2) (fun v4 => (if v4 = x4 then  f_X3_readNumber_b104 T x5 else bd (f_X3_isDigit r2) (fun r6 => (if r6 = 0 then bd (f_X5_isIn x5 x1 x2) (fun r9 => (if ¬ r9 = 0 then  (if r2 = x3 then lt_ (T 0 2) (fun v13 => lt_ ((v13 + 1 : Int32)) (fun v14 => lt_ (up2 T 0 2 v14) (fun T15 => some (x5, T15)))) else lt_ (T 0 2) (fun v16 => lt_ (up2 T 0 3 v16) (fun T17 => some (x5, T17)))) else lt_ (up2 T 0 3 x4) (fun T18 => some (x5, T18)))) else  f_X3_readNumber_b104 T x5))))))
def f_X3_readNumber_b22 (K22 : SL → Int32 → Int32 → Int32 → Int32 → Int32 → Int32 → Option (Int32 × SL)) (T : SL) (x1 : Int32) (x2 : Int32) (x3 : Int32) (x4 : Int32) (x5 : Int32) (x6 : Int32) : Option (Int32 × SL) :=
   (if 2 ≤ x6 then  f_X3_readNumber_b77 T x1 x2 x3 x4 x5 else lt_ (T 0 2) (fun v2 => bd (f_X3_byteAt T v2) (fun r3 => bd (f_X3_isDigit r3) (fun r5 => (if r5 = 0 then  f_X3_readNumber_b77 T x1 x2 x3 x4 x5 else lt_ ((10 * x5 : Int32)) (fun v8 => lt_ (T 0 2) (fun v9 => bd (f_X3_byteAt T v9) (fun r10 => lt_ ((v8 + r10 : Int32)) (fun v12 => lt_ ((v12 - 48 : Int32)) (fun v13 => lt_ (T 0 2) (fun v14 => lt_ ((v14 + 1 : Int32)) (fun v15 => lt_ (up2 T 0 2 v15) (fun T16 => lt_ (x6 + 1) (fun z17 => K22 T16 x1 x2 x3 x4 v13 z17))))))))))))))
def f_X3_readNumber_h22 : Nat → SL → Int32 → Int32 → Int32 → Int32 → Int32 → Int32 → Option (Int32 × SL)
  | 0, _, _, _, _, _, _, _ => none
  | n + 1, T, x1, x2, x3, x4, x5, x6 => f_X3_readNumber_b22  (f_X3_readNumber_h22  n) T x1 x2 x3 x4 x5 x6
def f_X3_readNumber (T : SL) (x1 : Int32) (x2 : Int32) (x3 : Int32) : Option (Int32 × SL) :=
  lt_ (T 0 3) (fun v1 => (if v1 = (-1) then lt_ (T 0 2) (fun v3 => f_X3_readNumber_h22 fuel T x1 x2 x3 v3 0 0) else  some ((-1), T)))
def f_X3_readMachine (L : SL) (T : SL) : Option (SL × SL) :=
  bd2 (f_X3_readNumber T 1 20 44) (fun r1 T2 => bd2 (f_X3_readNumber T2 1 r1 44) (fun r4 T5 => bd2 (f_X3_readNumber T5 0 40 59) (fun r7 T8 => lt_ (T8 0 3) (fun v10 => (if ¬ v10 = (-1) then  some (L, T8) else bd2 (f_X2_join L r1 r4 r7) (fun r12 L13 => some (L13, T8)))))))
def f_X3_readMarks (L : SL) (T : SL) : Option (SL × SL) :=
  lt_ (L 0 2) (fun v1 => lt_ ((v1 - 1 : Int32)) (fun v2 => bd2 (f_X3_readNumber T 0 v2 44) (fun r3 T4 => bd2 (f_X3_readNumber T4 0 40 44) (fun r6 T7 => bd2 (f_X3_readNumber T7 r6 40 59) (fun r9 T10 => lt_ (T10 0 3) (fun v12 => (if ¬ v12 = (-1) then  some (L, T10) else bd (f_X2_mark L r3 r6 r9) (fun L14 => some (L14, T10)))))))))
def f_X3_readItem_b42 (L : SL) (T : SL) (x2 : Int32) : Option (SL × SL) :=
   (if ¬ x2 = 104 then lt_ (T 0 2) (fun v2 => lt_ (up2 T 0 3 v2) (fun T3 => some (L, T3))) else lt_ (T 0 2) (fun v4 => lt_ ((v4 + 1 : Int32)) (fun v5 => lt_ (up2 T 0 2 v5) (fun T6 => bd2 (f_X3_readMarks L T6) (fun L7 T8 => some (L7, T8))))))
def f_X3_readItem (L : SL) (T : SL) : Option (SL × SL) :=
  lt_ (T 0 2) (fun v1 => bd (f_X3_byteAt T v1) (fun r2 => (if ¬ r2 = 109 then  f_X3_readItem_b42 L T r2 else lt_ (L 0 2) (fun v5 => (if 8 ≤ v5 then  f_X3_readItem_b42 L T r2 else lt_ (T 0 2) (fun v7 => lt_ ((v7 + 1 : Int32)) (fun v8 => lt_ (up2 T 0 2 v8) (fun T9 => bd2 (f_X3_readMachine L T9) (fun L10 T11 => some (L10, T11))))))))))
def f_X3_readInto_b16 (K16 : SL → SL → Int32 → Option (Int32 × SL × SL)) (L : SL) (T : SL) (x2 : Int32) : Option (Int32 × SL × SL) :=
   (if 120 ≤ x2 then lt_ (T 0 3) (fun v2 => some (v2, L, T)) else lt_ (T 0 2) (fun v3 => lt_ (T 0 1) (fun v4 => (if v4 ≤ v3 then lt_ (T 0 3) (fun v6 => some (v6, L, T)) else lt_ (T 0 3) (fun v7 => (if ¬ v7 = (-1) then lt_ (T 0 3) (fun v9 => some (v9, L, T)) else bd2 (f_X3_readItem L T) (fun L10 T11 => lt_ (x2 + 1) (fun z13 => K16 L10 T11 z13))))))))
def f_X3_readInto_h16 : Nat → SL → SL → Int32 → Option (Int32 × SL × SL)
  | 0, _, _, _ => none
  | n + 1, L, T, x2 => f_X3_readInto_b16  (f_X3_readInto_h16  n) L T x2
def f_X3_readInto (L : SL) (T : SL) : Option (Int32 × SL × SL) :=
  lt_ (up2 T 0 2 0) (fun T1 => lt_ (up2 T1 0 3 (-1)) (fun T2 => bd (f_X2_takeApart L) (fun L3 => f_X3_readInto_h16 fuel L3 T2 0)))

/-! functions of X6 -/
def f_X6_thrown (M : SL) : Option (Int32) :=
  lt_ (M 0 4) (fun v1 => some v1)
def f_X6_refused (M : SL) (x1 : Int32) : Option (Int32 × SL) :=
  lt_ (up2 M 0 4 x1) (fun M1 => (if x1 ≤ 0 then  some (0, M1) else  some (1, M1)))
def f_X6_within_b14 : Option (Int32) :=
   some (0 : Int32)
def f_X6_within (x0 : Int32) (x1 : Int32) (x2 : Int32) : Option (Int32) :=
   (if x0 < x1 then  f_X6_within_b14  else  (if x2 < x0 then  f_X6_within_b14  else  some (1 : Int32)))
def f_X6_isMachine (M : SL) (x1 : Int32) : Option (Int32) :=
  lt_ (M 1 0) (fun v1 => lt_ ((v1 - 1 : Int32)) (fun v2 => bd (f_X6_within x1 0 v2) (fun r3 => gd (isB r3) ( some r3))))
def f_X6_of (x0 : Int32) : Option (Int32) :=
  lt_ ((16 * x0 : Int32)) (fun v1 => lt_ ((3 + v1 : Int32)) (fun v2 => some v2))
def f_X6_saves_b51 (K51 : SL → Int32 → Option (SL)) (M : SL) (x1 : Int32) : Option (SL) :=
   (if 251 ≤ x1 then lt_ (M 0 3) (fun v2 => lt_ ((v2 + 1 : Int32)) (fun v3 => lt_ (up2 M 0 3 v3) (fun M4 => some M4))) else lt_ (M 0 3) (fun v5 => lt_ ((251 * v5 : Int32)) (fun v6 => lt_ ((v6 + x1 : Int32)) (fun v7 => gd (chk x1 251) ( lt_ (M 1 x1.toNatClampNeg) (fun v9 => gd (chk v7 1004) ( lt_ (up2 M 2 v7.toNatClampNeg v9) (fun M11 => lt_ (x1 + 1) (fun z12 => K51 M11 z12)))))))))
def f_X6_saves_h51 : Nat → SL → Int32 → Option (SL)
  | 0, _, _ => none
  | n + 1, M, x1 => f_X6_saves_b51  (f_X6_saves_h51  n) M x1
def f_X6_saves_b49 (M : SL) : Option (SL) :=
   f_X6_saves_h51 fuel M 0
def f_X6_saves_b10 (K10 : SL → Int32 → Option (SL)) (M : SL) (x1 : Int32) : Option (SL) :=
   (if 753 ≤ x1 then lt_ (M 0 3) (fun v2 => lt_ ((v2 - 1 : Int32)) (fun v3 => lt_ (up2 M 0 3 v3) (fun M4 => f_X6_saves_b49 M4))) else lt_ ((x1 + 251 : Int32)) (fun v5 => gd (chk v5 1004) ( lt_ (M 2 v5.toNatClampNeg) (fun v7 => gd (chk x1 1004) ( lt_ (up2 M 2 x1.toNatClampNeg v7) (fun M9 => lt_ (x1 + 1) (fun z10 => K10 M9 z10)))))))
def f_X6_saves_h10 : Nat → SL → Int32 → Option (SL)
  | 0, _, _ => none
  | n + 1, M, x1 => f_X6_saves_b10  (f_X6_saves_h10  n) M x1
def f_X6_saves (M : SL) : Option (SL) :=
  lt_ (M 0 3) (fun v1 => (if ¬ v1 = 4 then  f_X6_saves_b49 M else  f_X6_saves_h10 fuel M 0))
def f_X6_undo_b33 (K33 : SL → Int32 → Option (Int32 × SL)) (M : SL) (x1 : Int32) : Option (Int32 × SL) :=
   (if 251 ≤ x1 then lt_ (M 0 3) (fun v2 => some (v2, M)) else lt_ (M 0 3) (fun v3 => lt_ ((251 * v3 : Int32)) (fun v4 => lt_ ((v4 + x1 : Int32)) (fun v5 => gd (chk v5 1004) ( lt_ (M 2 v5.toNatClampNeg) (fun v7 => gd (chk x1 251) ( lt_ (up2 M 1 x1.toNatClampNeg v7) (fun M9 => lt_ (x1 + 1) (fun z10 => K33 M9 z10)))))))))
def f_X6_undo_h33 : Nat → SL → Int32 → Option (Int32 × SL)
  | 0, _, _ => none
  | n + 1, M, x1 => f_X6_undo_b33  (f_X6_undo_h33  n) M x1
def f_X6_undo_b13 (M : SL) (s1 : Int32) : Option (Int32 × SL) :=
  bd2 (f_X6_refused M s1) (fun r1 M2 => (if r1 = 0 then lt_ (M2 0 3) (fun v5 => lt_ ((v5 - 1 : Int32)) (fun v6 => lt_ (up2 M2 0 3 v6) (fun M7 => f_X6_undo_h33 fuel M7 0))) else  some (0, M2)))
def f_X6_undo (M : SL) : Option (Int32 × SL) :=
  lt_ (M 0 3) (fun v1 => (if ¬ v1 = 0 then  f_X6_undo_b13 M 0 else  f_X6_undo_b13 M 1))
def f_X6_keeps_b2 (K2 : SL → Int32 → Option (SL)) (M : SL) (x1 : Int32) : Option (SL) :=
   (if 251 ≤ x1 then  some M else gd (chk x1 251) ( lt_ (M 1 x1.toNatClampNeg) (fun v3 => lt_ (up2 M 3 x1.toNatClampNeg v3) (fun M4 => lt_ (x1 + 1) (fun z5 => K2 M4 z5)))))
def f_X6_keeps_h2 : Nat → SL → Int32 → Option (SL)
  | 0, _, _ => none
  | n + 1, M, x1 => f_X6_keeps_b2  (f_X6_keeps_h2  n) M x1
def f_X6_keeps (M : SL) : Option (SL) :=
   f_X6_keeps_h2 fuel M 0
def f_X6_takesBack_b2 (K2 : SL → Int32 → Option (SL)) (M : SL) (x1 : Int32) : Option (SL) :=
   (if 251 ≤ x1 then  some M else gd (chk x1 251) ( lt_ (M 3 x1.toNatClampNeg) (fun v3 => lt_ (up2 M 1 x1.toNatClampNeg v3) (fun M4 => lt_ (x1 + 1) (fun z5 => K2 M4 z5)))))
def f_X6_takesBack_h2 : Nat → SL → Int32 → Option (SL)
  | 0, _, _ => none
  | n + 1, M, x1 => f_X6_takesBack_b2  (f_X6_takesBack_h2  n) M x1
def f_X6_takesBack (M : SL) : Option (SL) :=
   f_X6_takesBack_h2 fuel M 0
def f_X6_areCycles_b23 : Option (Int32) :=
   some (0 : Int32)
def f_X6_areCycles (x0 : Int32) (x1 : Int32) : Option (Int32) :=
  bd (f_X6_within x0 1 20) (fun r1 => (if r1 = 0 then  f_X6_areCycles_b23  else bd (f_X6_within x1 1 x0) (fun r4 => (if r4 = 0 then  f_X6_areCycles_b23  else  some (1 : Int32)))))
def f_X6_isCapacity (x0 : Int32) : Option (Int32) :=
  bd (f_X6_within x0 0 40) (fun r1 => gd (isB r1) ( some r1))
def f_X6_adds_b14 (K14 : SL → Int32 → Int32 → Int32 → Int32 → Int32 → Option (SL)) (M : SL) (x1 : Int32) (x2 : Int32) (x3 : Int32) (x4 : Int32) (x5 : Int32) : Option (SL) :=
   (if 16 ≤ x5 then lt_ ((x4 + 0 : Int32)) (fun v2 => gd (chk v2 251) ( lt_ (up2 M 1 v2.toNatClampNeg x1) (fun M4 => lt_ ((x4 + 1 : Int32)) (fun v5 => gd (chk v5 251) ( lt_ (up2 M4 1 v5.toNatClampNeg x2) (fun M7 => lt_ ((x4 + 3 : Int32)) (fun v8 => gd (chk v8 251) ( lt_ (up2 M7 1 v8.toNatClampNeg 40) (fun M10 => lt_ ((x4 + 4 : Int32)) (fun v11 => gd (chk v11 251) ( lt_ (up2 M10 1 v11.toNatClampNeg x3) (fun M13 => lt_ ((x4 + 6 : Int32)) (fun v14 => gd (chk v14 251) ( lt_ (up2 M13 1 v14.toNatClampNeg (-1)) (fun M16 => lt_ ((x4 + 7 : Int32)) (fun v17 => gd (chk v17 251) ( lt_ (up2 M16 1 v17.toNatClampNeg 1) (fun M19 => lt_ (M19 1 0) (fun v20 => lt_ ((v20 + 1 : Int32)) (fun v21 => lt_ (up2 M19 1 0 v21) (fun M22 => some M22))))))))))))))))))))) else lt_ ((x4 + x5 : Int32)) (fun v23 => gd (chk v23 251) ( lt_ (up2 M 1 v23.toNatClampNeg 0) (fun M25 => lt_ (x5 + 1) (fun z26 => K14 M25 x1 x2 x3 x4 z26)))))
def f_X6_adds_h14 : Nat → SL → Int32 → Int32 → Int32 → Int32 → Int32 → Option (SL)
  | 0, _, _, _, _, _, _ => none
  | n + 1, M, x1, x2, x3, x4, x5 => f_X6_adds_b14  (f_X6_adds_h14  n) M x1 x2 x3 x4 x5
def f_X6_adds (M : SL) (x1 : Int32) (x2 : Int32) (x3 : Int32) : Option (SL) :=
  lt_ (M 1 0) (fun v1 => bd (f_X6_of v1) (fun r2 => f_X6_adds_h14 fuel M x1 x2 x3 r2 0))
def f_X6_addMachine_b45 (M : SL) (x1 : Int32) (x2 : Int32) (x3 : Int32) (s1 : Int32) : Option (Int32 × SL) :=
  bd2 (f_X6_refused M s1) (fun r1 M2 => (if r1 = 0 then bd (f_X6_saves M2) (fun M5 => bd (f_X6_adds M5 x1 x2 x3) (fun M7 => lt_ (M7 1 0) (fun v9 => lt_ ((v9 - 1 : Int32)) (fun v10 => some (v10, M7))))) else  some (0, M2)))
def f_X6_addMachine_b16 (M : SL) (x1 : Int32) (x2 : Int32) (x3 : Int32) : Option (Int32 × SL) :=
   f_X6_addMachine_b45 M x1 x2 x3 1
def f_X6_addMachine_b40 (M : SL) (x1 : Int32) (x2 : Int32) (x3 : Int32) : Option (Int32 × SL) :=
   f_X6_addMachine_b45 M x1 x2 x3 2
def f_X6_addMachine (M : SL) (x1 : Int32) (x2 : Int32) (x3 : Int32) : Option (Int32 × SL) :=
  bd (f_X6_areCycles x1 x2) (fun r1 => (if r1 = 0 then  f_X6_addMachine_b16 M x1 x2 x3 else bd (f_X6_isCapacity x3) (fun r4 => (if ¬ r4 = 0 then lt_ (M 1 0) (fun v7 => (if v7 = 8 then  f_X6_addMachine_b40 M x1 x2 x3 else lt_ (M 1 1) (fun v9 => (if v9 ≤ 0 then  f_X6_addMachine_b45 M x1 x2 x3 0 else  f_X6_addMachine_b40 M x1 x2 x3)))) else  f_X6_addMachine_b16 M x1 x2 x3))))
def f_X6_areMarks_b23 : Option (Int32) :=
   some (0 : Int32)
def f_X6_areMarks (x0 : Int32) (x1 : Int32) : Option (Int32) :=
  bd (f_X6_within x1 0 40) (fun r1 => (if r1 = 0 then  f_X6_areMarks_b23  else bd (f_X6_within x0 0 x1) (fun r4 => (if r4 = 0 then  f_X6_areMarks_b23  else  some (1 : Int32)))))
def f_X6_setMachine_b36 (M : SL) (x1 : Int32) (x2 : Int32) (x3 : Int32) (x4 : Int32) (x5 : Int32) (s1 : Int32) : Option (Int32 × SL) :=
  bd2 (f_X6_refused M s1) (fun r1 M2 => (if r1 = 0 then bd (f_X6_saves M2) (fun M5 => bd (f_X6_of x1) (fun r7 => lt_ ((r7 + 1 : Int32)) (fun v9 => gd (chk v9 251) ( lt_ (M5 1 v9.toNatClampNeg) (fun v11 => lt_ ((r7 + 0 : Int32)) (fun v12 => gd (chk v12 251) ( lt_ (up2 M5 1 v12.toNatClampNeg x2) (fun M14 => lt_ ((r7 + 1 : Int32)) (fun v15 => gd (chk v15 251) ( lt_ (up2 M14 1 v15.toNatClampNeg x3) (fun M17 => lt_ ((r7 + 2 : Int32)) (fun v18 => gd (chk v18 251) ( lt_ (up2 M17 1 v18.toNatClampNeg x4) (fun M20 => lt_ ((r7 + 3 : Int32)) (fun v21 => gd (chk v21 251) ( lt_ (up2 M20 1 v21.toNatClampNeg x5) (fun M23 => some (v11, M23)))))))))))))))))) else  some (0, M2)))
def f_X6_setMachine_b35 (M : SL) (x1 : Int32) (x2 : Int32) (x3 : Int32) (x4 : Int32) (x5 : Int32) : Option (Int32 × SL) :=
   f_X6_setMachine_b36 M x1 x2 x3 x4 x5 2
def f_X6_setMachine (M : SL) (x1 : Int32) (x2 : Int32) (x3 : Int32) (x4 : Int32) (x5 : Int32) : Option (Int32 × SL) :=
  bd (f_X6_isMachine M x1) (fun r1 => (if ¬ r1 = 0 then bd (f_X6_areCycles x2 x3) (fun r4 => (if r4 = 0 then  f_X6_setMachine_b35 M x1 x2 x3 x4 x5 else bd (f_X6_areMarks x4 x5) (fun r7 => (if r7 = 0 then  f_X6_setMachine_b35 M x1 x2 x3 x4 x5 else  f_X6_setMachine_b36 M x1 x2 x3 x4 x5 0)))) else  f_X6_setMachine_b36 M x1 x2 x3 x4 x5 1))
def f_X6_setCapacity_b25 (M : SL) (x1 : Int32) (x2 : Int32) (s1 : Int32) : Option (Int32 × SL) :=
  bd2 (f_X6_refused M s1) (fun r1 M2 => (if r1 = 0 then bd (f_X6_saves M2) (fun M5 => bd (f_X6_of x1) (fun r7 => lt_ ((r7 + 4 : Int32)) (fun v9 => gd (chk v9 251) ( lt_ (M5 1 v9.toNatClampNeg) (fun v11 => bd (f_X6_of x1) (fun r12 => lt_ ((r12 + 4 : Int32)) (fun v14 => gd (chk v14 251) ( lt_ (up2 M5 1 v14.toNatClampNeg x2) (fun M16 => some (v11, M16)))))))))) else  some (0, M2)))
def f_X6_setCapacity (M : SL) (x1 : Int32) (x2 : Int32) : Option (Int32 × SL) :=
  bd (f_X6_isMachine M x1) (fun r1 => (if ¬ r1 = 0 then bd (f_X6_isCapacity x2) (fun r4 => (if r4 = 0 then  f_X6_setCapacity_b25 M x1 x2 2 else  f_X6_setCapacity_b25 M x1 x2 0)) else  f_X6_setCapacity_b25 M x1 x2 1))
def f_X6_plans (M : SL) (x1 : Int32) (x2 : Int32) (x3 : Int32) : Option (SL) :=
  lt_ (M 1 2) (fun v1 => lt_ ((3 * v1 : Int32)) (fun v2 => lt_ ((131 + v2 : Int32)) (fun v3 => gd (chk v3 251) ( lt_ (up2 M 1 v3.toNatClampNeg x1) (fun M5 => lt_ ((v3 + 1 : Int32)) (fun v6 => gd (chk v6 251) ( lt_ (up2 M5 1 v6.toNatClampNeg x2) (fun M8 => lt_ ((v3 + 2 : Int32)) (fun v9 => gd (chk v9 251) ( lt_ (up2 M8 1 v9.toNatClampNeg x3) (fun M11 => lt_ (M11 1 2) (fun v12 => lt_ ((v12 + 1 : Int32)) (fun v13 => lt_ (up2 M11 1 2 v13) (fun M14 => some M14))))))))))))))
def f_X6_addStop_b74 (M : SL) (x1 : Int32) (x2 : Int32) (x3 : Int32) (s1 : Int32) : Option (Int32 × SL) :=
  bd2 (f_X6_refused M s1) (fun r1 M2 => (if r1 = 0 then bd (f_X6_saves M2) (fun M5 => bd (f_X6_plans M5 x1 x2 x3) (fun M7 => lt_ (M7 1 2) (fun v9 => some (v9, M7)))) else  some (0, M2)))
def f_X6_addStop_b34 (M : SL) (x1 : Int32) (x2 : Int32) (x3 : Int32) (s0 : Int32) : Option (Int32 × SL) :=
  bd (f_X6_isMachine M x1) (fun r1 => (if ¬ r1 = 0 then  (if ¬ s0 = 0 then lt_ (M 1 2) (fun v5 => (if ¬ v5 = 40 then  f_X6_addStop_b74 M x1 x2 x3 0 else  f_X6_addStop_b74 M x1 x2 x3 3)) else  f_X6_addStop_b74 M x1 x2 x3 2) else  f_X6_addStop_b74 M x1 x2 x3 1))
def f_X6_addStop_b33 (M : SL) (x1 : Int32) (x2 : Int32) (x3 : Int32) : Option (Int32 × SL) :=
   f_X6_addStop_b34 M x1 x2 x3 0
def f_X6_addStop (M : SL) (x1 : Int32) (x2 : Int32) (x3 : Int32) : Option (Int32 × SL) :=
  lt_ (M 1 1) (fun v1 => lt_ ((v1 + 1 : Int32)) (fun v2 => bd (f_X6_within x2 v2 10000) (fun r3 => (if r3 = 0 then  f_X6_addStop_b33 M x1 x2 x3 else bd (f_X6_within x3 1 200) (fun r6 => (if r6 = 0 then  f_X6_addStop_b33 M x1 x2 x3 else  f_X6_addStop_b34 M x1 x2 x3 1))))))
def f_X6_draws (dr : Int64) : Option (Int32 × Int64) :=
  lt_ (dr) (fun w1 => lt_ ((1103515245 * w1 : Int64)) (fun w2 => lt_ ((w2 + 12345 : Int64)) (fun w3 => lt_ ((w3 - w3 / 2147483648 * 2147483648 : Int64)) (fun w4 => lt_ (w4) (fun dr5 => lt_ (dr5) (fun w6 => lt_ ((w6 / 65536 : Int64)) (fun w7 => lt_ ((w7 : Int64).toInt32) (fun v8 => some (v8, dr5)))))))))
def f_X6_addRandomStops_b201 (K123 : SL → Int64 → Int32 → Int32 → Int32 → Int32 → Int32 → Int32 → Int32 → Option (Int32 × SL × Int64)) (M : SL) (dr : Int64) (x1 : Int32) (x3 : Int32) (x4 : Int32) (x5 : Int32) (x7 : Int32) (x8 : Int32) (x9 : Int32) : Option (Int32 × SL × Int64) :=
  lt_ (x9 + 1) (fun z1 => K123 M dr x1 x3 x4 x5 x7 x8 z1)
def f_X6_addRandomStops_b163 (K123 : SL → Int64 → Int32 → Int32 → Int32 → Int32 → Int32 → Int32 → Int32 → Option (Int32 × SL × Int64)) (M : SL) (dr : Int64) (x1 : Int32) (x3 : Int32) (x4 : Int32) (x5 : Int32) (x7 : Int32) (x9 : Int32) (x10 : Int32) (s0 : Int32) : Option (Int32 × SL × Int64) :=
   (if s0 = 0 then  f_X6_addRandomStops_b201 K123 M dr x1 x3 x4 x5 x7 s0 x9 else bd2 (f_X6_draws dr) (fun r2 dr3 => lt_ ((2 * x4 : Int32)) (fun v5 => gd (nz v5) ( lt_ ((r2 - r2 / v5 * v5 : Int32)) (fun v7 => lt_ ((1 + v7 : Int32)) (fun v8 => bd (f_X6_plans M x1 x10 v8) (fun M9 => lt_ ((x10 + v8 : Int32)) (fun v11 => lt_ ((v11 - 1 : Int32)) (fun v12 => f_X6_addRandomStops_b201 K123 M9 dr3 x1 x3 x4 x5 v12 s0 x9)))))))))
def f_X6_addRandomStops_b207 (M : SL) (dr : Int64) : Option (Int32 × SL × Int64) :=
  lt_ (M 1 2) (fun v1 => some (v1, M, dr))
def f_X6_addRandomStops_b123 (K123 : SL → Int64 → Int32 → Int32 → Int32 → Int32 → Int32 → Int32 → Int32 → Option (Int32 × SL × Int64)) (M : SL) (dr : Int64) (x1 : Int32) (x3 : Int32) (x4 : Int32) (x5 : Int32) (x7 : Int32) (x8 : Int32) (x9 : Int32) : Option (Int32 × SL × Int64) :=
   (if x5 ≤ x9 then  f_X6_addRandomStops_b207 M dr else  (if x8 = 0 then  f_X6_addRandomStops_b207 M dr else lt_ ((x7 + 1 : Int32)) (fun v3 => bd2 (f_X6_draws dr) (fun r4 dr5 => lt_ ((2 * x3 : Int32)) (fun v7 => gd (nz v7) ( lt_ ((r4 - r4 / v7 * v7 : Int32)) (fun v9 => lt_ ((v3 + v9 : Int32)) (fun v10 => (if 10000 < v10 then  f_X6_addRandomStops_b163 K123 M dr5 x1 x3 x4 x5 x7 x9 v10 0 else  f_X6_addRandomStops_b163 K123 M dr5 x1 x3 x4 x5 x7 x9 v10 1)))))))))
def f_X6_addRandomStops_h123 : Nat → SL → Int64 → Int32 → Int32 → Int32 → Int32 → Int32 → Int32 → Int32 → Option (Int32 × SL × Int64)
  | 0, _, _, _, _, _, _, _, _, _ => none
  | n + 1, M, dr, x1, x3, x4, x5, x7, x8, x9 => f_X6_addRandomStops_b123  (f_X6_addRandomStops_h123  n) M dr x1 x3 x4 x5 x7 x8 x9
def f_X6_addRandomStops_b91 (M : SL) (dr : Int64) (x1 : Int32) (x2 : Int32) (x3 : Int32) (x4 : Int32) (x5 : Int32) (s1 : Int32) : Option (Int32 × SL × Int64) :=
  bd2 (f_X6_refused M s1) (fun r1 M2 => (if r1 = 0 then bd (f_X6_saves M2) (fun M5 => lt_ ((x2 : Int32).toInt64) (fun w7 => lt_ (w7) (fun dr8 => lt_ (M5 1 1) (fun v9 => f_X6_addRandomStops_h123 fuel M5 dr8 x1 x3 x4 x5 v9 1 0)))) else  some (0, M2, dr)))
def f_X6_addRandomStops_b48 (M : SL) (dr : Int64) (x1 : Int32) (x2 : Int32) (x3 : Int32) (x4 : Int32) (x5 : Int32) (s0 : Int32) : Option (Int32 × SL × Int64) :=
  bd (f_X6_isMachine M x1) (fun r1 => (if ¬ r1 = 0 then  (if ¬ s0 = 0 then lt_ (M 1 2) (fun v5 => lt_ ((v5 + x5 : Int32)) (fun v6 => (if v6 ≤ 40 then  f_X6_addRandomStops_b91 M dr x1 x2 x3 x4 x5 0 else  f_X6_addRandomStops_b91 M dr x1 x2 x3 x4 x5 3))) else  f_X6_addRandomStops_b91 M dr x1 x2 x3 x4 x5 2) else  f_X6_addRandomStops_b91 M dr x1 x2 x3 x4 x5 1))
def f_X6_addRandomStops_b47 (M : SL) (dr : Int64) (x1 : Int32) (x2 : Int32) (x3 : Int32) (x4 : Int32) (x5 : Int32) : Option (Int32 × SL × Int64) :=
   f_X6_addRandomStops_b48 M dr x1 x2 x3 x4 x5 0
def f_X6_addRandomStops (M : SL) (dr : Int64) (x1 : Int32) (x2 : Int32) (x3 : Int32) (x4 : Int32) (x5 : Int32) : Option (Int32 × SL × Int64) :=
  bd (f_X6_within x2 0 999999) (fun r1 => (if r1 = 0 then  f_X6_addRandomStops_b47 M dr x1 x2 x3 x4 x5 else bd (f_X6_within x3 1 500) (fun r4 => (if r4 = 0 then  f_X6_addRandomStops_b47 M dr x1 x2 x3 x4 x5 else bd (f_X6_within x4 1 100) (fun r7 => (if r7 = 0 then  f_X6_addRandomStops_b47 M dr x1 x2 x3 x4 x5 else bd (f_X6_within x5 1 40) (fun r10 => (if r10 = 0 then  f_X6_addRandomStops_b47 M dr x1 x2 x3 x4 x5 else  f_X6_addRandomStops_b48 M dr x1 x2 x3 x4 x5 1))))))))
def f_X6_clearStops_b96 (K20 : SL → Int32 → Int32 → Int32 → Option (Int32 × SL)) (M : SL) (x1 : Int32) (x2 : Int32) (x3 : Int32) : Option (Int32 × SL) :=
  lt_ (x3 + 1) (fun z1 => K20 M x1 x2 z1)
def f_X6_clearStops_b51 (K20 : SL → Int32 → Int32 → Int32 → Option (Int32 × SL)) (K51 : SL → Int32 → Int32 → Int32 → Int32 → Option (Int32 × SL)) (M : SL) (x1 : Int32) (x2 : Int32) (x3 : Int32) (x4 : Int32) : Option (Int32 × SL) :=
   (if 3 ≤ x4 then lt_ (x2 + 1) (fun z2 => f_X6_clearStops_b96 K20 M x1 z2 x3) else lt_ ((3 * x2 : Int32)) (fun v3 => lt_ ((131 + v3 : Int32)) (fun v4 => lt_ ((v4 + x4 : Int32)) (fun v5 => lt_ ((3 * x3 : Int32)) (fun v6 => lt_ ((131 + v6 : Int32)) (fun v7 => lt_ ((v7 + x4 : Int32)) (fun v8 => gd (chk v8 251) ( lt_ (M 1 v8.toNatClampNeg) (fun v10 => gd (chk v5 251) ( lt_ (up2 M 1 v5.toNatClampNeg v10) (fun M12 => lt_ (x4 + 1) (fun z13 => K51 M12 x1 x2 x3 z13))))))))))))
def f_X6_clearStops_h51 (K20 : SL → Int32 → Int32 → Int32 → Option (Int32 × SL)) : Nat → SL → Int32 → Int32 → Int32 → Int32 → Option (Int32 × SL)
  | 0, _, _, _, _, _ => none
  | n + 1, M, x1, x2, x3, x4 => f_X6_clearStops_b51 K20 (f_X6_clearStops_h51 K20 n) M x1 x2 x3 x4
def f_X6_clearStops_b20 (K20 : SL → Int32 → Int32 → Int32 → Option (Int32 × SL)) (M : SL) (x1 : Int32) (x2 : Int32) (x3 : Int32) : Option (Int32 × SL) :=
   (if x1 ≤ x3 then lt_ (up2 M 1 2 x2) (fun M2 => lt_ ((x1 - x2 : Int32)) (fun v3 => some (v3, M2))) else lt_ ((3 * x3 : Int32)) (fun v4 => lt_ ((131 + v4 : Int32)) (fun v5 => lt_ ((v5 + 1 : Int32)) (fun v6 => gd (chk v6 251) ( lt_ (M 1 v6.toNatClampNeg) (fun v8 => lt_ (M 1 1) (fun v9 => (if v9 < v8 then  f_X6_clearStops_b96 K20 M x1 x2 x3 else  f_X6_clearStops_h51 K20 fuel M x1 x2 x3 0))))))))
def f_X6_clearStops_h20 : Nat → SL → Int32 → Int32 → Int32 → Option (Int32 × SL)
  | 0, _, _, _, _ => none
  | n + 1, M, x1, x2, x3 => f_X6_clearStops_b20  (f_X6_clearStops_h20  n) M x1 x2 x3
def f_X6_clearStops (M : SL) : Option (Int32 × SL) :=
  lt_ (up2 M 0 4 0) (fun M1 => bd (f_X6_saves M1) (fun M2 => lt_ (M2 1 2) (fun v4 => f_X6_clearStops_h20 fuel M2 v4 0 0)))
def f_X6_size (M : SL) (x1 : Int32) : Option (Int32 × SL) :=
  lt_ (up2 M 0 4 0) (fun M1 => (if x1 = 0 then lt_ (M1 1 0) (fun v3 => some (v3, M1)) else lt_ (M1 1 2) (fun v4 => some (v4, M1))))
def f_X6_stop_b35 (M : SL) (x1 : Int32) (x2 : Int32) (s1 : Int32) : Option (Int32 × SL) :=
  bd2 (f_X6_refused M s1) (fun r1 M2 => (if r1 = 0 then lt_ ((3 * x1 : Int32)) (fun v5 => lt_ ((131 + v5 : Int32)) (fun v6 => lt_ ((v6 + x2 : Int32)) (fun v7 => gd (chk v7 251) ( lt_ (M2 1 v7.toNatClampNeg) (fun v9 => some (v9, M2)))))) else  some (0, M2)))
def f_X6_stop (M : SL) (x1 : Int32) (x2 : Int32) : Option (Int32 × SL) :=
  lt_ (M 1 2) (fun v1 => lt_ ((v1 - 1 : Int32)) (fun v2 => bd (f_X6_within x1 0 v2) (fun r3 => (if ¬ r3 = 0 then bd (f_X6_within x2 0 2) (fun r6 => (if r6 = 0 then  f_X6_stop_b35 M x1 x2 2 else  f_X6_stop_b35 M x1 x2 0)) else  f_X6_stop_b35 M x1 x2 1))))
def f_X6_laysDown_b124 (K22 : SL → Int32 → Int32 → Int32 → Option (SL)) (M : SL) (x1 : Int32) (x2 : Int32) (x3 : Int32) : Option (SL) :=
  lt_ (x3 + 1) (fun z1 => K22 M x1 x2 z1)
def f_X6_laysDown_b81 (K22 : SL → Int32 → Int32 → Int32 → Option (SL)) (K81 : SL → Int32 → Int32 → Int32 → Int32 → Int32 → Option (SL)) (M : SL) (x1 : Int32) (x2 : Int32) (x3 : Int32) (x5 : Int32) (x6 : Int32) : Option (SL) :=
   (if x5 ≤ x6 then  f_X6_laysDown_b124 K22 M x1 x2 x3 else  (if x2 < x6 then  f_X6_laysDown_b124 K22 M x1 x2 x3 else gd (chk x6 10001) ( lt_ (M 5 x6.toNatClampNeg) (fun v4 => lt_ ((3 * x3 : Int32)) (fun v5 => lt_ ((131 + v5 : Int32)) (fun v6 => gd (chk v6 251) ( lt_ (M 1 v6.toNatClampNeg) (fun v8 => lt_ ((1 <<< (v8 &&& 31) : Int32)) (fun v9 => lt_ ((v4 ||| v9 : Int32)) (fun v10 => lt_ (up2 M 5 x6.toNatClampNeg v10) (fun M11 => lt_ (x6 + 1) (fun z12 => K81 M11 x1 x2 x3 x5 z12))))))))))))
def f_X6_laysDown_h81 (K22 : SL → Int32 → Int32 → Int32 → Option (SL)) : Nat → SL → Int32 → Int32 → Int32 → Int32 → Int32 → Option (SL)
  | 0, _, _, _, _, _, _ => none
  | n + 1, M, x1, x2, x3, x5, x6 => f_X6_laysDown_b81 K22 (f_X6_laysDown_h81 K22 n) M x1 x2 x3 x5 x6
def f_X6_laysDown_b79 (K22 : SL → Int32 → Int32 → Int32 → Option (SL)) (M : SL) (x1 : Int32) (x2 : Int32) (x3 : Int32) (x5 : Int32) (s0 : Int32) : Option (SL) :=
   f_X6_laysDown_h81 K22 fuel M x1 x2 x3 x5 s0
def f_X6_laysDown_b22 (K22 : SL → Int32 → Int32 → Int32 → Option (SL)) (M : SL) (x1 : Int32) (x2 : Int32) (x3 : Int32) : Option (SL) :=
  lt_ (M 1 2) (fun v1 => (if v1 ≤ x3 then  some M else lt_ ((3 * x3 : Int32)) (fun v3 => lt_ ((131 + v3 : Int32)) (fun v4 => lt_ ((v4 + 1 : Int32)) (fun v5 => gd (chk v5 251) ( lt_ (M 1 v5.toNatClampNeg) (fun v7 => lt_ ((3 * x3 : Int32)) (fun v8 => lt_ ((131 + v8 : Int32)) (fun v9 => lt_ ((v9 + 2 : Int32)) (fun v10 => gd (chk v10 251) ( lt_ (M 1 v10.toNatClampNeg) (fun v12 => lt_ ((v7 + v12 : Int32)) (fun v13 => (if v7 ≤ x1 then  f_X6_laysDown_b79 K22 M x1 x2 x3 v13 x1 else  f_X6_laysDown_b79 K22 M x1 x2 x3 v13 v7))))))))))))))
def f_X6_laysDown_h22 : Nat → SL → Int32 → Int32 → Int32 → Option (SL)
  | 0, _, _, _, _ => none
  | n + 1, M, x1, x2, x3 => f_X6_laysDown_b22  (f_X6_laysDown_h22  n) M x1 x2 x3
def f_X6_laysDown_b2 (K2 : SL → Int32 → Int32 → Int32 → Option (SL)) (M : SL) (x1 : Int32) (x2 : Int32) (x3 : Int32) : Option (SL) :=
   (if x2 < x3 then  f_X6_laysDown_h22 fuel M x1 x2 0 else gd (chk x3 10001) ( lt_ (up2 M 5 x3.toNatClampNeg 0) (fun M3 => lt_ (x3 + 1) (fun z4 => K2 M3 x1 x2 z4))))
def f_X6_laysDown_h2 : Nat → SL → Int32 → Int32 → Int32 → Option (SL)
  | 0, _, _, _, _ => none
  | n + 1, M, x1, x2, x3 => f_X6_laysDown_b2  (f_X6_laysDown_h2  n) M x1 x2 x3
def f_X6_laysDown (M : SL) (x1 : Int32) (x2 : Int32) : Option (SL) :=
   f_X6_laysDown_h2 fuel M x1 x2 x1
def f_X6_isDown (M : SL) (x1 : Int32) (x2 : Int32) : Option (Int32) :=
  gd (chk x2 10001) ( lt_ (M 5 x2.toNatClampNeg) (fun v2 => lt_ ((v2 >>> (x1 &&& 31) : Int32)) (fun v3 => lt_ ((v3 &&& 1 : Int32)) (fun v4 => (if ¬ v4 = 1 then  some (0 : Int32) else  some (1 : Int32))))))
def f_X6_cycle (M : SL) (x1 : Int32) : Option (Int32) :=
  lt_ ((x1 + 7 : Int32)) (fun v1 => gd (chk v1 251) ( lt_ (M 1 v1.toNatClampNeg) (fun v3 => (if ¬ v3 = 1 then lt_ ((x1 + 0 : Int32)) (fun v5 => gd (chk v5 251) ( lt_ (M 1 v5.toNatClampNeg) (fun v7 => some v7))) else lt_ ((x1 + 1 : Int32)) (fun v8 => gd (chk v8 251) ( lt_ (M 1 v8.toNatClampNeg) (fun v10 => some v10)))))))
def f_X6_speeds_b43 (M : SL) (x2 : Int32) (x3 : Int32) (s0 : Int32) : Option (SL) :=
  lt_ ((x2 + 7 : Int32)) (fun v1 => (if s0 = 0 then lt_ ((x2 + 3 : Int32)) (fun v3 => gd (chk v3 251) ( lt_ (M 1 v3.toNatClampNeg) (fun v5 => (if x3 < v5 then lt_ ((x2 + 7 : Int32)) (fun v7 => gd (chk v7 251) ( lt_ (M 1 v7.toNatClampNeg) (fun v9 => gd (chk v1 251) ( lt_ (up2 M 1 v1.toNatClampNeg v9) (fun M11 => some M11))))) else gd (chk v1 251) ( lt_ (up2 M 1 v1.toNatClampNeg 0) (fun M13 => some M13)))))) else gd (chk v1 251) ( lt_ (up2 M 1 v1.toNatClampNeg 1) (fun M15 => some M15))))
def f_X6_speeds_b38 (M : SL) (x2 : Int32) (x3 : Int32) : Option (SL) :=
   f_X6_speeds_b43 M x2 x3 1
def f_X6_speeds (M : SL) (x1 : Int32) : Option (SL) :=
  bd (f_X6_of x1) (fun r1 => lt_ ((r1 + 5 : Int32)) (fun v3 => gd (chk v3 251) ( lt_ (M 1 v3.toNatClampNeg) (fun v5 => lt_ (M 1 0) (fun v6 => lt_ ((v6 - 1 : Int32)) (fun v7 => (if x1 = v7 then  f_X6_speeds_b38 M r1 v5 else lt_ ((r1 + 2 : Int32)) (fun v9 => gd (chk v9 251) ( lt_ (M 1 v9.toNatClampNeg) (fun v11 => (if v11 < v5 then  f_X6_speeds_b43 M r1 v5 0 else  f_X6_speeds_b38 M r1 v5)))))))))))
def f_X6_leaves_b118 (M : SL) (x3 : Int32) (x5 : Int32) : Option (SL) :=
   (if x5 = 0 then  some M else lt_ ((x3 + 6 : Int32)) (fun v2 => gd (chk v2 251) ( lt_ (up2 M 1 v2.toNatClampNeg (-1)) (fun M4 => lt_ ((x3 + 9 : Int32)) (fun v5 => lt_ ((v5 + 4 : Int32)) (fun v6 => gd (chk v6 251) ( lt_ (M4 1 v6.toNatClampNeg) (fun v8 => lt_ ((v8 + 1 : Int32)) (fun v9 => lt_ (up2 M4 1 v6.toNatClampNeg v9) (fun M10 => some M10))))))))))
def f_X6_leaves_b81 (M : SL) (x3 : Int32) (x5 : Int32) : Option (SL) :=
  lt_ ((x3 + 5 : Int32)) (fun v1 => gd (chk v1 251) ( lt_ (M 1 v1.toNatClampNeg) (fun v3 => lt_ ((x3 + 4 : Int32)) (fun v4 => gd (chk v4 251) ( lt_ (M 1 v4.toNatClampNeg) (fun v6 => (if v6 ≤ v3 then  f_X6_leaves_b118 M x3 0 else lt_ ((x3 + 5 : Int32)) (fun v8 => gd (chk v8 251) ( lt_ (M 1 v8.toNatClampNeg) (fun v10 => lt_ ((v10 + 1 : Int32)) (fun v11 => lt_ (up2 M 1 v8.toNatClampNeg v11) (fun M12 => f_X6_leaves_b118 M12 x3 x5))))))))))))
def f_X6_leaves (M : SL) (x1 : Int32) (x2 : Int32) : Option (SL) :=
  bd (f_X6_of x1) (fun r1 => lt_ ((r1 + 16 : Int32)) (fun v3 => lt_ (M 1 0) (fun v4 => lt_ ((v4 - 1 : Int32)) (fun v5 => (if v5 ≤ x1 then  f_X6_leaves_b118 M r1 1 else lt_ ((r1 + 5 : Int32)) (fun v7 => gd (chk v7 251) ( lt_ (M 1 v7.toNatClampNeg) (fun v9 => (if ¬ v9 = 0 then  f_X6_leaves_b81 M r1 1 else lt_ ((v3 + 6 : Int32)) (fun v11 => gd (chk v11 251) ( lt_ (M 1 v11.toNatClampNeg) (fun v13 => (if ¬ v13 = (-1) then  f_X6_leaves_b81 M r1 1 else lt_ ((x1 + 1 : Int32)) (fun v15 => bd (f_X6_isDown M v15 x2) (fun r16 => (if ¬ r16 = 0 then  f_X6_leaves_b81 M r1 1 else lt_ ((v3 + 6 : Int32)) (fun v19 => bd (f_X6_cycle M v3) (fun r20 => gd (chk v19 251) ( lt_ (up2 M 1 v19.toNatClampNeg r20) (fun M23 => f_X6_leaves_b118 M23 r1 1))))))))))))))))))))
def f_X6_takes_b28 (M : SL) (x1 : Int32) (x2 : Int32) (s0 : Int32) : Option (SL) :=
   (if s0 = 0 then  some M else lt_ ((x2 + 6 : Int32)) (fun v2 => bd (f_X6_cycle M x2) (fun r3 => gd (chk v2 251) ( lt_ (up2 M 1 v2.toNatClampNeg r3) (fun M6 => (if x1 ≤ 0 then  some M6 else lt_ ((x2 - 16 : Int32)) (fun v8 => lt_ ((v8 + 5 : Int32)) (fun v9 => gd (chk v9 251) ( lt_ (M6 1 v9.toNatClampNeg) (fun v11 => lt_ ((v11 - 1 : Int32)) (fun v12 => lt_ (up2 M6 1 v9.toNatClampNeg v12) (fun M13 => some M13))))))))))))
def f_X6_takes_b23 (M : SL) (x1 : Int32) (x2 : Int32) : Option (SL) :=
   f_X6_takes_b28 M x1 x2 1
def f_X6_takes (M : SL) (x1 : Int32) : Option (SL) :=
  bd (f_X6_of x1) (fun r1 => (if x1 = 0 then  f_X6_takes_b23 M x1 r1 else lt_ ((r1 - 16 : Int32)) (fun v4 => lt_ ((v4 + 5 : Int32)) (fun v5 => gd (chk v5 251) ( lt_ (M 1 v5.toNatClampNeg) (fun v7 => (if v7 ≤ 0 then  f_X6_takes_b28 M x1 r1 0 else  f_X6_takes_b23 M x1 r1)))))))
def f_X6_turns_b57 (M : SL) (x1 : Int32) (x2 : Int32) (x3 : Int32) : Option (Int32 × SL) :=
  lt_ ((x3 + 6 : Int32)) (fun v1 => gd (chk v1 251) ( lt_ (M 1 v1.toNatClampNeg) (fun v3 => (if v3 ≤ 0 then lt_ ((x3 + 6 : Int32)) (fun v5 => gd (chk v5 251) ( lt_ (M 1 v5.toNatClampNeg) (fun v7 => (if ¬ v7 = 0 then  some (2, M) else  some (3, M))))) else lt_ ((x3 + 6 : Int32)) (fun v9 => gd (chk v9 251) ( lt_ (M 1 v9.toNatClampNeg) (fun v11 => lt_ ((v11 - 1 : Int32)) (fun v12 => lt_ (up2 M 1 v9.toNatClampNeg v12) (fun M13 => lt_ ((x3 + 6 : Int32)) (fun v14 => gd (chk v14 251) ( lt_ (M13 1 v14.toNatClampNeg) (fun v16 => (if ¬ v16 = 0 then  some (1, M13) else bd (f_X6_leaves M13 x1 x2) (fun M18 => some (1, M18)))))))))))))))
def f_X6_turns_b39 (M : SL) (x1 : Int32) (x2 : Int32) (x3 : Int32) : Option (Int32 × SL) :=
  lt_ ((x3 + 6 : Int32)) (fun v1 => gd (chk v1 251) ( lt_ (M 1 v1.toNatClampNeg) (fun v3 => (if ¬ v3 = (-1) then  f_X6_turns_b57 M x1 x2 x3 else bd (f_X6_takes M x1) (fun M5 => f_X6_turns_b57 M5 x1 x2 x3)))))
def f_X6_turns (M : SL) (x1 : Int32) (x2 : Int32) : Option (Int32 × SL) :=
  bd (f_X6_of x1) (fun r1 => bd (f_X6_speeds M x1) (fun M3 => bd (f_X6_isDown M3 x1 x2) (fun r5 => (if r5 = 0 then lt_ ((r1 + 6 : Int32)) (fun v8 => gd (chk v8 251) ( lt_ (M3 1 v8.toNatClampNeg) (fun v10 => (if ¬ v10 = 0 then  f_X6_turns_b39 M3 x1 x2 r1 else bd (f_X6_leaves M3 x1 x2) (fun M12 => f_X6_turns_b39 M12 x1 x2 r1))))) else  some (4, M3)))))
def f_X6_passes_b149 (K76 : SL → Int32 → Option (SL)) (M : SL) (x1 : Int32) (s1 : Int32) (s2 : Int32) (s3 : Int32) : Option (SL) :=
  lt_ ((s2 + s3 : Int32)) (fun v1 => gd (chk s1 251) ( lt_ (up2 M 1 s1.toNatClampNeg v1) (fun M3 => lt_ (x1 + 1) (fun z4 => K76 M3 z4))))
def f_X6_passes_b76 (K76 : SL → Int32 → Option (SL)) (M : SL) (x1 : Int32) : Option (SL) :=
  lt_ (M 1 0) (fun v1 => lt_ ((v1 - 1 : Int32)) (fun v2 => (if v2 ≤ x1 then  some M else bd (f_X6_of x1) (fun r4 => lt_ ((r4 + 15 : Int32)) (fun v6 => gd (chk v6 251) ( lt_ (M 1 v6.toNatClampNeg) (fun v8 => lt_ ((r4 + 5 : Int32)) (fun v9 => gd (chk v9 251) ( lt_ (M 1 v9.toNatClampNeg) (fun v11 => lt_ ((v8 + v11 : Int32)) (fun v12 => lt_ (up2 M 1 v6.toNatClampNeg v12) (fun M13 => lt_ ((r4 + 9 : Int32)) (fun v14 => lt_ ((v14 + 5 : Int32)) (fun v15 => gd (chk v15 251) ( lt_ (M13 1 v15.toNatClampNeg) (fun v17 => lt_ ((r4 + 5 : Int32)) (fun v18 => gd (chk v18 251) ( lt_ (M13 1 v18.toNatClampNeg) (fun v20 => lt_ ((r4 + 4 : Int32)) (fun v21 => gd (chk v21 251) ( lt_ (M13 1 v21.toNatClampNeg) (fun v23 => (if v20 < v23 then  f_X6_passes_b149 K76 M13 x1 v15 v17 0 else  f_X6_passes_b149 K76 M13 x1 v15 v17 1)))))))))))))))))))))))
def f_X6_passes_h76 : Nat → SL → Int32 → Option (SL)
  | 0, _, _ => none
  | n + 1, M, x1 => f_X6_passes_b76  (f_X6_passes_h76  n) M x1
def f_X6_passes_b19 (K19 : SL → Int32 → Option (SL)) (M : SL) (x1 : Int32) : Option (SL) :=
   (if x1 < 0 then  f_X6_passes_h76 fuel M 0 else lt_ (M 1 1) (fun v2 => bd2 (f_X6_turns M x1 v2) (fun r3 M4 => bd (f_X6_of x1) (fun r6 => lt_ ((r6 + 8 : Int32)) (fun v8 => gd (chk v8 251) ( lt_ (up2 M4 1 v8.toNatClampNeg r3) (fun M10 => bd (f_X6_of x1) (fun r11 => lt_ ((r11 + 9 : Int32)) (fun v13 => lt_ ((v13 + r3 : Int32)) (fun v14 => lt_ ((v14 - 1 : Int32)) (fun v15 => gd (chk v15 251) ( lt_ (M10 1 v15.toNatClampNeg) (fun v17 => lt_ ((v17 + 1 : Int32)) (fun v18 => lt_ (up2 M10 1 v15.toNatClampNeg v18) (fun M19 => lt_ (x1 + (-1)) (fun z20 => K19 M19 z20))))))))))))))))
def f_X6_passes_h19 : Nat → SL → Int32 → Option (SL)
  | 0, _, _ => none
  | n + 1, M, x1 => f_X6_passes_b19  (f_X6_passes_h19  n) M x1
def f_X6_passes (M : SL) : Option (SL) :=
  lt_ (M 1 1) (fun v1 => lt_ ((v1 + 1 : Int32)) (fun v2 => lt_ (up2 M 1 1 v2) (fun M3 => lt_ (M3 1 0) (fun v4 => lt_ ((v4 - 1 : Int32)) (fun v5 => f_X6_passes_h19 fuel M3 v5)))))
def f_X6_made (M : SL) : Option (Int32) :=
  lt_ (M 1 0) (fun v1 => (if ¬ v1 = 0 then lt_ (M 1 0) (fun v3 => lt_ ((v3 - 1 : Int32)) (fun v4 => bd (f_X6_of v4) (fun r5 => lt_ ((r5 + 9 : Int32)) (fun v7 => lt_ ((v7 + 4 : Int32)) (fun v8 => gd (chk v8 251) ( lt_ (M 1 v8.toNatClampNeg) (fun v10 => some v10))))))) else  some (0 : Int32)))
def f_X6_goes_b27 (K27 : SL → Int32 → Int32 → Int32 → Option (Int32 × SL)) (M : SL) (x1 : Int32) (x2 : Int32) (x3 : Int32) : Option (Int32 × SL) :=
   (if x1 ≤ x3 then bd (f_X6_made M) (fun r2 => lt_ ((r2 - x2 : Int32)) (fun v4 => some (v4, M))) else bd (f_X6_passes M) (fun M5 => lt_ (x3 + 1) (fun z7 => K27 M5 x1 x2 z7)))
def f_X6_goes_h27 : Nat → SL → Int32 → Int32 → Int32 → Option (Int32 × SL)
  | 0, _, _, _, _ => none
  | n + 1, M, x1, x2, x3 => f_X6_goes_b27  (f_X6_goes_h27  n) M x1 x2 x3
def f_X6_goes (M : SL) (x1 : Int32) : Option (Int32 × SL) :=
  bd (f_X6_made M) (fun r1 => lt_ (M 1 1) (fun v3 => lt_ ((v3 + 1 : Int32)) (fun v4 => lt_ (M 1 1) (fun v5 => lt_ ((v5 + x1 : Int32)) (fun v6 => bd (f_X6_laysDown M v4 v6) (fun M7 => f_X6_goes_h27 fuel M7 x1 r1 0))))))
def f_X6_run_b44 (M : SL) (x1 : Int32) (s1 : Int32) : Option (Int32 × SL) :=
  bd2 (f_X6_refused M s1) (fun r1 M2 => (if r1 = 0 then bd (f_X6_saves M2) (fun M5 => bd2 (f_X6_goes M5 x1) (fun r7 M8 => some (r7, M8))) else  some (0, M2)))
def f_X6_run_b39 (M : SL) (x1 : Int32) : Option (Int32 × SL) :=
   f_X6_run_b44 M x1 2
def f_X6_run (M : SL) (x1 : Int32) : Option (Int32 × SL) :=
  bd (f_X6_within x1 0 2000) (fun r1 => (if ¬ r1 = 0 then lt_ (M 1 0) (fun v4 => (if v4 = 0 then  f_X6_run_b39 M x1 else lt_ (M 1 1) (fun v6 => lt_ ((v6 + x1 : Int32)) (fun v7 => (if v7 ≤ 10000 then  f_X6_run_b44 M x1 0 else  f_X6_run_b39 M x1))))) else  f_X6_run_b44 M x1 1))
def f_X6_empties_b26 (K9 : SL → Int32 → Option (SL)) (K26 : SL → Int32 → Int32 → Int32 → Option (SL)) (M : SL) (x1 : Int32) (x2 : Int32) (x3 : Int32) : Option (SL) :=
   (if 16 ≤ x3 then lt_ ((x2 + 6 : Int32)) (fun v2 => gd (chk v2 251) ( lt_ (up2 M 1 v2.toNatClampNeg (-1)) (fun M4 => lt_ ((x2 + 7 : Int32)) (fun v5 => gd (chk v5 251) ( lt_ (up2 M4 1 v5.toNatClampNeg 1) (fun M7 => lt_ (x1 + 1) (fun z8 => K9 M7 z8))))))) else lt_ ((x2 + x3 : Int32)) (fun v9 => gd (chk v9 251) ( lt_ (up2 M 1 v9.toNatClampNeg 0) (fun M11 => lt_ (x3 + 1) (fun z12 => K26 M11 x1 x2 z12)))))
def f_X6_empties_h26 (K9 : SL → Int32 → Option (SL)) : Nat → SL → Int32 → Int32 → Int32 → Option (SL)
  | 0, _, _, _, _ => none
  | n + 1, M, x1, x2, x3 => f_X6_empties_b26 K9 (f_X6_empties_h26 K9 n) M x1 x2 x3
def f_X6_empties_b9 (K9 : SL → Int32 → Option (SL)) (M : SL) (x1 : Int32) : Option (SL) :=
  lt_ (M 1 0) (fun v1 => (if v1 ≤ x1 then  some M else bd (f_X6_of x1) (fun r3 => f_X6_empties_h26 K9 fuel M x1 r3 5)))
def f_X6_empties_h9 : Nat → SL → Int32 → Option (SL)
  | 0, _, _ => none
  | n + 1, M, x1 => f_X6_empties_b9  (f_X6_empties_h9  n) M x1
def f_X6_empties (M : SL) : Option (SL) :=
  lt_ (up2 M 1 1 0) (fun M1 => f_X6_empties_h9 fuel M1 0)
def f_X6_restart (M : SL) : Option (Int32 × SL) :=
  lt_ (up2 M 0 4 0) (fun M1 => bd (f_X6_saves M1) (fun M2 => lt_ (M2 1 1) (fun v4 => bd (f_X6_empties M2) (fun M5 => some (v4, M5)))))
def f_X6_now (M : SL) : Option (Int32 × SL) :=
  lt_ (up2 M 0 4 0) (fun M1 => lt_ (M1 1 1) (fun v2 => some (v2, M1)))
def f_X6_output (M : SL) : Option (Int32 × SL) :=
  lt_ (up2 M 0 4 0) (fun M1 => bd (f_X6_made M1) (fun r2 => some (r2, M1)))
def f_X6_setting_b27 (M : SL) (x1 : Int32) (x2 : Int32) (s1 : Int32) : Option (Int32 × SL) :=
  bd2 (f_X6_refused M s1) (fun r1 M2 => (if r1 = 0 then bd (f_X6_of x1) (fun r5 => lt_ ((r5 + x2 : Int32)) (fun v7 => gd (chk v7 251) ( lt_ (M2 1 v7.toNatClampNeg) (fun v9 => some (v9, M2))))) else  some (0, M2)))
def f_X6_setting (M : SL) (x1 : Int32) (x2 : Int32) : Option (Int32 × SL) :=
  bd (f_X6_isMachine M x1) (fun r1 => (if ¬ r1 = 0 then bd (f_X6_within x2 0 4) (fun r4 => (if r4 = 0 then  f_X6_setting_b27 M x1 x2 2 else  f_X6_setting_b27 M x1 x2 0)) else  f_X6_setting_b27 M x1 x2 1))
def f_X6_tellMachine (M : SL) (x1 : Int32) (x2 : Int32) : Option (Int32) :=
  bd (f_X6_of x1) (fun r1 => lt_ ((r1 + 5 : Int32)) (fun v3 => lt_ ((v3 + x2 : Int32)) (fun v4 => gd (chk v4 251) ( lt_ (M 1 v4.toNatClampNeg) (fun v6 => some v6)))))
def f_X6_machine_b27 (M : SL) (x1 : Int32) (x2 : Int32) (s1 : Int32) : Option (Int32 × SL) :=
  bd2 (f_X6_refused M s1) (fun r1 M2 => (if r1 = 0 then bd (f_X6_tellMachine M2 x1 x2) (fun r5 => some (r5, M2)) else  some (0, M2)))
def f_X6_machine (M : SL) (x1 : Int32) (x2 : Int32) : Option (Int32 × SL) :=
  bd (f_X6_isMachine M x1) (fun r1 => (if ¬ r1 = 0 then bd (f_X6_within x2 0 3) (fun r4 => (if r4 = 0 then  f_X6_machine_b27 M x1 x2 2 else  f_X6_machine_b27 M x1 x2 0)) else  f_X6_machine_b27 M x1 x2 1))
def f_X6_count_b27 (M : SL) (x1 : Int32) (x2 : Int32) (s1 : Int32) : Option (Int32 × SL) :=
  bd2 (f_X6_refused M s1) (fun r1 M2 => (if r1 = 0 then bd (f_X6_of x1) (fun r5 => lt_ ((r5 + 9 : Int32)) (fun v7 => lt_ ((v7 + x2 : Int32)) (fun v8 => gd (chk v8 251) ( lt_ (M2 1 v8.toNatClampNeg) (fun v10 => some (v10, M2)))))) else  some (0, M2)))
def f_X6_count (M : SL) (x1 : Int32) (x2 : Int32) : Option (Int32 × SL) :=
  bd (f_X6_isMachine M x1) (fun r1 => (if ¬ r1 = 0 then bd (f_X6_within x2 0 5) (fun r4 => (if r4 = 0 then  f_X6_count_b27 M x1 x2 2 else  f_X6_count_b27 M x1 x2 0)) else  f_X6_count_b27 M x1 x2 1))
def f_X6_meanFill_b14 (M : SL) (x1 : Int32) (s1 : Int32) : Option (UInt64 × SL) :=
  bd2 (f_X6_refused M s1) (fun r1 M2 => (if ¬ r1 = 0 then  some (0, M2) else lt_ (M2 1 1) (fun v5 => (if ¬ v5 = 0 then bd (f_X6_of x1) (fun r7 => lt_ ((r7 + 15 : Int32)) (fun v9 => gd (chk v9 251) ( lt_ (M2 1 v9.toNatClampNeg) (fun v11 => lt_ (FP.i2d v11) (fun dd12 => lt_ (M2 1 1) (fun v13 => lt_ (FP.i2d v13) (fun dd14 => gd (dnn dd12 dd14) ( lt_ (FP.ddiv dd12 dd14) (fun dd16 => some (dd16, M2)))))))))) else  some (0, M2)))))
def f_X6_meanFill (M : SL) (x1 : Int32) : Option (UInt64 × SL) :=
  bd (f_X6_isMachine M x1) (fun r1 => (if r1 = 0 then  f_X6_meanFill_b14 M x1 1 else  f_X6_meanFill_b14 M x1 0))
def f_X6_bottles_b47 (K4 : SL → Int32 → Int32 → Option (Int32)) (M : SL) (x2 : Int32) (s0 : Int32) (s1 : Int32) (s2 : Int32) : Option (Int32) :=
  lt_ ((s1 + s2 : Int32)) (fun v1 => lt_ ((s0 + v1 : Int32)) (fun v2 => lt_ (x2 + 1) (fun z3 => K4 M v2 z3)))
def f_X6_bottles_b4 (K4 : SL → Int32 → Int32 → Option (Int32)) (M : SL) (x1 : Int32) (x2 : Int32) : Option (Int32) :=
  lt_ (M 1 0) (fun v1 => (if v1 ≤ x2 then  some x1 else bd (f_X6_of x2) (fun r3 => lt_ ((r3 + 5 : Int32)) (fun v5 => gd (chk v5 251) ( lt_ (M 1 v5.toNatClampNeg) (fun v7 => bd (f_X6_of x2) (fun r8 => lt_ ((r8 + 6 : Int32)) (fun v10 => gd (chk v10 251) ( lt_ (M 1 v10.toNatClampNeg) (fun v12 => (if ¬ v12 = (-1) then  f_X6_bottles_b47 K4 M x2 x1 v7 1 else  f_X6_bottles_b47 K4 M x2 x1 v7 0)))))))))))
def f_X6_bottles_h4 : Nat → SL → Int32 → Int32 → Option (Int32)
  | 0, _, _, _ => none
  | n + 1, M, x1, x2 => f_X6_bottles_b4  (f_X6_bottles_h4  n) M x1 x2
def f_X6_bottles (M : SL) : Option (Int32) :=
   f_X6_bottles_h4 fuel M 0 0
def f_X6_inside (M : SL) : Option (Int32 × SL) :=
  lt_ (up2 M 0 4 0) (fun M1 => bd (f_X6_bottles M1) (fun r2 => some (r2, M1)))
def f_X6_most_b27 (K5 : SL → Int32 → Int32 → Int32 → Int32 → Option (Int32)) (M : SL) (x1 : Int32) (x2 : Int32) (x4 : Int32) (s0 : Int32) (s1 : Int32) : Option (Int32) :=
  lt_ ((s0 + s1 : Int32)) (fun v1 => lt_ (x4 + 1) (fun z2 => K5 M x1 x2 v1 z2))
def f_X6_most_b5 (K5 : SL → Int32 → Int32 → Int32 → Int32 → Option (Int32)) (M : SL) (x1 : Int32) (x2 : Int32) (x3 : Int32) (x4 : Int32) : Option (Int32) :=
   (if x2 < x4 then bd (f_X6_of x1) (fun r2 => lt_ ((r2 + 1 : Int32)) (fun v4 => gd (chk v4 251) ( lt_ (M 1 v4.toNatClampNeg) (fun v6 => gd (nz v6) ( lt_ ((x3 / v6 : Int32)) (fun v8 => some v8)))))) else bd (f_X6_isDown M x1 x4) (fun r9 => (if r9 = 0 then  f_X6_most_b27 K5 M x1 x2 x4 x3 1 else  f_X6_most_b27 K5 M x1 x2 x4 x3 0)))
def f_X6_most_h5 : Nat → SL → Int32 → Int32 → Int32 → Int32 → Option (Int32)
  | 0, _, _, _, _, _ => none
  | n + 1, M, x1, x2, x3, x4 => f_X6_most_b5  (f_X6_most_h5  n) M x1 x2 x3 x4
def f_X6_most (M : SL) (x1 : Int32) (x2 : Int32) : Option (Int32) :=
   f_X6_most_h5 fuel M x1 x2 0 1
def f_X6_slowestOf_b40 (K10 : SL → Int32 → Int32 → Int32 → Option (Int32 × SL)) (M : SL) (x1 : Int32) (x3 : Int32) (s0 : Int32) : Option (Int32 × SL) :=
  lt_ (x3 + 1) (fun z1 => K10 M x1 s0 z1)
def f_X6_slowestOf_b10 (K10 : SL → Int32 → Int32 → Int32 → Option (Int32 × SL)) (M : SL) (x1 : Int32) (x2 : Int32) (x3 : Int32) : Option (Int32 × SL) :=
  lt_ (M 1 0) (fun v1 => (if v1 ≤ x3 then  some (x2, M) else bd (f_X6_most M x3 x1) (fun r3 => bd (f_X6_most M x2 x1) (fun r5 => (if r5 ≤ r3 then  f_X6_slowestOf_b40 K10 M x1 x3 x2 else  f_X6_slowestOf_b40 K10 M x1 x3 x3)))))
def f_X6_slowestOf_h10 : Nat → SL → Int32 → Int32 → Int32 → Option (Int32 × SL)
  | 0, _, _, _, _ => none
  | n + 1, M, x1, x2, x3 => f_X6_slowestOf_b10  (f_X6_slowestOf_h10  n) M x1 x2 x3
def f_X6_slowestOf (M : SL) (x1 : Int32) : Option (Int32 × SL) :=
  bd (f_X6_laysDown M 1 x1) (fun M1 => f_X6_slowestOf_h10 fuel M1 x1 0 1)
def f_X6_refusedLimit_b30 (M : SL) (s1 : Int32) : Option (Int32 × SL) :=
  bd2 (f_X6_refused M s1) (fun r1 M2 => gd (isB r1) ( some (r1, M2)))
def f_X6_refusedLimit (M : SL) (x1 : Int32) : Option (Int32 × SL) :=
  bd (f_X6_within x1 1 10000) (fun r1 => (if ¬ r1 = 0 then lt_ (M 1 0) (fun v4 => (if ¬ v4 = 0 then  f_X6_refusedLimit_b30 M 0 else  f_X6_refusedLimit_b30 M 2)) else  f_X6_refusedLimit_b30 M 1))
def f_X6_bound (M : SL) (x1 : Int32) : Option (Int32 × SL) :=
  bd2 (f_X6_refusedLimit M x1) (fun r1 M2 => (if r1 = 0 then bd2 (f_X6_slowestOf M2 x1) (fun r5 M6 => bd (f_X6_most M6 r5 x1) (fun r8 => some (r8, M6))) else  some (0, M2)))
def f_X6_slowest (M : SL) (x1 : Int32) : Option (Int32 × SL) :=
  bd2 (f_X6_refusedLimit M x1) (fun r1 M2 => (if r1 = 0 then bd2 (f_X6_slowestOf M2 x1) (fun r5 M6 => some (r5, M6)) else  some (0, M2)))
def f_X6_idle (M : SL) (x1 : Int32) : Option (Int32) :=
  bd (f_X6_of x1) (fun r1 => lt_ ((r1 + 9 : Int32)) (fun v3 => lt_ ((v3 + 2 : Int32)) (fun v4 => lt_ ((v4 - 1 : Int32)) (fun v5 => gd (chk v5 251) ( lt_ (M 1 v5.toNatClampNeg) (fun v7 => bd (f_X6_of x1) (fun r8 => lt_ ((r8 + 9 : Int32)) (fun v10 => lt_ ((v10 + 3 : Int32)) (fun v11 => lt_ ((v11 - 1 : Int32)) (fun v12 => gd (chk v12 251) ( lt_ (M 1 v12.toNatClampNeg) (fun v14 => lt_ ((v7 + v14 : Int32)) (fun v15 => some v15)))))))))))))
def f_X6_limiting_b55 (K27 : SL → Int32 → Int32 → Option (Int32 × SL)) (M : SL) (x2 : Int32) (s0 : Int32) : Option (Int32 × SL) :=
  lt_ (x2 + 1) (fun z1 => K27 M s0 z1)
def f_X6_limiting_b27 (K27 : SL → Int32 → Int32 → Option (Int32 × SL)) (M : SL) (x1 : Int32) (x2 : Int32) : Option (Int32 × SL) :=
  lt_ (M 1 0) (fun v1 => (if v1 ≤ x2 then  some (x1, M) else bd (f_X6_idle M x2) (fun r3 => bd (f_X6_idle M x1) (fun r5 => (if r5 ≤ r3 then  f_X6_limiting_b55 K27 M x2 x1 else  f_X6_limiting_b55 K27 M x2 x2)))))
def f_X6_limiting_h27 : Nat → SL → Int32 → Int32 → Option (Int32 × SL)
  | 0, _, _, _ => none
  | n + 1, M, x1, x2 => f_X6_limiting_b27  (f_X6_limiting_h27  n) M x1 x2
def f_X6_limiting_b15 (M : SL) (s1 : Int32) : Option (Int32 × SL) :=
  bd2 (f_X6_refused M s1) (fun r1 M2 => (if r1 = 0 then  f_X6_limiting_h27 fuel M2 0 1 else  some (0, M2)))
def f_X6_limiting (M : SL) : Option (Int32 × SL) :=
  lt_ (M 1 0) (fun v1 => (if ¬ v1 = 0 then  f_X6_limiting_b15 M 0 else  f_X6_limiting_b15 M 1))
def f_X6_madeWith (M : SL) (x1 : Int32) (x2 : Int32) (x3 : Int32) : Option (Int32 × SL) :=
  bd (f_X6_keeps M) (fun M1 => bd (f_X6_of x1) (fun r3 => lt_ ((r3 + 4 : Int32)) (fun v5 => gd (chk v5 251) ( lt_ (up2 M1 1 v5.toNatClampNeg x2) (fun M7 => bd (f_X6_empties M7) (fun M8 => bd2 (f_X6_goes M8 x3) (fun r10 M11 => bd (f_X6_takesBack M11) (fun M13 => some (r10, M13)))))))))
def f_X6_areTicks (x0 : Int32) : Option (Int32) :=
  bd (f_X6_within x0 1 2000) (fun r1 => gd (isB r1) ( some r1))
def f_X6_outputWith_b32 (M : SL) (x1 : Int32) (x2 : Int32) (x3 : Int32) (s1 : Int32) : Option (Int32 × SL) :=
  bd2 (f_X6_refused M s1) (fun r1 M2 => (if r1 = 0 then bd2 (f_X6_madeWith M2 x1 x2 x3) (fun r5 M6 => some (r5, M6)) else  some (0, M2)))
def f_X6_outputWith_b31 (M : SL) (x1 : Int32) (x2 : Int32) (x3 : Int32) : Option (Int32 × SL) :=
   f_X6_outputWith_b32 M x1 x2 x3 2
def f_X6_outputWith (M : SL) (x1 : Int32) (x2 : Int32) (x3 : Int32) : Option (Int32 × SL) :=
  bd (f_X6_isMachine M x1) (fun r1 => (if ¬ r1 = 0 then bd (f_X6_isCapacity x2) (fun r4 => (if r4 = 0 then  f_X6_outputWith_b31 M x1 x2 x3 else bd (f_X6_areTicks x3) (fun r7 => (if r7 = 0 then  f_X6_outputWith_b31 M x1 x2 x3 else  f_X6_outputWith_b32 M x1 x2 x3 0)))) else  f_X6_outputWith_b32 M x1 x2 x3 1))
def f_X6_capacityFor_b47 (K47 : SL → Int32 → Int32 → Int32 → Int32 → Option (Int32 × SL)) (M : SL) (x1 : Int32) (x2 : Int32) (x3 : Int32) (x4 : Int32) : Option (Int32 × SL) :=
   (if 40 < x4 then  some ((-1), M) else bd2 (f_X6_madeWith M x1 x4 x2) (fun r2 M3 => (if r2 < x3 then lt_ (x4 + 1) (fun z6 => K47 M3 x1 x2 x3 z6) else  some (x4, M3))))
def f_X6_capacityFor_h47 : Nat → SL → Int32 → Int32 → Int32 → Int32 → Option (Int32 × SL)
  | 0, _, _, _, _, _ => none
  | n + 1, M, x1, x2, x3, x4 => f_X6_capacityFor_b47  (f_X6_capacityFor_h47  n) M x1 x2 x3 x4
def f_X6_capacityFor_b36 (M : SL) (x1 : Int32) (x2 : Int32) (x3 : Int32) (s1 : Int32) : Option (Int32 × SL) :=
  bd2 (f_X6_refused M s1) (fun r1 M2 => (if r1 = 0 then  f_X6_capacityFor_h47 fuel M2 x1 x2 x3 0 else  some (0, M2)))
def f_X6_capacityFor_b35 (M : SL) (x1 : Int32) (x2 : Int32) (x3 : Int32) : Option (Int32 × SL) :=
   f_X6_capacityFor_b36 M x1 x2 x3 2
def f_X6_capacityFor (M : SL) (x1 : Int32) (x2 : Int32) (x3 : Int32) : Option (Int32 × SL) :=
  bd (f_X6_isMachine M x1) (fun r1 => (if ¬ r1 = 0 then bd (f_X6_areTicks x2) (fun r4 => (if r4 = 0 then  f_X6_capacityFor_b35 M x1 x2 x3 else bd (f_X6_within x3 0 2000) (fun r7 => (if r7 = 0 then  f_X6_capacityFor_b35 M x1 x2 x3 else  f_X6_capacityFor_b36 M x1 x2 x3 0)))) else  f_X6_capacityFor_b36 M x1 x2 x3 1))
def f_X6_bestBuffer_b133 (K53 : SL → Int32 → Int32 → Int32 → Int32 → Int32 → Option (Int32 × SL)) (M : SL) (x1 : Int32) (x2 : Int32) (x3 : Int32) (x5 : Int32) (s0 : Int32) : Option (Int32 × SL) :=
  lt_ (x5 + 1) (fun z1 => K53 M x1 x2 x3 s0 z1)
def f_X6_bestBuffer_b118 (K53 : SL → Int32 → Int32 → Int32 → Int32 → Int32 → Option (Int32 × SL)) (M : SL) (x1 : Int32) (x2 : Int32) (x4 : Int32) (x5 : Int32) (x7 : Int32) (s0 : Int32) : Option (Int32 × SL) :=
   (if x7 ≤ x4 then  f_X6_bestBuffer_b133 K53 M x1 x2 s0 x5 x4 else  f_X6_bestBuffer_b133 K53 M x1 x2 s0 x5 x7)
def f_X6_bestBuffer_b99 (K53 : SL → Int32 → Int32 → Int32 → Int32 → Int32 → Option (Int32 × SL)) (M : SL) (x1 : Int32) (x2 : Int32) (x3 : Int32) (x4 : Int32) (x5 : Int32) (s1 : Int32) (s2 : Int32) : Option (Int32 × SL) :=
  bd2 (f_X6_madeWith M s1 s2 x1) (fun r1 M2 => (if r1 ≤ x4 then  f_X6_bestBuffer_b118 K53 M2 x1 x2 x4 x5 r1 x3 else  f_X6_bestBuffer_b118 K53 M2 x1 x2 x4 x5 r1 x5))
def f_X6_bestBuffer_b53 (K53 : SL → Int32 → Int32 → Int32 → Int32 → Int32 → Option (Int32 × SL)) (M : SL) (x1 : Int32) (x2 : Int32) (x3 : Int32) (x4 : Int32) (x5 : Int32) : Option (Int32 × SL) :=
  lt_ (M 1 0) (fun v1 => lt_ ((v1 - 1 : Int32)) (fun v2 => (if v2 ≤ x5 then  some (x3, M) else bd (f_X6_of x5) (fun r4 => lt_ ((r4 + 4 : Int32)) (fun v6 => gd (chk v6 251) ( lt_ (M 1 v6.toNatClampNeg) (fun v8 => lt_ ((v8 + x2 : Int32)) (fun v9 => (if v9 ≤ 40 then  f_X6_bestBuffer_b99 K53 M x1 x2 x3 x4 x5 x5 v9 else  f_X6_bestBuffer_b99 K53 M x1 x2 x3 x4 x5 x5 40)))))))))
def f_X6_bestBuffer_h53 : Nat → SL → Int32 → Int32 → Int32 → Int32 → Int32 → Option (Int32 × SL)
  | 0, _, _, _, _, _, _ => none
  | n + 1, M, x1, x2, x3, x4, x5 => f_X6_bestBuffer_b53  (f_X6_bestBuffer_h53  n) M x1 x2 x3 x4 x5
def f_X6_bestBuffer_b37 (M : SL) (x1 : Int32) (x2 : Int32) (s1 : Int32) : Option (Int32 × SL) :=
  bd2 (f_X6_refused M s1) (fun r1 M2 => (if r1 = 0 then  f_X6_bestBuffer_h53 fuel M2 x1 x2 0 (-1) 0 else  some (0, M2)))
def f_X6_bestBuffer_b18 (M : SL) (x1 : Int32) (x2 : Int32) : Option (Int32 × SL) :=
   f_X6_bestBuffer_b37 M x1 x2 1
def f_X6_bestBuffer (M : SL) (x1 : Int32) (x2 : Int32) : Option (Int32 × SL) :=
  bd (f_X6_areTicks x1) (fun r1 => (if r1 = 0 then  f_X6_bestBuffer_b18 M x1 x2 else bd (f_X6_within x2 1 40) (fun r4 => (if ¬ r4 = 0 then lt_ (M 1 0) (fun v7 => (if 2 ≤ v7 then  f_X6_bestBuffer_b37 M x1 x2 0 else  f_X6_bestBuffer_b37 M x1 x2 2)) else  f_X6_bestBuffer_b18 M x1 x2))))
def f_X6_append_b29 (M : SL) (x1 : Int32) (s1 : Int32) : Option (Int32 × SL) :=
  bd2 (f_X6_refused M s1) (fun r1 M2 => (if r1 = 0 then lt_ (M2 0 6) (fun v5 => gd (chk v5 120) ( lt_ (up2 M2 4 v5.toNatClampNeg x1) (fun M7 => lt_ (M7 0 6) (fun v8 => lt_ ((v8 + 1 : Int32)) (fun v9 => lt_ (up2 M7 0 6 v9) (fun M10 => lt_ (M10 0 6) (fun v11 => some (v11, M10)))))))) else  some (0, M2)))
def f_X6_append (M : SL) (x1 : Int32) : Option (Int32 × SL) :=
  bd (f_X6_within x1 0 127) (fun r1 => (if ¬ r1 = 0 then lt_ (M 0 6) (fun v4 => (if ¬ v4 = 120 then  f_X6_append_b29 M x1 0 else  f_X6_append_b29 M x1 2)) else  f_X6_append_b29 M x1 1))
def f_X6_clearText (M : SL) : Option (Int32 × SL) :=
  lt_ (up2 M 0 4 0) (fun M1 => lt_ (M1 0 6) (fun v2 => lt_ (up2 M1 0 6 0) (fun M3 => some (v2, M3))))
def f_X6_isAt_b32 (M : SL) : Option (Int32) :=
   some (0 : Int32)
def f_X6_isAt (M : SL) (x1 : Int32) (x2 : Int32) : Option (Int32) :=
  lt_ (M 0 9) (fun v1 => lt_ (M 0 6) (fun v2 => (if v2 ≤ v1 then  f_X6_isAt_b32 M else lt_ (M 0 9) (fun v4 => gd (chk v4 120) ( lt_ (M 4 v4.toNatClampNeg) (fun v6 => bd (f_X6_within v6 x1 x2) (fun r7 => (if r7 = 0 then  f_X6_isAt_b32 M else  some (1 : Int32)))))))))
def f_X6_sign (M : SL) (x1 : Int32) : Option (Int32 × SL) :=
  bd (f_X6_isAt M x1 x1) (fun r1 => lt_ (M 0 9) (fun v3 => (if r1 = 0 then lt_ ((v3 + 0 : Int32)) (fun v5 => lt_ (up2 M 0 9 v5) (fun M6 => gd (isB r1) ( some (r1, M6)))) else lt_ ((v3 + 1 : Int32)) (fun v8 => lt_ (up2 M 0 9 v8) (fun M9 => gd (isB r1) ( some (r1, M9)))))))
def f_X6_number_b68 (M : SL) (x1 : Int32) (x2 : Int32) (x3 : Int32) : Option (Int32 × SL) :=
  lt_ (M 0 9) (fun v1 => (if v1 = x3 then  some (0, M) else bd (f_X6_isAt M 48 57) (fun r3 => (if r3 = 0 then lt_ (M 0 10) (fun v6 => bd (f_X6_within v6 x1 x2) (fun r7 => (if r7 = 0 then lt_ (up2 M 0 9 x3) (fun M10 => gd (isB r7) ( some (r7, M10))) else lt_ (M 0 9) (fun v12 => lt_ (up2 M 0 9 v12) (fun M13 => gd (isB r7) ( some (r7, M13))))))) else  some (0, M)))))
def f_X6_number_b10 (K10 : SL → Int32 → Int32 → Int32 → Option (Int32 × SL)) (M : SL) (x1 : Int32) (x2 : Int32) (x3 : Int32) : Option (Int32 × SL) :=
  lt_ (M 0 9) (fun v1 => lt_ ((v1 - x3 : Int32)) (fun v2 => (if 2 ≤ v2 then  f_X6_number_b68 M x1 x2 x3 else bd (f_X6_isAt M 48 57) (fun r4 => (if r4 = 0 then  f_X6_number_b68 M x1 x2 x3 else lt_ (M 0 10) (fun v7 => lt_ ((10 * v7 : Int32)) (fun v8 => lt_ (M 0 9) (fun v9 => gd (chk v9 120) ( lt_ (M 4 v9.toNatClampNeg) (fun v11 => lt_ ((v8 + v11 : Int32)) (fun v12 => lt_ ((v12 - 48 : Int32)) (fun v13 => lt_ (up2 M 0 10 v13) (fun M14 => lt_ (M14 0 9) (fun v15 => lt_ ((v15 + 1 : Int32)) (fun v16 => lt_ (up2 M14 0 9 v16) (fun M17 => K10 M17 x1 x2 x3))))))))))))))))
def f_X6_number_h10 : Nat → SL → Int32 → Int32 → Int32 → Option (Int32 × SL)
  | 0, _, _, _, _ => none
  | n + 1, M, x1, x2, x3 => f_X6_number_b10  (f_X6_number_h10  n) M x1 x2 x3
def f_X6_number (M : SL) (x1 : Int32) (x2 : Int32) : Option (Int32 × SL) :=
  lt_ (M 0 9) (fun v1 => lt_ (up2 M 0 10 0) (fun M2 => f_X6_number_h10 fuel M2 x1 x2 v1))
def f_X6_readsMachine (M : SL) : Option (Int32 × SL) :=
  lt_ (M 1 0) (fun v1 => (if ¬ v1 = 8 then lt_ (M 0 9) (fun v3 => lt_ ((v3 + 1 : Int32)) (fun v4 => lt_ (up2 M 0 9 v4) (fun M5 => bd2 (f_X6_number M5 1 20) (fun r6 M7 => (if ¬ r6 = 0 then lt_ (M7 0 10) (fun v10 => bd2 (f_X6_sign M7 44) (fun r11 M12 => (if r11 = 0 then  some (0, M12) else bd2 (f_X6_number M12 1 v10) (fun r15 M16 => (if ¬ r15 = 0 then lt_ (M16 0 10) (fun v19 => bd2 (f_X6_sign M16 44) (fun r20 M21 => (if r20 = 0 then  some (0, M21) else bd2 (f_X6_number M21 0 40) (fun r24 M25 => (if ¬ r24 = 0 then lt_ (M25 0 10) (fun v28 => bd (f_X6_adds M25 v10 v19 v28) (fun M29 => bd2 (f_X6_sign M29 59) (fun r31 M32 => gd (isB r31) ( some (r31, M32))))) else  some (0, M25)))))) else  some (0, M16)))))) else  some (0, M7)))))) else  some (0, M)))
def f_X6_readsMarks (M : SL) : Option (Int32 × SL) :=
  lt_ (M 0 9) (fun v1 => lt_ ((v1 + 1 : Int32)) (fun v2 => lt_ (up2 M 0 9 v2) (fun M3 => lt_ (M3 1 0) (fun v4 => lt_ ((v4 - 1 : Int32)) (fun v5 => bd2 (f_X6_number M3 0 v5) (fun r6 M7 => (if ¬ r6 = 0 then lt_ (M7 0 10) (fun v10 => bd (f_X6_of v10) (fun r11 => bd2 (f_X6_sign M7 44) (fun r13 M14 => (if r13 = 0 then  some (0, M14) else bd2 (f_X6_number M14 0 40) (fun r17 M18 => (if ¬ r17 = 0 then lt_ (M18 0 10) (fun v21 => bd2 (f_X6_sign M18 44) (fun r22 M23 => (if r22 = 0 then  some (0, M23) else bd2 (f_X6_number M23 v21 40) (fun r26 M27 => (if ¬ r26 = 0 then lt_ ((r11 + 2 : Int32)) (fun v30 => gd (chk v30 251) ( lt_ (up2 M27 1 v30.toNatClampNeg v21) (fun M32 => lt_ ((r11 + 3 : Int32)) (fun v33 => lt_ (M32 0 10) (fun v34 => gd (chk v33 251) ( lt_ (up2 M32 1 v33.toNatClampNeg v34) (fun M36 => bd2 (f_X6_sign M36 59) (fun r37 M38 => gd (isB r37) ( some (r37, M38)))))))))) else  some (0, M27)))))) else  some (0, M18))))))) else  some (0, M7))))))))
def f_X6_parse_b100 (K38 : SL → Int32 → Option (Int32 × SL)) (M : SL) (s0 : Int32) : Option (Int32 × SL) :=
   K38 M s0
def f_X6_parse_b99 (K38 : SL → Int32 → Option (Int32 × SL)) (M : SL) : Option (Int32 × SL) :=
   f_X6_parse_b100 K38 M 0
def f_X6_parse_b106 (K106 : SL → Int32 → Int32 → Option (Int32 × SL)) (M : SL) (x1 : Int32) (x2 : Int32) : Option (Int32 × SL) :=
   (if 251 ≤ x2 then  (if ¬ x1 = 0 then bd (f_X6_saves M) (fun M3 => bd (f_X6_takesBack M3) (fun M5 => lt_ (M5 1 0) (fun v7 => some (v7, M5)))) else lt_ (M 0 9) (fun v8 => lt_ (((-10) - v8 : Int32)) (fun v9 => some (v9, M)))) else gd (chk x2 251) ( lt_ (M 1 x2.toNatClampNeg) (fun v11 => lt_ (M 3 x2.toNatClampNeg) (fun v12 => lt_ (up2 M 1 x2.toNatClampNeg v12) (fun M13 => lt_ (up2 M13 3 x2.toNatClampNeg v11) (fun M14 => lt_ (x2 + 1) (fun z15 => K106 M14 x1 z15)))))))
def f_X6_parse_h106 : Nat → SL → Int32 → Int32 → Option (Int32 × SL)
  | 0, _, _, _ => none
  | n + 1, M, x1, x2 => f_X6_parse_b106  (f_X6_parse_h106  n) M x1 x2
def f_X6_parse_b104 (M : SL) (x1 : Int32) : Option (Int32 × SL) :=
   f_X6_parse_h106 fuel M x1 0
def f_X6_parse_b38 (K38 : SL → Int32 → Option (Int32 × SL)) (M : SL) (x1 : Int32) : Option (Int32 × SL) :=
   (if x1 = 0 then  f_X6_parse_b104 M x1 else lt_ (M 0 9) (fun v2 => lt_ (M 0 6) (fun v3 => (if v3 ≤ v2 then  f_X6_parse_b104 M x1 else lt_ (M 0 9) (fun v5 => gd (chk v5 120) ( lt_ (M 4 v5.toNatClampNeg) (fun v7 => (if ¬ v7 = 109 then lt_ (M 0 9) (fun v9 => gd (chk v9 120) ( lt_ (M 4 v9.toNatClampNeg) (fun v11 => (if ¬ v11 = 104 then  f_X6_parse_b99 K38 M else bd2 (f_X6_readsMarks M) (fun r13 M14 => (if r13 = 0 then  f_X6_parse_b99 K38 M14 else  f_X6_parse_b100 K38 M14 1)))))) else bd2 (f_X6_readsMachine M) (fun r17 M18 => f_X6_parse_b100 K38 M18 r17)))))))))
def f_X6_parse_h38 : Nat → SL → Int32 → Option (Int32 × SL)
  | 0, _, _ => none
  | n + 1, M, x1 => f_X6_parse_b38  (f_X6_parse_h38  n) M x1
def f_X6_parse_b11 (K11 : SL → Int32 → Option (Int32 × SL)) (M : SL) (x1 : Int32) : Option (Int32 × SL) :=
   (if 251 ≤ x1 then lt_ (up2 M 0 9 0) (fun M2 => f_X6_parse_h38 fuel M2 1) else gd (chk x1 251) ( lt_ (up2 M 1 x1.toNatClampNeg 0) (fun M4 => lt_ (x1 + 1) (fun z5 => K11 M4 z5))))
def f_X6_parse_h11 : Nat → SL → Int32 → Option (Int32 × SL)
  | 0, _, _ => none
  | n + 1, M, x1 => f_X6_parse_b11  (f_X6_parse_h11  n) M x1
def f_X6_parse (M : SL) : Option (Int32 × SL) :=
  lt_ (up2 M 0 4 0) (fun M1 => bd (f_X6_keeps M1) (fun M2 => f_X6_parse_h11 fuel M2 0))
def f_X6_mix (hs : Int64) (x1 : Int32) : Option (Int64) :=
  lt_ (hs) (fun w1 => lt_ ((31 * w1 : Int64)) (fun w2 => lt_ ((x1 : Int32).toInt64) (fun w3 => lt_ ((w2 + w3 : Int64)) (fun w4 => lt_ (w4) (fun hs5 => some hs5)))))
def f_X6_digest_b113 (K50 : SL → Int64 → Int32 → Option (Int64 × SL × Int64)) (K113 : SL → Int64 → Int32 → Int32 → Option (Int64 × SL × Int64)) (M : SL) (hs : Int64) (x1 : Int32) (x2 : Int32) : Option (Int64 × SL × Int64) :=
   (if 6 ≤ x2 then lt_ (x1 + 1) (fun z2 => K50 M hs z2) else bd (f_X6_of x1) (fun r3 => lt_ ((r3 + 9 : Int32)) (fun v5 => lt_ ((v5 + x2 : Int32)) (fun v6 => gd (chk v6 251) ( lt_ (M 1 v6.toNatClampNeg) (fun v8 => bd (f_X6_mix hs v8) (fun hs9 => lt_ (x2 + 1) (fun z11 => K113 M hs9 x1 z11))))))))
def f_X6_digest_h113 (K50 : SL → Int64 → Int32 → Option (Int64 × SL × Int64)) : Nat → SL → Int64 → Int32 → Int32 → Option (Int64 × SL × Int64)
  | 0, _, _, _, _ => none
  | n + 1, M, hs, x1, x2 => f_X6_digest_b113 K50 (f_X6_digest_h113 K50 n) M hs x1 x2
def f_X6_digest_b90 (K50 : SL → Int64 → Int32 → Option (Int64 × SL × Int64)) (K90 : SL → Int64 → Int32 → Int32 → Option (Int64 × SL × Int64)) (M : SL) (hs : Int64) (x1 : Int32) (x2 : Int32) : Option (Int64 × SL × Int64) :=
   (if 4 ≤ x2 then  f_X6_digest_h113 K50 fuel M hs x1 0 else bd (f_X6_tellMachine M x1 x2) (fun r2 => bd (f_X6_mix hs r2) (fun hs4 => lt_ (x2 + 1) (fun z6 => K90 M hs4 x1 z6))))
def f_X6_digest_h90 (K50 : SL → Int64 → Int32 → Option (Int64 × SL × Int64)) : Nat → SL → Int64 → Int32 → Int32 → Option (Int64 × SL × Int64)
  | 0, _, _, _, _ => none
  | n + 1, M, hs, x1, x2 => f_X6_digest_b90 K50 (f_X6_digest_h90 K50 n) M hs x1 x2
def f_X6_digest_b62 (K50 : SL → Int64 → Int32 → Option (Int64 × SL × Int64)) (K62 : SL → Int64 → Int32 → Int32 → Option (Int64 × SL × Int64)) (M : SL) (hs : Int64) (x1 : Int32) (x2 : Int32) : Option (Int64 × SL × Int64) :=
   (if 5 ≤ x2 then  f_X6_digest_h90 K50 fuel M hs x1 0 else bd (f_X6_of x1) (fun r2 => lt_ ((r2 + x2 : Int32)) (fun v4 => gd (chk v4 251) ( lt_ (M 1 v4.toNatClampNeg) (fun v6 => bd (f_X6_mix hs v6) (fun hs7 => lt_ (x2 + 1) (fun z9 => K62 M hs7 x1 z9)))))))
def f_X6_digest_h62 (K50 : SL → Int64 → Int32 → Option (Int64 × SL × Int64)) : Nat → SL → Int64 → Int32 → Int32 → Option (Int64 × SL × Int64)
  | 0, _, _, _, _ => none
  | n + 1, M, hs, x1, x2 => f_X6_digest_b62 K50 (f_X6_digest_h62 K50 n) M hs x1 x2
def f_X6_digest_b161 (K161 : SL → Int64 → Int32 → Option (Int64 × SL × Int64)) (M : SL) (hs : Int64) (x1 : Int32) : Option (Int64 × SL × Int64) :=
  lt_ (M 1 2) (fun v1 => lt_ ((3 * v1 : Int32)) (fun v2 => (if v2 ≤ x1 then bd (f_X6_bottles M) (fun r4 => bd (f_X6_mix hs r4) (fun hs6 => lt_ (M 0 3) (fun v8 => bd (f_X6_mix hs6 v8) (fun hs9 => lt_ (hs9) (fun w11 => some (w11, M, hs9)))))) else lt_ ((131 + x1 : Int32)) (fun v12 => gd (chk v12 251) ( lt_ (M 1 v12.toNatClampNeg) (fun v14 => bd (f_X6_mix hs v14) (fun hs15 => lt_ (x1 + 1) (fun z17 => K161 M hs15 z17))))))))
def f_X6_digest_h161 : Nat → SL → Int64 → Int32 → Option (Int64 × SL × Int64)
  | 0, _, _, _ => none
  | n + 1, M, hs, x1 => f_X6_digest_b161  (f_X6_digest_h161  n) M hs x1
def f_X6_digest_b50 (K50 : SL → Int64 → Int32 → Option (Int64 × SL × Int64)) (M : SL) (hs : Int64) (x1 : Int32) : Option (Int64 × SL × Int64) :=
  lt_ (M 1 0) (fun v1 => (if v1 ≤ x1 then lt_ (M 1 2) (fun v3 => bd (f_X6_mix hs v3) (fun hs4 => f_X6_digest_h161 fuel M hs4 0)) else  f_X6_digest_h62 K50 fuel M hs x1 0))
def f_X6_digest_h50 : Nat → SL → Int64 → Int32 → Option (Int64 × SL × Int64)
  | 0, _, _, _ => none
  | n + 1, M, hs, x1 => f_X6_digest_b50  (f_X6_digest_h50  n) M hs x1
def f_X6_digest (M : SL) (hs : Int64) : Option (Int64 × SL × Int64) :=
  lt_ (up2 M 0 4 0) (fun M1 => lt_ (3109) (fun hs2 => lt_ (M1 0 6) (fun v3 => bd (f_X6_mix hs2 v3) (fun hs4 => lt_ (M1 1 1) (fun v6 => bd (f_X6_mix hs4 v6) (fun hs7 => bd (f_X6_made M1) (fun r9 => bd (f_X6_mix hs7 r9) (fun hs11 => lt_ (M1 1 0) (fun v13 => bd (f_X6_mix hs11 v13) (fun hs14 => f_X6_digest_h50 fuel M1 hs14 0))))))))))

/-! functions of X5 -/
def f_X5_areCycles_b23 : Option (Int32) :=
   some (0 : Int32)
def f_X5_areCycles (x0 : Int32) (x1 : Int32) : Option (Int32) :=
  bd (f_X5_isIn x0 1 20) (fun r1 => (if r1 = 0 then  f_X5_areCycles_b23  else bd (f_X5_isIn x1 1 x0) (fun r4 => (if r4 = 0 then  f_X5_areCycles_b23  else  some (1 : Int32)))))
def f_X5_addMachine_b18 (Ls : Nat → SL) (Hs : SL) : Option (Sum (Int32 × (Nat → SL) × SL) Nat) :=
   some (Sum.inr 1)
def f_X5_addMachine_b50 (Ls : Nat → SL) (Hs : SL) : Option (Sum (Int32 × (Nat → SL) × SL) Nat) :=
   some (Sum.inr 2)
def f_X5_addMachine (Ls : Nat → SL) (Hs : SL) (x1 : Int32) (x2 : Int32) (x3 : Int32) : Option (Sum (Int32 × (Nat → SL) × SL) Nat) :=
  bd (f_X5_areCycles x1 x2) (fun r1 => (if r1 = 0 then  f_X5_addMachine_b18 Ls Hs else bd (f_X5_isIn x3 0 40) (fun r4 => (if ¬ r4 = 0 then lt_ ((Ls 0) 0 2) (fun v7 => (if 8 ≤ v7 then  f_X5_addMachine_b50 Ls Hs else lt_ ((Ls 0) 0 3) (fun v9 => (if v9 = 0 then bd2 (f_X1_keep 0 Ls Hs) (fun Ls11 Hs12 => bd2 (f_X2_join (Ls11 0) x1 x2 x3) (fun r14 L15 => lt_ (va_up Ls11 0 L15) (fun Ls17 => some (Sum.inl (r14, Ls17, Hs12))))) else  f_X5_addMachine_b50 Ls Hs)))) else  f_X5_addMachine_b18 Ls Hs))))
def f_X5_needMachine_b15 (Ls : Nat → SL) : Option (Sum (Unit) Nat) :=
   some (Sum.inr 3)
def f_X5_needMachine (Ls : Nat → SL) (x1 : Int32) : Option (Sum (Unit) Nat) :=
   (if x1 < 0 then  f_X5_needMachine_b15 Ls else lt_ ((Ls 0) 0 2) (fun v2 => (if x1 < v2 then  some (Sum.inl ()) else  f_X5_needMachine_b15 Ls)))
def f_X5_setMachine_b35 (Ls : Nat → SL) (Hs : SL) : Option (Sum (Int32 × (Nat → SL) × SL) Nat) :=
   some (Sum.inr 1)
def f_X5_setMachine (Ls : Nat → SL) (Hs : SL) (x1 : Int32) (x2 : Int32) (x3 : Int32) (x4 : Int32) (x5 : Int32) : Option (Sum (Int32 × (Nat → SL) × SL) Nat) :=
  bd (f_X5_needMachine Ls x1) (fun r1 => sx r1 (fun _ => bd (f_X5_areCycles x2 x3) (fun r3 => (if r3 = 0 then  f_X5_setMachine_b35 Ls Hs else bd (f_X5_isIn x5 0 40) (fun r6 => (if r6 = 0 then  f_X5_setMachine_b35 Ls Hs else bd (f_X5_isIn x4 0 x5) (fun r9 => (if ¬ r9 = 0 then bd2 (f_X1_keep 0 Ls Hs) (fun Ls12 Hs13 => gd (chk x1 8) ( lt_ (2 + x1.toNatClampNeg) (fun kq16 => lt_ ((Ls12 0) kq16 1) (fun v17 => lt_ (2 + x1.toNatClampNeg) (fun kq18 => lt_ (va_up Ls12 0 (up2 (Ls12 0) kq18 0 x2)) (fun Ls19 => lt_ (2 + x1.toNatClampNeg) (fun kq20 => lt_ (va_up Ls19 0 (up2 (Ls19 0) kq20 1 x3)) (fun Ls21 => bd (f_X2_mark (Ls21 0) x1 x4 x5) (fun L22 => lt_ (va_up Ls21 0 L22) (fun Ls24 => some (Sum.inl (v17, Ls24, Hs13)))))))))))) else  f_X5_setMachine_b35 Ls Hs))))))) (fun k => some (Sum.inr k)))
def f_X5_setCapacity (Ls : Nat → SL) (Hs : SL) (x1 : Int32) (x2 : Int32) : Option (Sum (Int32 × (Nat → SL) × SL) Nat) :=
  bd (f_X5_needMachine Ls x1) (fun r1 => sx r1 (fun _ => bd (f_X5_isIn x2 0 40) (fun r3 => (if ¬ r3 = 0 then bd2 (f_X1_keep 0 Ls Hs) (fun Ls6 Hs7 => gd (chk x1 8) ( lt_ (2 + x1.toNatClampNeg) (fun kq10 => lt_ ((Ls6 0) kq10 4) (fun v11 => lt_ (2 + x1.toNatClampNeg) (fun kq12 => lt_ (va_up Ls6 0 (up2 (Ls6 0) kq12 4 x2)) (fun Ls13 => some (Sum.inl (v11, Ls13, Hs7)))))))) else  some (Sum.inr 1)))) (fun k => some (Sum.inr k)))
def f_X5_addStop_b34 (Ls : Nat → SL) (Hs : SL) : Option (Sum (Int32 × (Nat → SL) × SL) Nat) :=
   some (Sum.inr 1)
def f_X5_addStop (Ls : Nat → SL) (Hs : SL) (x1 : Int32) (x2 : Int32) (x3 : Int32) : Option (Sum (Int32 × (Nat → SL) × SL) Nat) :=
  bd (f_X5_needMachine Ls x1) (fun r1 => sx r1 (fun _ => lt_ ((Ls 0) 0 3) (fun v3 => (if x2 ≤ v3 then  f_X5_addStop_b34 Ls Hs else  (if 10000 < x2 then  f_X5_addStop_b34 Ls Hs else bd (f_X5_isIn x3 1 200) (fun r6 => (if ¬ r6 = 0 then lt_ ((Ls 0) 10 3) (fun v9 => (if v9 < 40 then bd2 (f_X1_keep 0 Ls Hs) (fun Ls11 Hs12 => bd (f_X4_plan (Ls11 0) x1 x2 x3) (fun L14 => lt_ (va_up Ls11 0 L14) (fun Ls16 => lt_ ((Ls16 0) 10 3) (fun v17 => some (Sum.inl (v17, Ls16, Hs12)))))) else  some (Sum.inr 2))) else  f_X5_addStop_b34 Ls Hs)))))) (fun k => some (Sum.inr k)))
def f_X5_addRandomStops_b48 (Ls : Nat → SL) (Hs : SL) : Option (Sum (Int32 × (Nat → SL) × SL) Nat) :=
   some (Sum.inr 1)
def f_X5_addRandomStops_b195 (Ls : Nat → SL) (Hs : SL) : Option (Sum (Int32 × (Nat → SL) × SL) Nat) :=
  lt_ ((Ls 0) 10 3) (fun v1 => some (Sum.inl (v1, Ls, Hs)))
def f_X5_addRandomStops_b119 (K119 : (Nat → SL) → SL → Int32 → Int32 → Int32 → Int32 → Int32 → Int32 → Int64 → Option (Sum (Int32 × (Nat → SL) × SL) Nat)) (Ls : Nat → SL) (Hs : SL) (x1 : Int32) (x3 : Int32) (x4 : Int32) (x5 : Int32) (x7 : Int32) (x8 : Int32) (dw : Int64) : Option (Sum (Int32 × (Nat → SL) × SL) Nat) :=
   (if x5 ≤ x8 then  f_X5_addRandomStops_b195 Ls Hs else lt_ ((x7 + 1 : Int32)) (fun v2 => lt_ ((2 * x3 : Int32)) (fun v3 => bd2 (f_X0_drawBelow dw v3) (fun r4 w5 => lt_ ((v2 + r4 : Int32)) (fun v7 => lt_ ((2 * x4 : Int32)) (fun v8 => bd2 (f_X0_drawBelow w5 v8) (fun r9 w10 => lt_ ((1 + r9 : Int32)) (fun v12 => (if v7 ≤ 10000 then bd (f_X4_plan (Ls 0) x1 v7 v12) (fun L14 => lt_ (va_up Ls 0 L14) (fun Ls16 => lt_ ((v7 + v12 : Int32)) (fun v17 => lt_ ((v17 - 1 : Int32)) (fun v18 => lt_ (x8 + 1) (fun z19 => K119 Ls16 Hs x1 x3 x4 x5 v18 z19 w10))))) else  f_X5_addRandomStops_b195 Ls Hs)))))))))
def f_X5_addRandomStops_h119 : Nat → (Nat → SL) → SL → Int32 → Int32 → Int32 → Int32 → Int32 → Int32 → Int64 → Option (Sum (Int32 × (Nat → SL) × SL) Nat)
  | 0, _, _, _, _, _, _, _, _, _ => none
  | n + 1, Ls, Hs, x1, x3, x4, x5, x7, x8, dw => f_X5_addRandomStops_b119  (f_X5_addRandomStops_h119  n) Ls Hs x1 x3 x4 x5 x7 x8 dw
def f_X5_addRandomStops (Ls : Nat → SL) (Hs : SL) (x1 : Int32) (x2 : Int32) (x3 : Int32) (x4 : Int32) (x5 : Int32) : Option (Sum (Int32 × (Nat → SL) × SL) Nat) :=
  bd (f_X5_needMachine Ls x1) (fun r1 => sx r1 (fun _ => bd (f_X5_isIn x2 0 999999) (fun r3 => (if r3 = 0 then  f_X5_addRandomStops_b48 Ls Hs else bd (f_X5_isIn x3 1 500) (fun r6 => (if r6 = 0 then  f_X5_addRandomStops_b48 Ls Hs else bd (f_X5_isIn x4 1 100) (fun r9 => (if r9 = 0 then  f_X5_addRandomStops_b48 Ls Hs else bd (f_X5_isIn x5 1 40) (fun r12 => (if ¬ r12 = 0 then lt_ ((Ls 0) 10 3) (fun v15 => lt_ ((v15 + x5 : Int32)) (fun v16 => (if v16 ≤ 40 then bd2 (f_X1_keep 0 Ls Hs) (fun Ls18 Hs19 => lt_ ((x2 : Int32).toInt64) (fun w21 => lt_ ((Ls18 0) 0 3) (fun v22 => f_X5_addRandomStops_h119 fuel Ls18 Hs19 x1 x3 x4 x5 v22 0 w21))) else  some (Sum.inr 2)))) else  f_X5_addRandomStops_b48 Ls Hs))))))))) (fun k => some (Sum.inr k)))
def f_X5_clearStops (Ls : Nat → SL) (Hs : SL) : Option (Int32 × (Nat → SL) × SL) :=
  bd2 (f_X1_keep 0 Ls Hs) (fun Ls1 Hs2 => lt_ ((Ls1 0) 0 3) (fun v4 => bd2 (f_X4_dropAfter (Ls1 0) v4) (fun r5 L6 => lt_ (va_up Ls1 0 L6) (fun Ls8 => some (r5, Ls8, Hs2)))))
def f_X5_size (Ls : Nat → SL) (x1 : Int32) : Option (Int32) :=
   (if x1 = 0 then lt_ ((Ls 0) 0 2) (fun v2 => some v2) else lt_ ((Ls 0) 10 3) (fun v3 => some v3))
def f_X5_needWhat_b9 : Option (Sum (Unit) Nat) :=
   some (Sum.inr 1)
def f_X5_needWhat (x0 : Int32) (x1 : Int32) : Option (Sum (Unit) Nat) :=
   (if x0 < 0 then  f_X5_needWhat_b9  else  (if x0 < x1 then  some (Sum.inl ()) else  f_X5_needWhat_b9 ))
def f_X5_stop_b18 (Ls : Nat → SL) : Option (Sum (Int32) Nat) :=
   some (Sum.inr 3)
def f_X5_stop (Ls : Nat → SL) (x1 : Int32) (x2 : Int32) : Option (Sum (Int32) Nat) :=
   (if x1 < 0 then  f_X5_stop_b18 Ls else lt_ ((Ls 0) 10 3) (fun v2 => (if x1 < v2 then bd (f_X5_needWhat x2 3) (fun r4 => sx r4 (fun _ => bd (f_X4_value (Ls 0) x1 x2) (fun r6 => some (Sum.inl r6))) (fun k => some (Sum.inr k))) else  f_X5_stop_b18 Ls)))
def f_X5_needMachines (Ls : Nat → SL) (x1 : Int32) : Option (Sum (Unit) Nat) :=
  lt_ ((Ls 0) 0 2) (fun v1 => (if x1 ≤ v1 then  some (Sum.inl ()) else  some (Sum.inr 2)))
def f_X5_run (Ls : Nat → SL) (Hs : SL) (x1 : Int32) : Option (Sum (Int32 × (Nat → SL) × SL) Nat) :=
  bd (f_X5_isIn x1 0 2000) (fun r1 => (if ¬ r1 = 0 then bd (f_X5_needMachines Ls 1) (fun r4 => sx r4 (fun _ => lt_ ((Ls 0) 0 3) (fun v6 => lt_ ((v6 + x1 : Int32)) (fun v7 => (if v7 ≤ 10000 then bd2 (f_X1_keep 0 Ls Hs) (fun Ls9 Hs10 => bd (f_X2_bottlesOut (Ls9 0)) (fun r12 => bd (f_X2_pass (Ls9 0) x1) (fun L14 => lt_ (va_up Ls9 0 L14) (fun Ls16 => bd (f_X2_bottlesOut (Ls16 0)) (fun r17 => lt_ ((r17 - r12 : Int32)) (fun v19 => some (Sum.inl (v19, Ls16, Hs10)))))))) else  some (Sum.inr 2))))) (fun k => some (Sum.inr k))) else  some (Sum.inr 1)))
def f_X5_restart (Ls : Nat → SL) (Hs : SL) : Option (Int32 × (Nat → SL) × SL) :=
  bd2 (f_X1_keep 0 Ls Hs) (fun Ls1 Hs2 => lt_ ((Ls1 0) 0 3) (fun v4 => bd (f_X2_beginAnew (Ls1 0)) (fun L5 => lt_ (va_up Ls1 0 L5) (fun Ls7 => some (v4, Ls7, Hs2)))))
def f_X5_now (Ls : Nat → SL) : Option (Int32) :=
  lt_ ((Ls 0) 0 3) (fun v1 => some v1)
def f_X5_output (Ls : Nat → SL) : Option (Int32) :=
  bd (f_X2_bottlesOut (Ls 0)) (fun r1 => some r1)
def f_X5_setting (Ls : Nat → SL) (x1 : Int32) (x2 : Int32) : Option (Sum (Int32) Nat) :=
  bd (f_X5_needMachine Ls x1) (fun r1 => sx r1 (fun _ => bd (f_X5_needWhat x2 5) (fun r3 => sx r3 (fun _ => gd (chk x1 8) ( lt_ (2 + x1.toNatClampNeg) (fun kq6 => lt_ ((0 + x2 : Int32)) (fun v7 => gd (chk v7 16) ( lt_ ((Ls 0) kq6 v7.toNatClampNeg) (fun v9 => some (Sum.inl v9))))))) (fun k => some (Sum.inr k)))) (fun k => some (Sum.inr k)))
def f_X5_machine (Ls : Nat → SL) (x1 : Int32) (x2 : Int32) : Option (Sum (Int32) Nat) :=
  bd (f_X5_needMachine Ls x1) (fun r1 => sx r1 (fun _ => bd (f_X5_needWhat x2 4) (fun r3 => sx r3 (fun _ => gd (chk x1 8) ( lt_ (2 + x1.toNatClampNeg) (fun kq6 => lt_ ((5 + x2 : Int32)) (fun v7 => gd (chk v7 16) ( lt_ ((Ls 0) kq6 v7.toNatClampNeg) (fun v9 => some (Sum.inl v9))))))) (fun k => some (Sum.inr k)))) (fun k => some (Sum.inr k)))
def f_X5_count (Ls : Nat → SL) (x1 : Int32) (x2 : Int32) : Option (Sum (Int32) Nat) :=
  bd (f_X5_needMachine Ls x1) (fun r1 => sx r1 (fun _ => bd (f_X5_needWhat x2 6) (fun r3 => sx r3 (fun _ => gd (chk x1 8) ( lt_ (2 + x1.toNatClampNeg) (fun kq6 => lt_ ((9 + x2 : Int32)) (fun v7 => gd (chk v7 16) ( lt_ ((Ls 0) kq6 v7.toNatClampNeg) (fun v9 => some (Sum.inl v9))))))) (fun k => some (Sum.inr k)))) (fun k => some (Sum.inr k)))
def f_X5_meanFill (Ls : Nat → SL) (x1 : Int32) : Option (Sum (UInt64) Nat) :=
  bd (f_X5_needMachine Ls x1) (fun r1 => sx r1 (fun _ => lt_ ((Ls 0) 0 3) (fun v3 => (if ¬ v3 = 0 then gd (chk x1 8) ( lt_ (2 + x1.toNatClampNeg) (fun kq6 => lt_ ((Ls 0) kq6 15) (fun v7 => lt_ (FP.i2d v7) (fun dd8 => lt_ ((Ls 0) 0 3) (fun v9 => lt_ (FP.i2d v9) (fun dd10 => gd (dnn dd8 dd10) ( lt_ (FP.ddiv dd8 dd10) (fun dd12 => some (Sum.inl dd12))))))))) else  some (Sum.inl (0 : UInt64))))) (fun k => some (Sum.inr k)))
def f_X5_inside (Ls : Nat → SL) : Option (Int32) :=
  bd (f_X2_bottlesInside (Ls 0)) (fun r1 => some r1)
def f_X5_needHorizon (x0 : Int32) (x1 : Int32) : Option (Sum (Unit) Nat) :=
  bd (f_X5_isIn x0 1 x1) (fun r1 => (if ¬ r1 = 0 then  some (Sum.inl ()) else  some (Sum.inr 1)))
def f_X5_bound (Ls : Nat → SL) (x1 : Int32) : Option (Sum (Int32 × (Nat → SL)) Nat) :=
  bd (f_X5_needHorizon x1 10000) (fun r1 => sx r1 (fun _ => bd (f_X5_needMachines Ls 1) (fun r3 => sx r3 (fun _ => bd2 (f_X2_findSlowest (Ls 0) x1) (fun r5 L6 => lt_ (va_up Ls 0 L6) (fun Ls8 => bd2 (f_X2_mostBottles (Ls8 0) r5 x1) (fun r9 L10 => lt_ (va_up Ls8 0 L10) (fun Ls12 => some (Sum.inl (r9, Ls12))))))) (fun k => some (Sum.inr k)))) (fun k => some (Sum.inr k)))
def f_X5_limiting (Ls : Nat → SL) : Option (Sum (Int32) Nat) :=
  bd (f_X5_needMachines Ls 1) (fun r1 => sx r1 (fun _ => bd (f_X2_findLimiting (Ls 0)) (fun r3 => some (Sum.inl r3))) (fun k => some (Sum.inr k)))
def f_X5_slowest (Ls : Nat → SL) (x1 : Int32) : Option (Sum (Int32 × (Nat → SL)) Nat) :=
  bd (f_X5_needHorizon x1 10000) (fun r1 => sx r1 (fun _ => bd (f_X5_needMachines Ls 1) (fun r3 => sx r3 (fun _ => bd2 (f_X2_findSlowest (Ls 0) x1) (fun r5 L6 => lt_ (va_up Ls 0 L6) (fun Ls8 => some (Sum.inl (r5, Ls8))))) (fun k => some (Sum.inr k)))) (fun k => some (Sum.inr k)))
def f_X5_tryCapacity (Ls : Nat → SL) (x1 : Int32) (x2 : Int32) (x3 : Int32) : Option (Int32 × (Nat → SL)) :=
  bd (f_X2_copy 0 1 Ls) (fun Ls1 => bd (f_X2_beginAnew (Ls1 1)) (fun L3 => lt_ (va_up Ls1 1 L3) (fun Ls5 => gd (chk x1 8) ( lt_ (2 + x1.toNatClampNeg) (fun kq7 => lt_ (va_up Ls5 1 (up2 (Ls5 1) kq7 4 x2)) (fun Ls8 => bd (f_X2_pass (Ls8 1) x3) (fun L9 => lt_ (va_up Ls8 1 L9) (fun Ls11 => bd (f_X2_bottlesOut (Ls11 1)) (fun r12 => some (r12, Ls11))))))))))
def f_X5_outputWith (Ls : Nat → SL) (x1 : Int32) (x2 : Int32) (x3 : Int32) : Option (Sum (Int32 × (Nat → SL)) Nat) :=
  bd (f_X5_needMachine Ls x1) (fun r1 => sx r1 (fun _ => bd (f_X5_isIn x2 0 40) (fun r3 => (if ¬ r3 = 0 then bd (f_X5_needHorizon x3 2000) (fun r6 => sx r6 (fun _ => bd2 (f_X5_tryCapacity Ls x1 x2 x3) (fun r8 Ls9 => some (Sum.inl (r8, Ls9)))) (fun k => some (Sum.inr k))) else  some (Sum.inr 1)))) (fun k => some (Sum.inr k)))
def f_X5_capacityFor_b58 (K58 : (Nat → SL) → Int32 → Int32 → Int32 → Int32 → Option (Sum (Int32 × (Nat → SL)) Nat)) (Ls : Nat → SL) (x1 : Int32) (x2 : Int32) (x3 : Int32) (x4 : Int32) : Option (Sum (Int32 × (Nat → SL)) Nat) :=
   (if 40 < x4 then  some (Sum.inl ((-1), Ls)) else bd2 (f_X5_tryCapacity Ls x1 x4 x2) (fun r2 Ls3 => (if r2 < x3 then gd (chk x1 8) ( lt_ (2 + x1.toNatClampNeg) (fun kq7 => lt_ ((Ls3 1) kq7 14) (fun v8 => (if ¬ v8 = 0 then lt_ (x4 + 1) (fun z10 => K58 Ls3 x1 x2 x3 z10) else  some (Sum.inl ((-1), Ls3)))))) else  some (Sum.inl (x4, Ls3)))))
def f_X5_capacityFor_h58 : Nat → (Nat → SL) → Int32 → Int32 → Int32 → Int32 → Option (Sum (Int32 × (Nat → SL)) Nat)
  | 0, _, _, _, _, _ => none
  | n + 1, Ls, x1, x2, x3, x4 => f_X5_capacityFor_b58  (f_X5_capacityFor_h58  n) Ls x1 x2 x3 x4
def f_X5_capacityFor (Ls : Nat → SL) (x1 : Int32) (x2 : Int32) (x3 : Int32) : Option (Sum (Int32 × (Nat → SL)) Nat) :=
  bd (f_X5_needMachine Ls x1) (fun r1 => sx r1 (fun _ => bd (f_X5_needHorizon x2 2000) (fun r3 => sx r3 (fun _ => bd (f_X5_isIn x3 0 2000) (fun r5 => (if ¬ r5 = 0 then bd2 (f_X2_findSlowest (Ls 0) x2) (fun r8 L9 => lt_ (va_up Ls 0 L9) (fun Ls11 => bd2 (f_X2_mostBottles (Ls11 0) r8 x2) (fun r12 L13 => lt_ (va_up Ls11 0 L13) (fun Ls15 => (if x3 ≤ r12 then  f_X5_capacityFor_h58 fuel Ls15 x1 x2 x3 0 else  some (Sum.inl ((-1), Ls15))))))) else  some (Sum.inr 1)))) (fun k => some (Sum.inr k)))) (fun k => some (Sum.inr k)))
def f_X5_bestBuffer_b100 (K40 : (Nat → SL) → Int32 → Int32 → Int32 → Int32 → Int32 → Option (Sum (Int32 × (Nat → SL)) Nat)) (Ls : Nat → SL) (x1 : Int32) (x2 : Int32) (x3 : Int32) (x4 : Int32) (x5 : Int32) : Option (Sum (Int32 × (Nat → SL)) Nat) :=
  lt_ (x5 + 1) (fun z1 => K40 Ls x1 x2 x3 x4 z1)
def f_X5_bestBuffer_b40 (K40 : (Nat → SL) → Int32 → Int32 → Int32 → Int32 → Int32 → Option (Sum (Int32 × (Nat → SL)) Nat)) (Ls : Nat → SL) (x1 : Int32) (x2 : Int32) (x3 : Int32) (x4 : Int32) (x5 : Int32) : Option (Sum (Int32 × (Nat → SL)) Nat) :=
  lt_ ((Ls 0) 0 2) (fun v1 => lt_ ((v1 - 1 : Int32)) (fun v2 => (if v2 ≤ x5 then  some (Sum.inl (x3, Ls)) else gd (chk x5 8) ( lt_ (2 + x5.toNatClampNeg) (fun kq5 => lt_ ((Ls 0) kq5 4) (fun v6 => lt_ ((v6 + x2 : Int32)) (fun v7 => lt_ ((if 40 < v7 then 40 else v7 : Int32)) (fun v8 => bd2 (f_X5_tryCapacity Ls x5 v8 x1) (fun r9 Ls10 => (if r9 ≤ x4 then  f_X5_bestBuffer_b100 K40 Ls10 x1 x2 x3 x4 x5 else  f_X5_bestBuffer_b100 K40 Ls10 x1 x2 x5 r9 x5))))))))))
def f_X5_bestBuffer_h40 : Nat → (Nat → SL) → Int32 → Int32 → Int32 → Int32 → Int32 → Option (Sum (Int32 × (Nat → SL)) Nat)
  | 0, _, _, _, _, _, _ => none
  | n + 1, Ls, x1, x2, x3, x4, x5 => f_X5_bestBuffer_b40  (f_X5_bestBuffer_h40  n) Ls x1 x2 x3 x4 x5
def f_X5_bestBuffer (Ls : Nat → SL) (x1 : Int32) (x2 : Int32) : Option (Sum (Int32 × (Nat → SL)) Nat) :=
  bd (f_X5_needHorizon x1 2000) (fun r1 => sx r1 (fun _ => bd (f_X5_isIn x2 1 40) (fun r3 => (if ¬ r3 = 0 then bd (f_X5_needMachines Ls 2) (fun r6 => sx r6 (fun _ => f_X5_bestBuffer_h40 fuel Ls x1 x2 0 (-1) 0) (fun k => some (Sum.inr k))) else  some (Sum.inr 1)))) (fun k => some (Sum.inr k)))
def f_X5_append (T : SL) (x1 : Int32) : Option (Sum (Int32 × SL) Nat) :=
  bd (f_X5_isIn x1 0 127) (fun r1 => (if ¬ r1 = 0 then lt_ (T 0 1) (fun v4 => (if v4 < 120 then bd (f_X3_put T x1) (fun T6 => lt_ (T6 0 1) (fun v8 => some (Sum.inl (v8, T6)))) else  some (Sum.inr 2))) else  some (Sum.inr 1)))
def f_X5_clearText (T : SL) : Option (Int32 × SL) :=
  lt_ (T 0 1) (fun v1 => lt_ (up2 T 0 1 0) (fun T2 => some (v1, T2)))
def f_X5_parse (Ls : Nat → SL) (Hs : SL) (T : SL) : Option (Int32 × (Nat → SL) × SL × SL) :=
  bd3 (f_X3_readInto (Ls 1) T) (fun r1 L2 T3 => lt_ (va_up Ls 1 L2) (fun Ls5 => (if r1 = (-1) then bd2 (f_X1_keep 0 Ls5 Hs) (fun Ls7 Hs8 => bd (f_X2_copy 1 0 Ls7) (fun Ls10 => lt_ ((Ls10 0) 0 2) (fun v12 => some (v12, Ls10, Hs8, T3)))) else lt_ (((-10) - r1 : Int32)) (fun v13 => some (v13, Ls5, Hs, T3)))))
def f_X5_undo (Ls : Nat → SL) (Hs : SL) : Option (Sum (Int32 × (Nat → SL) × SL) Nat) :=
  lt_ (Hs 0 2) (fun v1 => (if ¬ v1 = 0 then bd2 (f_X1_giveBack 0 Ls Hs) (fun Ls3 Hs4 => lt_ (Hs4 0 2) (fun v6 => some (Sum.inl (v6, Ls3, Hs4)))) else  some (Sum.inr 2)))
def f_X5_digest (Ls : Nat → SL) (Hs : SL) (T : SL) : Option (Int64) :=
  lt_ ((31 * 3109 : Int64)) (fun w1 => lt_ (T 0 1) (fun v2 => lt_ ((v2 : Int32).toInt64) (fun w3 => lt_ ((w1 + w3 : Int64)) (fun w4 => bd (f_X2_mixInto (Ls 0) w4) (fun w5 => bd (f_X4_mixInto (Ls 0) w5) (fun w7 => lt_ ((31 * w7 : Int64)) (fun w9 => bd (f_X2_bottlesInside (Ls 0)) (fun r10 => lt_ ((r10 : Int32).toInt64) (fun w12 => lt_ ((w9 + w12 : Int64)) (fun w13 => lt_ ((31 * w13 : Int64)) (fun w14 => lt_ (Hs 0 2) (fun v15 => lt_ ((v15 : Int32).toInt64) (fun w16 => lt_ ((w14 + w16 : Int64)) (fun w17 => some w17))))))))))))))
