theorem nar_0 : narrow .boolean (.int 0) = .int 0 := rfl
theorem nar_1 : narrow .boolean (.int 1) = .int 1 := rfl
theorem if_n {α : Type} {c : Prop} [Decidable c] {a b r : α} (hc : c) (h : (if ¬ c then a else b) = r) : b = r := by
  rw [if_neg (fun q => q hc)] at h
  exact h
def dnn (x y : UInt64) : Bool := decide (FP.ddiv x y &&& 0x7fffffffffffffff ≤ 0x7ff0000000000000)
theorem dnn_out {x y : UInt64} (h : dnn x y = true) : vf_n64 (FP.ddiv x y) := by
  unfold dnn at h
  unfold vf_n64
  exact of_decide_eq_true h
def f_X0_drawBelow (x : Int64) (x1 : Int32) : Option (Int32 × Int64) :=
  lt_ ((1103515245 * x : Int64)) (fun w1 => lt_ ((w1 + 12345 : Int64)) (fun w2 => lt_ ((w2 - w2 / 2147483648 * 2147483648 : Int64)) (fun w3 => (if 1 ≤ x1 then lt_ ((w3 / 65536 : Int64)) (fun w4 => lt_ (x1.toInt64) (fun w5 => gd (nzl w5) (lt_ ((w4 - w4 / w5 * w5 : Int64)) (fun w6 => lt_ (w6.toInt32) (fun v7 => some (v7, w3)))))) else some (0, w3)))))
/-! functions of X4 -/
def f_X4_copy (i : Nat) (j : Nat) (Ls : Nat → SL) : Option ((Nat → SL)) :=
  lt_ ((Ls i) 10 3) (fun v1 => gd (cpo v1 40 40) ( lt_ (va_up Ls j (va_up (Ls j) 11 (va_cpy (Ls i 11) (Ls j 11) 0 0 v1.toNatClampNeg))) (fun Ls3 => gd (cpo v1 40 40) ( lt_ (va_up Ls3 j (va_up (Ls3 j) 12 (va_cpy (Ls3 i 12) (Ls3 j 12) 0 0 v1.toNatClampNeg))) (fun Ls5 => gd (cpo v1 40 40) ( lt_ (va_up Ls5 j (va_up (Ls5 j) 13 (va_cpy (Ls5 i 13) (Ls5 j 13) 0 0 v1.toNatClampNeg))) (fun Ls7 => lt_ (va_up Ls7 j (up2 (Ls7 j) 10 3 v1)) (fun Ls8 => some Ls8))))))))
def f_X4_plan (L : SL) (x1 : Int32) (x2 : Int32) (x3 : Int32) : Option (SL) :=
  lt_ (L 10 3) (fun v1 => (if 40 ≤ v1 then  some L else lt_ (L 10 3) (fun v3 => gd (chk v3 40) ( lt_ (up2 L 11 v3.toNatClampNeg x1) (fun L5 => lt_ (L5 10 3) (fun v6 => gd (chk v6 40) ( lt_ (up2 L5 12 v6.toNatClampNeg x2) (fun L8 => lt_ (L8 10 3) (fun v9 => gd (chk v9 40) ( lt_ (up2 L8 13 v9.toNatClampNeg x3) (fun L11 => lt_ (L11 10 3) (fun v12 => lt_ ((v12 + 1 : Int32)) (fun v13 => lt_ (up2 L11 10 3 v13) (fun L14 => some L14))))))))))))))
def f_X4_dropAfter_b49 (K12 : SL → Int32 → Int32 → Int32 → Option (Int32 × SL)) (L : SL) (x1 : Int32) (x2 : Int32) (x3 : Int32) : Option (Int32 × SL) :=
  lt_ (x3 + 1) (fun z1 => K12 L x1 x2 z1)
def f_X4_dropAfter_b12 (K12 : SL → Int32 → Int32 → Int32 → Option (Int32 × SL)) (L : SL) (x1 : Int32) (x2 : Int32) (x3 : Int32) : Option (Int32 × SL) :=
   (if x2 ≤ x3 then lt_ (L 10 3) (fun v2 => lt_ ((x2 - v2 : Int32)) (fun v3 => some (v3, L))) else gd (chk x3 40) ( lt_ (L 12 x3.toNatClampNeg) (fun v5 => (if x1 < v5 then  f_X4_dropAfter_b49 K12 L x1 x2 x3 else lt_ (L 11 x3.toNatClampNeg) (fun v7 => lt_ (L 12 x3.toNatClampNeg) (fun v8 => lt_ (L 13 x3.toNatClampNeg) (fun v9 => bd (f_X4_plan L v7 v8 v9) (fun L10 => f_X4_dropAfter_b49 K12 L10 x1 x2 x3))))))))
def f_X4_dropAfter_h12 : Nat → SL → Int32 → Int32 → Int32 → Option (Int32 × SL)
  | 0, _, _, _, _ => none
  | n + 1, L, x1, x2, x3 => f_X4_dropAfter_b12  (f_X4_dropAfter_h12  n) L x1 x2 x3
def f_X4_dropAfter (L : SL) (x1 : Int32) : Option (Int32 × SL) :=
  lt_ (L 10 3) (fun v1 => lt_ (up2 L 10 3 0) (fun L2 => f_X4_dropAfter_h12 fuel L2 x1 v1 0))
def f_X4_value (L : SL) (x1 : Int32) (x2 : Int32) : Option (Int32) :=
   (if ¬ x2 = 0 then  (if ¬ x2 = 1 then gd (chk x1 40) ( lt_ (L 13 x1.toNatClampNeg) (fun v4 => some v4)) else gd (chk x1 40) ( lt_ (L 12 x1.toNatClampNeg) (fun v6 => some v6))) else gd (chk x1 40) ( lt_ (L 11 x1.toNatClampNeg) (fun v8 => some v8)))
def f_X4_lookAt_b83 (K10 : SL → Int32 → Int32 → Int32 → Option (Int32 × SL)) (L : SL) (x1 : Int32) (x2 : Int32) (x3 : Int32) : Option (Int32 × SL) :=
  lt_ (x3 + 1) (fun z1 => K10 L x1 x2 z1)
def f_X4_lookAt_b10 (K10 : SL → Int32 → Int32 → Int32 → Option (Int32 × SL)) (L : SL) (x1 : Int32) (x2 : Int32) (x3 : Int32) : Option (Int32 × SL) :=
  lt_ (L 10 3) (fun v1 => (if v1 ≤ x3 then  some (x2, L) else gd (chk x3 40) ( lt_ (L 12 x3.toNatClampNeg) (fun v4 => lt_ (L 13 x3.toNatClampNeg) (fun v5 => lt_ ((v4 + v5 : Int32)) (fun v6 => (if v4 ≤ x1 then  (if v6 ≤ x1 then  f_X4_lookAt_b83 K10 L x1 x2 x3 else lt_ (L 10 4) (fun v9 => lt_ (L 11 x3.toNatClampNeg) (fun v10 => lt_ ((1 <<< (v10 &&& 31) : Int32)) (fun v11 => lt_ ((v9 ||| v11 : Int32)) (fun v12 => lt_ (up2 L 10 4 v12) (fun L13 => lt_ ((if v6 < x2 then v6 else x2 : Int32)) (fun v14 => f_X4_lookAt_b83 K10 L13 x1 v14 x3))))))) else lt_ ((if v4 < x2 then v4 else x2 : Int32)) (fun v15 => f_X4_lookAt_b83 K10 L x1 v15 x3))))))))
def f_X4_lookAt_h10 : Nat → SL → Int32 → Int32 → Int32 → Option (Int32 × SL)
  | 0, _, _, _, _ => none
  | n + 1, L, x1, x2, x3 => f_X4_lookAt_b10  (f_X4_lookAt_h10  n) L x1 x2 x3
def f_X4_lookAt (L : SL) (x1 : Int32) : Option (Int32 × SL) :=
  lt_ (up2 L 10 4 0) (fun L1 => f_X4_lookAt_h10 fuel L1 x1 1000000 0)
def f_X4_isDown (L : SL) (x1 : Int32) : Option (Int32) :=
  lt_ (L 10 4) (fun v1 => lt_ ((v1 >>> (x1 &&& 31) : Int32)) (fun v2 => lt_ ((v2 &&& 1 : Int32)) (fun v3 => (if ¬ v3 = 1 then  some (0 : Int32) else  some (1 : Int32)))))

/-! functions of X2 -/
def f_X2_copy_b11 (i : Nat) (j : Nat) (K11 : (Nat → SL) → Int32 → Option ((Nat → SL))) (Ls : Nat → SL) (x2 : Int32) : Option ((Nat → SL)) :=
  lt_ ((Ls i) 0 2) (fun v1 => (if v1 ≤ x2 then bd (f_X4_copy i j Ls) (fun Ls3 => lt_ ((Ls3 i) 0 2) (fun v5 => lt_ (va_up Ls3 j (up2 (Ls3 j) 0 2 v5)) (fun Ls6 => lt_ ((Ls6 i) 0 3) (fun v7 => lt_ (va_up Ls6 j (up2 (Ls6 j) 0 3 v7)) (fun Ls8 => some Ls8))))) else gd (chk x2 8) ( lt_ (2 + x2.toNatClampNeg) (fun kq10 => lt_ (2 + x2.toNatClampNeg) (fun kq11 => lt_ (va_up Ls j (va_up (Ls j) kq11 (va_cpy (Ls i kq10) (Ls j kq11) 0 0 16))) (fun Ls12 => lt_ (x2 + 1) (fun z13 => K11 Ls12 z13)))))))
def f_X2_copy_h11 (i : Nat) (j : Nat) : Nat → (Nat → SL) → Int32 → Option ((Nat → SL))
  | 0, _, _ => none
  | n + 1, Ls, x2 => f_X2_copy_b11 i j (f_X2_copy_h11 i j n) Ls x2
def f_X2_copy (i : Nat) (j : Nat) (Ls : Nat → SL) : Option ((Nat → SL)) :=
   f_X2_copy_h11 i j fuel Ls 0
def f_X2_empty_b2 (K2 : SL → Nat → Int32 → Option (SL)) (L : SL) (k0 : Nat) (x1 : Int32) : Option (SL) :=
   (if 16 ≤ x1 then lt_ (up2 L k0 6 (-1)) (fun L2 => lt_ (up2 L2 k0 7 1) (fun L3 => some L3)) else gd (chk x1 16) ( lt_ (up2 L k0 x1.toNatClampNeg 0) (fun L5 => lt_ (x1 + 1) (fun z6 => K2 L5 k0 z6))))
def f_X2_empty_h2 : Nat → SL → Nat → Int32 → Option (SL)
  | 0, _, _, _ => none
  | n + 1, L, k0, x1 => f_X2_empty_b2  (f_X2_empty_h2  n) L k0 x1
def f_X2_empty (k0 : Nat) (L : SL) : Option (SL) :=
   f_X2_empty_h2 fuel L k0 5
def f_X2_join (L : SL) (x1 : Int32) (x2 : Int32) (x3 : Int32) : Option (Int32 × SL) :=
  lt_ (L 0 2) (fun v1 => (if v1 < 8 then lt_ (L 0 2) (fun v3 => gd (chk v3 8) ( lt_ (2 + v3.toNatClampNeg) (fun kq5 => lt_ (up2 L kq5 0 x1) (fun L6 => lt_ (up2 L6 kq5 1 x2) (fun L7 => lt_ (up2 L7 kq5 2 0) (fun L8 => lt_ (up2 L8 kq5 3 40) (fun L9 => lt_ (up2 L9 kq5 4 x3) (fun L10 => bd (f_X2_empty kq5 L10) (fun L11 => lt_ (L11 0 2) (fun v13 => lt_ ((v13 + 1 : Int32)) (fun v14 => lt_ (up2 L11 0 2 v14) (fun L15 => lt_ (L15 0 2) (fun v16 => lt_ ((v16 - 1 : Int32)) (fun v17 => some (v17, L15))))))))))))))) else  some ((-1), L)))
def f_X2_mark (L : SL) (x1 : Int32) (x2 : Int32) (x3 : Int32) : Option (SL) :=
   (if x1 < 0 then  some L else lt_ (L 0 2) (fun v2 => (if v2 ≤ x1 then  some L else gd (chk x1 8) ( lt_ (2 + x1.toNatClampNeg) (fun kq5 => lt_ (up2 L kq5 2 x2) (fun L6 => lt_ (2 + x1.toNatClampNeg) (fun kq7 => lt_ (up2 L6 kq7 3 x3) (fun L8 => some L8))))))))
def f_X2_beginAnew_b7 (K7 : SL → Int32 → Option (SL)) (L : SL) (x1 : Int32) : Option (SL) :=
  lt_ (L 0 2) (fun v1 => (if v1 ≤ x1 then  some L else gd (chk x1 8) ( lt_ (2 + x1.toNatClampNeg) (fun kq4 => bd (f_X2_empty kq4 L) (fun L5 => lt_ (x1 + 1) (fun z7 => K7 L5 z7))))))
def f_X2_beginAnew_h7 : Nat → SL → Int32 → Option (SL)
  | 0, _, _ => none
  | n + 1, L, x1 => f_X2_beginAnew_b7  (f_X2_beginAnew_h7  n) L x1
def f_X2_beginAnew (L : SL) : Option (SL) :=
  lt_ (up2 L 0 3 0) (fun L1 => f_X2_beginAnew_h7 fuel L1 0)
def f_X2_countFills_b46 (K2 : SL → Int32 → Option (SL)) (L : SL) (x1 : Int32) : Option (SL) :=
  lt_ (x1 + 1) (fun z1 => K2 L z1)
def f_X2_countFills_b2 (K2 : SL → Int32 → Option (SL)) (L : SL) (x1 : Int32) : Option (SL) :=
  lt_ (L 0 2) (fun v1 => lt_ ((v1 - 1 : Int32)) (fun v2 => (if v2 ≤ x1 then  some L else gd (chk x1 8) ( lt_ (2 + x1.toNatClampNeg) (fun kq5 => lt_ (L kq5 15) (fun v6 => lt_ (L kq5 5) (fun v7 => lt_ ((v6 + v7 : Int32)) (fun v8 => lt_ (up2 L kq5 15 v8) (fun L9 => lt_ (L9 kq5 5) (fun v10 => lt_ (L9 kq5 4) (fun v11 => (if v10 < v11 then  f_X2_countFills_b46 K2 L9 x1 else lt_ (L9 kq5 14) (fun v13 => lt_ ((v13 + 1 : Int32)) (fun v14 => lt_ (up2 L9 kq5 14 v14) (fun L15 => f_X2_countFills_b46 K2 L15 x1)))))))))))))))
def f_X2_countFills_h2 : Nat → SL → Int32 → Option (SL)
  | 0, _, _ => none
  | n + 1, L, x1 => f_X2_countFills_b2  (f_X2_countFills_h2  n) L x1
def f_X2_countFills (L : SL) : Option (SL) :=
   f_X2_countFills_h2 fuel L 0
def f_X2_chooseSpeed_b26 (L : SL) (k2 : Nat) : Option (SL) :=
  lt_ (up2 L k2 7 1) (fun L1 => some L1)
def f_X2_chooseSpeed (L : SL) (x1 : Int32) : Option (SL) :=
  gd (chk x1 8) ( lt_ (2 + x1.toNatClampNeg) (fun kq2 => lt_ (L 0 2) (fun v3 => lt_ ((v3 - 1 : Int32)) (fun v4 => (if x1 = v4 then  f_X2_chooseSpeed_b26 L kq2 else lt_ (L kq2 5) (fun v6 => lt_ (L kq2 2) (fun v7 => (if v7 < v6 then lt_ (L kq2 5) (fun v9 => lt_ (L kq2 3) (fun v10 => (if v9 < v10 then  some L else lt_ (up2 L kq2 7 0) (fun L12 => some L12)))) else  f_X2_chooseSpeed_b26 L kq2))))))))
def f_X2_noteTurn (k0 : Nat) (L : SL) (x1 : Int32) : Option (SL) :=
  lt_ (up2 L k0 8 x1) (fun L1 => lt_ ((9 + x1 : Int32)) (fun v2 => lt_ ((v2 - 1 : Int32)) (fun v3 => gd (chk v3 16) ( lt_ (L1 k0 v3.toNatClampNeg) (fun v5 => lt_ ((v5 + 1 : Int32)) (fun v6 => lt_ (up2 L1 k0 v3.toNatClampNeg v6) (fun L7 => some L7)))))))
def f_X2_presentCycle (k0 : Nat) (L : SL) : Option (Int32) :=
  lt_ (L k0 7) (fun v1 => (if ¬ v1 = 1 then lt_ (L k0 0) (fun v3 => some v3) else lt_ (L k0 1) (fun v4 => some v4)))
def f_X2_release_b84 (L : SL) (k2 : Nat) : Option (SL) :=
  lt_ (up2 L k2 6 (-1)) (fun L1 => lt_ (L1 k2 13) (fun v2 => lt_ ((v2 + 1 : Int32)) (fun v3 => lt_ (up2 L1 k2 13 v3) (fun L4 => some L4))))
def f_X2_release_b64 (L : SL) (k2 : Nat) : Option (SL) :=
  lt_ (L k2 5) (fun v1 => lt_ (L k2 4) (fun v2 => (if v2 ≤ v1 then  some L else lt_ (L k2 5) (fun v4 => lt_ ((v4 + 1 : Int32)) (fun v5 => lt_ (up2 L k2 5 v5) (fun L6 => f_X2_release_b84 L6 k2))))))
def f_X2_release (L : SL) (x1 : Int32) : Option (SL) :=
  gd (chk x1 8) ( lt_ (2 + x1.toNatClampNeg) (fun kq2 => lt_ (L 0 2) (fun v3 => lt_ ((v3 - 1 : Int32)) (fun v4 => (if v4 ≤ x1 then  f_X2_release_b84 L kq2 else lt_ ((x1 + 1 : Int32)) (fun v6 => gd (chk v6 8) ( lt_ (2 + v6.toNatClampNeg) (fun kq8 => lt_ (L kq2 5) (fun v9 => (if ¬ v9 = 0 then  f_X2_release_b64 L kq2 else lt_ (L kq8 6) (fun v11 => (if ¬ v11 = (-1) then  f_X2_release_b64 L kq2 else lt_ ((x1 + 1 : Int32)) (fun v13 => bd (f_X4_isDown L v13) (fun r14 => (if ¬ r14 = 0 then  f_X2_release_b64 L kq2 else bd (f_X2_presentCycle kq8 L) (fun r17 => lt_ (up2 L kq8 6 r17) (fun L19 => f_X2_release_b84 L19 kq2)))))))))))))))))
def f_X2_takeBottle_b34 (L : SL) (k2 : Nat) : Option (SL) :=
  bd (f_X2_presentCycle k2 L) (fun r1 => lt_ (up2 L k2 6 r1) (fun L3 => some L3))
def f_X2_takeBottle (L : SL) (x1 : Int32) : Option (SL) :=
  gd (chk x1 8) ( lt_ (2 + x1.toNatClampNeg) (fun kq2 => (if x1 ≤ 0 then  f_X2_takeBottle_b34 L kq2 else lt_ ((x1 - 1 : Int32)) (fun v4 => gd (chk v4 8) ( lt_ (2 + v4.toNatClampNeg) (fun kq6 => lt_ (L kq6 5) (fun v7 => (if ¬ v7 = 0 then lt_ (L kq6 5) (fun v9 => lt_ ((v9 - 1 : Int32)) (fun v10 => lt_ (up2 L kq6 5 v10) (fun L11 => f_X2_takeBottle_b34 L11 kq2))) else  some L))))))))
def f_X2_takeTurn_b102 (L : SL) (kk0 : Nat) (s1 : Int32) : Option (SL) :=
  bd (f_X2_noteTurn kk0 L s1) (fun L1 => some L1)
def f_X2_takeTurn_b54 (L : SL) (x1 : Int32) (k2 : Nat) : Option (SL) :=
  lt_ (L k2 6) (fun v1 => (if v1 ≤ 0 then lt_ (L k2 6) (fun v3 => (if ¬ v3 = 0 then  f_X2_takeTurn_b102 L k2 2 else  f_X2_takeTurn_b102 L k2 3)) else lt_ (L k2 6) (fun v5 => lt_ ((v5 - 1 : Int32)) (fun v6 => lt_ (up2 L k2 6 v6) (fun L7 => bd (f_X2_noteTurn k2 L7 1) (fun L8 => lt_ (L8 k2 6) (fun v10 => (if ¬ v10 = 0 then  some L8 else bd (f_X2_release L8 x1) (fun L12 => some L12)))))))))
def f_X2_takeTurn_b41 (L : SL) (x1 : Int32) (k2 : Nat) : Option (SL) :=
  lt_ (L k2 6) (fun v1 => (if ¬ v1 = (-1) then  f_X2_takeTurn_b54 L x1 k2 else bd (f_X2_takeBottle L x1) (fun L3 => f_X2_takeTurn_b54 L3 x1 k2)))
def f_X2_takeTurn (L : SL) (x1 : Int32) : Option (SL) :=
  gd (chk x1 8) ( lt_ (2 + x1.toNatClampNeg) (fun kq2 => bd (f_X2_chooseSpeed L x1) (fun L3 => bd (f_X4_isDown L3 x1) (fun r5 => (if r5 = 0 then lt_ (L3 kq2 6) (fun v8 => (if ¬ v8 = 0 then  f_X2_takeTurn_b41 L3 x1 kq2 else bd (f_X2_release L3 x1) (fun L10 => f_X2_takeTurn_b41 L10 x1 kq2))) else bd (f_X2_noteTurn kq2 L3 4) (fun L12 => some L12))))))
def f_X2_pass_b52 (K9 : SL → Int32 → Int32 → Int32 → Option (SL)) (K52 : SL → Int32 → Int32 → Int32 → Int32 → Option (SL)) (L : SL) (x1 : Int32) (x2 : Int32) (x3 : Int32) (x4 : Int32) : Option (SL) :=
   (if x4 < 0 then bd (f_X2_countFills L) (fun L2 => lt_ (x3 + 1) (fun z4 => K9 L2 x1 x2 z4)) else bd (f_X2_takeTurn L x4) (fun L5 => lt_ (x4 + (-1)) (fun z7 => K52 L5 x1 x2 x3 z7)))
def f_X2_pass_h52 (K9 : SL → Int32 → Int32 → Int32 → Option (SL)) : Nat → SL → Int32 → Int32 → Int32 → Int32 → Option (SL)
  | 0, _, _, _, _, _ => none
  | n + 1, L, x1, x2, x3, x4 => f_X2_pass_b52 K9 (f_X2_pass_h52 K9 n) L x1 x2 x3 x4
def f_X2_pass_b44 (K9 : SL → Int32 → Int32 → Int32 → Option (SL)) (L : SL) (x1 : Int32) (x2 : Int32) (x3 : Int32) : Option (SL) :=
  lt_ (L 0 2) (fun v1 => lt_ ((v1 - 1 : Int32)) (fun v2 => f_X2_pass_h52 K9 fuel L x1 x2 x3 v2))
def f_X2_pass_b9 (K9 : SL → Int32 → Int32 → Int32 → Option (SL)) (L : SL) (x1 : Int32) (x2 : Int32) (x3 : Int32) : Option (SL) :=
   (if x1 ≤ x3 then  some L else lt_ (L 0 3) (fun v2 => lt_ ((v2 + 1 : Int32)) (fun v3 => lt_ (up2 L 0 3 v3) (fun L4 => lt_ (L4 0 3) (fun v5 => (if v5 < x2 then  f_X2_pass_b44 K9 L4 x1 x2 x3 else lt_ (L4 0 3) (fun v7 => bd2 (f_X4_lookAt L4 v7) (fun r8 L9 => f_X2_pass_b44 K9 L9 x1 r8 x3))))))))
def f_X2_pass_h9 : Nat → SL → Int32 → Int32 → Int32 → Option (SL)
  | 0, _, _, _, _ => none
  | n + 1, L, x1, x2, x3 => f_X2_pass_b9  (f_X2_pass_h9  n) L x1 x2 x3
def f_X2_pass (L : SL) (x1 : Int32) : Option (SL) :=
  lt_ (L 0 3) (fun v1 => lt_ ((v1 + 1 : Int32)) (fun v2 => f_X2_pass_h9 fuel L x1 v2 0))
def f_X2_bottlesOut (L : SL) : Option (Int32) :=
  lt_ (L 0 2) (fun v1 => (if ¬ v1 = 0 then lt_ (L 0 2) (fun v3 => lt_ ((v3 - 1 : Int32)) (fun v4 => gd (chk v4 8) ( lt_ (2 + v4.toNatClampNeg) (fun kq6 => lt_ (L kq6 13) (fun v7 => some v7))))) else  some (0 : Int32)))
def f_X2_bottlesInside_b39 (K4 : SL → Int32 → Int32 → Option (Int32)) (L : SL) (x2 : Int32) (s0 : Int32) (s1 : Int32) (s2 : Int32) : Option (Int32) :=
  lt_ ((s1 + s2 : Int32)) (fun v1 => lt_ ((s0 + v1 : Int32)) (fun v2 => lt_ (x2 + 1) (fun z3 => K4 L v2 z3)))
def f_X2_bottlesInside_b4 (K4 : SL → Int32 → Int32 → Option (Int32)) (L : SL) (x1 : Int32) (x2 : Int32) : Option (Int32) :=
  lt_ (L 0 2) (fun v1 => (if v1 ≤ x2 then  some x1 else gd (chk x2 8) ( lt_ (2 + x2.toNatClampNeg) (fun kq4 => lt_ (L kq4 5) (fun v5 => lt_ (2 + x2.toNatClampNeg) (fun kq6 => lt_ (L kq6 6) (fun v7 => (if ¬ v7 = (-1) then  f_X2_bottlesInside_b39 K4 L x2 x1 v5 1 else  f_X2_bottlesInside_b39 K4 L x2 x1 v5 0))))))))
def f_X2_bottlesInside_h4 : Nat → SL → Int32 → Int32 → Option (Int32)
  | 0, _, _, _ => none
  | n + 1, L, x1, x2 => f_X2_bottlesInside_b4  (f_X2_bottlesInside_h4  n) L x1 x2
def f_X2_bottlesInside (L : SL) : Option (Int32) :=
   f_X2_bottlesInside_h4 fuel L 0 0
def f_X2_findLimiting_b47 (K7 : SL → Int32 → Int32 → Int32 → Option (Int32)) (L : SL) (x1 : Int32) (x2 : Int32) (x3 : Int32) : Option (Int32) :=
  lt_ (x3 + 1) (fun z1 => K7 L x1 x2 z1)
def f_X2_findLimiting_b7 (K7 : SL → Int32 → Int32 → Int32 → Option (Int32)) (L : SL) (x1 : Int32) (x2 : Int32) (x3 : Int32) : Option (Int32) :=
  lt_ (L 0 2) (fun v1 => (if v1 ≤ x3 then  some x1 else gd (chk x3 8) ( lt_ (2 + x3.toNatClampNeg) (fun kq4 => lt_ (L kq4 10) (fun v5 => lt_ (2 + x3.toNatClampNeg) (fun kq6 => lt_ (L kq6 11) (fun v7 => lt_ ((v5 + v7 : Int32)) (fun v8 => (if x2 ≤ v8 then  f_X2_findLimiting_b47 K7 L x1 x2 x3 else  f_X2_findLimiting_b47 K7 L x3 v8 x3)))))))))
def f_X2_findLimiting_h7 : Nat → SL → Int32 → Int32 → Int32 → Option (Int32)
  | 0, _, _, _, _ => none
  | n + 1, L, x1, x2, x3 => f_X2_findLimiting_b7  (f_X2_findLimiting_h7  n) L x1 x2 x3
def f_X2_findLimiting (L : SL) : Option (Int32) :=
   f_X2_findLimiting_h7 fuel L 0 1000000 0
def f_X2_upTicks_b57 (K8 : SL → Int32 → Int32 → Int32 → Int32 → Int32 → Option (Int32 × SL)) (L : SL) (x1 : Int32) (x2 : Int32) (x3 : Int32) (x5 : Int32) (x6 : Int32) : Option (Int32 × SL) :=
  lt_ (x5 + 1) (fun z1 => K8 L x1 x2 x3 x6 z1)
def f_X2_upTicks_b8 (K8 : SL → Int32 → Int32 → Int32 → Int32 → Int32 → Option (Int32 × SL)) (L : SL) (x1 : Int32) (x2 : Int32) (x3 : Int32) (x4 : Int32) (x5 : Int32) : Option (Int32 × SL) :=
   (if 80 < x5 then  some (x3, L) else  (if x2 < x4 then  some (x3, L) else bd2 (f_X4_lookAt L x4) (fun r3 L4 => lt_ ((x2 + 1 : Int32)) (fun v6 => lt_ ((if v6 < r3 then v6 else r3 : Int32)) (fun v7 => bd (f_X4_isDown L4 x1) (fun r8 => (if ¬ r8 = 0 then  f_X2_upTicks_b57 K8 L4 x1 x2 x3 x5 v7 else lt_ ((v7 - x4 : Int32)) (fun v11 => lt_ ((x3 + v11 : Int32)) (fun v12 => f_X2_upTicks_b57 K8 L4 x1 x2 v12 x5 v7)))))))))
def f_X2_upTicks_h8 : Nat → SL → Int32 → Int32 → Int32 → Int32 → Int32 → Option (Int32 × SL)
  | 0, _, _, _, _, _, _ => none
  | n + 1, L, x1, x2, x3, x4, x5 => f_X2_upTicks_b8  (f_X2_upTicks_h8  n) L x1 x2 x3 x4 x5
def f_X2_upTicks (L : SL) (x1 : Int32) (x2 : Int32) : Option (Int32 × SL) :=
   f_X2_upTicks_h8 fuel L x1 x2 0 1 0
def f_X2_mostBottles (L : SL) (x1 : Int32) (x2 : Int32) : Option (Int32 × SL) :=
  gd (chk x1 8) ( lt_ (2 + x1.toNatClampNeg) (fun kq2 => lt_ (L kq2 1) (fun v3 => (if 1 ≤ v3 then bd2 (f_X2_upTicks L x1 x2) (fun r5 L6 => gd (nz v3) ( lt_ ((r5 / v3 : Int32)) (fun v9 => some (v9, L6)))) else  some (0, L)))))
def f_X2_findSlowest_b38 (K8 : SL → Int32 → Int32 → Int32 → Int32 → Option (Int32 × SL)) (L : SL) (x1 : Int32) (x2 : Int32) (x3 : Int32) (x4 : Int32) : Option (Int32 × SL) :=
  lt_ (x4 + 1) (fun z1 => K8 L x1 x2 x3 z1)
def f_X2_findSlowest_b8 (K8 : SL → Int32 → Int32 → Int32 → Int32 → Option (Int32 × SL)) (L : SL) (x1 : Int32) (x2 : Int32) (x3 : Int32) (x4 : Int32) : Option (Int32 × SL) :=
  lt_ (L 0 2) (fun v1 => (if v1 ≤ x4 then  some (x2, L) else bd2 (f_X2_mostBottles L x4 x1) (fun r3 L4 => (if x3 ≤ r3 then  f_X2_findSlowest_b38 K8 L4 x1 x2 x3 x4 else  f_X2_findSlowest_b38 K8 L4 x1 x4 r3 x4))))
def f_X2_findSlowest_h8 : Nat → SL → Int32 → Int32 → Int32 → Int32 → Option (Int32 × SL)
  | 0, _, _, _, _, _ => none
  | n + 1, L, x1, x2, x3, x4 => f_X2_findSlowest_b8  (f_X2_findSlowest_h8  n) L x1 x2 x3 x4
def f_X2_findSlowest (L : SL) (x1 : Int32) : Option (Int32 × SL) :=
   f_X2_findSlowest_h8 fuel L x1 0 1000000 0

/-! functions of X1 -/
def f_X1_keep (i : Nat) (Ls : Nat → SL) (Hs : SL) : Option ((Nat → SL) × SL) :=
  lt_ (Hs 0 1) (fun v1 => lt_ ((v1 + 1 : Int32)) (fun v2 => lt_ ((v2 - v2 / 4 * 4 : Int32)) (fun v3 => lt_ (up2 Hs 0 1 v3) (fun Hs4 => lt_ (Hs4 0 1) (fun v5 => gd (chk v5 4) ( lt_ (2 + v5.toNatClampNeg) (fun jq7 => bd (f_X2_copy i jq7 Ls) (fun Ls8 => lt_ (Hs4 0 2) (fun v10 => (if 4 ≤ v10 then  some (Ls8, Hs4) else lt_ (Hs4 0 2) (fun v12 => lt_ ((v12 + 1 : Int32)) (fun v13 => lt_ (up2 Hs4 0 2 v13) (fun Hs14 => some (Ls8, Hs14))))))))))))))
def f_X1_giveBack (i : Nat) (Ls : Nat → SL) (Hs : SL) : Option ((Nat → SL) × SL) :=
  lt_ (Hs 0 2) (fun v1 => (if ¬ v1 = 0 then lt_ (Hs 0 1) (fun v3 => gd (chk v3 4) ( lt_ (2 + v3.toNatClampNeg) (fun jq5 => bd (f_X2_copy jq5 i Ls) (fun Ls6 => lt_ (Hs 0 1) (fun v8 => lt_ ((v8 + 4 : Int32)) (fun v9 => lt_ ((v9 - 1 : Int32)) (fun v10 => lt_ ((v10 - v10 / 4 * 4 : Int32)) (fun v11 => lt_ (up2 Hs 0 1 v11) (fun Hs12 => lt_ (Hs12 0 2) (fun v13 => lt_ ((v13 - 1 : Int32)) (fun v14 => lt_ (up2 Hs12 0 2 v14) (fun Hs15 => some (Ls6, Hs15))))))))))))) else  some (Ls, Hs)))

/-! functions of X3 -/
def f_X3_put (T : SL) (x1 : Int32) : Option (SL) :=
  lt_ (T 0 1) (fun v1 => (if 120 ≤ v1 then  some T else lt_ (T 0 1) (fun v3 => gd (chk v3 120) ( lt_ (up2 T 1 v3.toNatClampNeg x1) (fun T5 => lt_ (T5 0 1) (fun v6 => lt_ ((v6 + 1 : Int32)) (fun v7 => lt_ (up2 T5 0 1 v7) (fun T8 => some T8))))))))

/-! functions of X5 -/
def f_X5_isIn_b14 : Option (Int32) :=
   some (0 : Int32)
def f_X5_isIn (x0 : Int32) (x1 : Int32) (x2 : Int32) : Option (Int32) :=
   (if x0 < x1 then  f_X5_isIn_b14  else  (if x2 < x0 then  f_X5_isIn_b14  else  some (1 : Int32)))
def f_X5_areCycles_b23 : Option (Int32) :=
   some (0 : Int32)
def f_X5_areCycles (x0 : Int32) (x1 : Int32) : Option (Int32) :=
  bd (f_X5_isIn x0 1 20) (fun r1 => (if r1 = 0 then  f_X5_areCycles_b23  else bd (f_X5_isIn x1 1 x0) (fun r4 => (if r4 = 0 then  f_X5_areCycles_b23  else  some (1 : Int32)))))
def f_X5_addMachine_b18 (Ls : Nat → SL) (Hs : SL) : Option (Sum (Int32 × (Nat → SL) × SL) Nat) :=
   some (Sum.inr 1)
def f_X5_addMachine_b50 (Ls : Nat → SL) (Hs : SL) : Option (Sum (Int32 × (Nat → SL) × SL) Nat) :=
   some (Sum.inr 2)
def f_X5_addMachine (Ls : Nat → SL) (Hs : SL) (x1 : Int32) (x2 : Int32) (x3 : Int32) : Option (Sum (Int32 × (Nat → SL) × SL) Nat) :=
  bd (f_X5_areCycles x1 x2) (fun r1 => (if r1 = 0 then  f_X5_addMachine_b18 Ls Hs else bd (f_X5_isIn x3 0 40) (fun r4 => (if ¬ r4 = 0 then lt_ ((Ls 0) 0 2) (fun v7 => (if 8 ≤ v7 then  f_X5_addMachine_b50 Ls Hs else lt_ ((Ls 0) 0 3) (fun v9 => (if v9 = 0 then bd2 (f_X1_keep 0 Ls Hs) (fun Ls11 Hs12 => bd2 (f_X2_join (Ls11 0) x1 x2 x3) (fun r14 L15 => lt_ (va_up Ls11 0 L15) (fun Ls17 => some (Sum.inl (r14, Ls17, Hs12))))) else  f_X5_addMachine_b50 Ls Hs)))) else  f_X5_addMachine_b18 Ls Hs))))
def f_X5_needMachine_b15 (Ls : Nat → SL) : Option (Sum (Unit) Nat) :=
   some (Sum.inr 3)
def f_X5_needMachine (Ls : Nat → SL) (x1 : Int32) : Option (Sum (Unit) Nat) :=
   (if x1 < 0 then  f_X5_needMachine_b15 Ls else lt_ ((Ls 0) 0 2) (fun v2 => (if x1 < v2 then  some (Sum.inl ()) else  f_X5_needMachine_b15 Ls)))
def f_X5_setMachine_b35 (Ls : Nat → SL) (Hs : SL) : Option (Sum (Int32 × (Nat → SL) × SL) Nat) :=
   some (Sum.inr 1)
def f_X5_setMachine (Ls : Nat → SL) (Hs : SL) (x1 : Int32) (x2 : Int32) (x3 : Int32) (x4 : Int32) (x5 : Int32) : Option (Sum (Int32 × (Nat → SL) × SL) Nat) :=
  bd (f_X5_needMachine Ls x1) (fun r1 => sx r1 (fun _ => bd (f_X5_areCycles x2 x3) (fun r3 => (if r3 = 0 then  f_X5_setMachine_b35 Ls Hs else bd (f_X5_isIn x5 0 40) (fun r6 => (if r6 = 0 then  f_X5_setMachine_b35 Ls Hs else bd (f_X5_isIn x4 0 x5) (fun r9 => (if ¬ r9 = 0 then bd2 (f_X1_keep 0 Ls Hs) (fun Ls12 Hs13 => gd (chk x1 8) ( lt_ (2 + x1.toNatClampNeg) (fun kq16 => lt_ ((Ls12 0) kq16 1) (fun v17 => lt_ (2 + x1.toNatClampNeg) (fun kq18 => lt_ (va_up Ls12 0 (up2 (Ls12 0) kq18 0 x2)) (fun Ls19 => lt_ (2 + x1.toNatClampNeg) (fun kq20 => lt_ (va_up Ls19 0 (up2 (Ls19 0) kq20 1 x3)) (fun Ls21 => bd (f_X2_mark (Ls21 0) x1 x4 x5) (fun L22 => lt_ (va_up Ls21 0 L22) (fun Ls24 => some (Sum.inl (v17, Ls24, Hs13)))))))))))) else  f_X5_setMachine_b35 Ls Hs))))))) (fun k => some (Sum.inr k)))
def f_X5_setCapacity (Ls : Nat → SL) (Hs : SL) (x1 : Int32) (x2 : Int32) : Option (Sum (Int32 × (Nat → SL) × SL) Nat) :=
  bd (f_X5_needMachine Ls x1) (fun r1 => sx r1 (fun _ => bd (f_X5_isIn x2 0 40) (fun r3 => (if ¬ r3 = 0 then bd2 (f_X1_keep 0 Ls Hs) (fun Ls6 Hs7 => gd (chk x1 8) ( lt_ (2 + x1.toNatClampNeg) (fun kq10 => lt_ ((Ls6 0) kq10 4) (fun v11 => lt_ (2 + x1.toNatClampNeg) (fun kq12 => lt_ (va_up Ls6 0 (up2 (Ls6 0) kq12 4 x2)) (fun Ls13 => some (Sum.inl (v11, Ls13, Hs7)))))))) else  some (Sum.inr 1)))) (fun k => some (Sum.inr k)))
def f_X5_addStop_b34 (Ls : Nat → SL) (Hs : SL) : Option (Sum (Int32 × (Nat → SL) × SL) Nat) :=
   some (Sum.inr 1)
def f_X5_addStop (Ls : Nat → SL) (Hs : SL) (x1 : Int32) (x2 : Int32) (x3 : Int32) : Option (Sum (Int32 × (Nat → SL) × SL) Nat) :=
  bd (f_X5_needMachine Ls x1) (fun r1 => sx r1 (fun _ => lt_ ((Ls 0) 0 3) (fun v3 => (if x2 ≤ v3 then  f_X5_addStop_b34 Ls Hs else  (if 10000 < x2 then  f_X5_addStop_b34 Ls Hs else bd (f_X5_isIn x3 1 200) (fun r6 => (if ¬ r6 = 0 then lt_ ((Ls 0) 10 3) (fun v9 => (if v9 < 40 then bd2 (f_X1_keep 0 Ls Hs) (fun Ls11 Hs12 => bd (f_X4_plan (Ls11 0) x1 x2 x3) (fun L14 => lt_ (va_up Ls11 0 L14) (fun Ls16 => lt_ ((Ls16 0) 10 3) (fun v17 => some (Sum.inl (v17, Ls16, Hs12)))))) else  some (Sum.inr 2))) else  f_X5_addStop_b34 Ls Hs)))))) (fun k => some (Sum.inr k)))
def f_X5_addRandomStops_b48 (Ls : Nat → SL) (Hs : SL) : Option (Sum (Int32 × (Nat → SL) × SL) Nat) :=
   some (Sum.inr 1)
def f_X5_addRandomStops_b195 (Ls : Nat → SL) (Hs : SL) : Option (Sum (Int32 × (Nat → SL) × SL) Nat) :=
  lt_ ((Ls 0) 10 3) (fun v1 => some (Sum.inl (v1, Ls, Hs)))
def f_X5_addRandomStops_b119 (K119 : (Nat → SL) → SL → Int32 → Int32 → Int32 → Int32 → Int32 → Int32 → Int64 → Option (Sum (Int32 × (Nat → SL) × SL) Nat)) (Ls : Nat → SL) (Hs : SL) (x1 : Int32) (x3 : Int32) (x4 : Int32) (x5 : Int32) (x7 : Int32) (x8 : Int32) (dw : Int64) : Option (Sum (Int32 × (Nat → SL) × SL) Nat) :=
   (if x5 ≤ x8 then  f_X5_addRandomStops_b195 Ls Hs else lt_ ((x7 + 1 : Int32)) (fun v2 => lt_ ((2 * x3 : Int32)) (fun v3 => bd2 (f_X0_drawBelow dw v3) (fun r4 w5 => lt_ ((v2 + r4 : Int32)) (fun v7 => lt_ ((2 * x4 : Int32)) (fun v8 => bd2 (f_X0_drawBelow w5 v8) (fun r9 w10 => lt_ ((1 + r9 : Int32)) (fun v12 => (if v7 ≤ 10000 then bd (f_X4_plan (Ls 0) x1 v7 v12) (fun L14 => lt_ (va_up Ls 0 L14) (fun Ls16 => lt_ ((v7 + v12 : Int32)) (fun v17 => lt_ ((v17 - 1 : Int32)) (fun v18 => lt_ (x8 + 1) (fun z19 => K119 Ls16 Hs x1 x3 x4 x5 v18 z19 w10))))) else  f_X5_addRandomStops_b195 Ls Hs)))))))))
def f_X5_addRandomStops_h119 : Nat → (Nat → SL) → SL → Int32 → Int32 → Int32 → Int32 → Int32 → Int32 → Int64 → Option (Sum (Int32 × (Nat → SL) × SL) Nat)
  | 0, _, _, _, _, _, _, _, _, _ => none
  | n + 1, Ls, Hs, x1, x3, x4, x5, x7, x8, dw => f_X5_addRandomStops_b119  (f_X5_addRandomStops_h119  n) Ls Hs x1 x3 x4 x5 x7 x8 dw
def f_X5_addRandomStops (Ls : Nat → SL) (Hs : SL) (x1 : Int32) (x2 : Int32) (x3 : Int32) (x4 : Int32) (x5 : Int32) : Option (Sum (Int32 × (Nat → SL) × SL) Nat) :=
  bd (f_X5_needMachine Ls x1) (fun r1 => sx r1 (fun _ => bd (f_X5_isIn x2 0 999999) (fun r3 => (if r3 = 0 then  f_X5_addRandomStops_b48 Ls Hs else bd (f_X5_isIn x3 1 500) (fun r6 => (if r6 = 0 then  f_X5_addRandomStops_b48 Ls Hs else bd (f_X5_isIn x4 1 100) (fun r9 => (if r9 = 0 then  f_X5_addRandomStops_b48 Ls Hs else bd (f_X5_isIn x5 1 40) (fun r12 => (if ¬ r12 = 0 then lt_ ((Ls 0) 10 3) (fun v15 => lt_ ((v15 + x5 : Int32)) (fun v16 => (if v16 ≤ 40 then bd2 (f_X1_keep 0 Ls Hs) (fun Ls18 Hs19 => lt_ ((x2 : Int32).toInt64) (fun w21 => lt_ ((Ls18 0) 0 3) (fun v22 => f_X5_addRandomStops_h119 fuel Ls18 Hs19 x1 x3 x4 x5 v22 0 w21))) else  some (Sum.inr 2)))) else  f_X5_addRandomStops_b48 Ls Hs))))))))) (fun k => some (Sum.inr k)))
def f_X5_clearStops (Ls : Nat → SL) (Hs : SL) : Option (Int32 × (Nat → SL) × SL) :=
  bd2 (f_X1_keep 0 Ls Hs) (fun Ls1 Hs2 => lt_ ((Ls1 0) 0 3) (fun v4 => bd2 (f_X4_dropAfter (Ls1 0) v4) (fun r5 L6 => lt_ (va_up Ls1 0 L6) (fun Ls8 => some (r5, Ls8, Hs2)))))
def f_X5_size (Ls : Nat → SL) (x1 : Int32) : Option (Int32) :=
   (if x1 = 0 then lt_ ((Ls 0) 0 2) (fun v2 => some v2) else lt_ ((Ls 0) 10 3) (fun v3 => some v3))
def f_X5_needWhat_b9 : Option (Sum (Unit) Nat) :=
   some (Sum.inr 1)
def f_X5_needWhat (x0 : Int32) (x1 : Int32) : Option (Sum (Unit) Nat) :=
   (if x0 < 0 then  f_X5_needWhat_b9  else  (if x0 < x1 then  some (Sum.inl ()) else  f_X5_needWhat_b9 ))
def f_X5_stop_b18 (Ls : Nat → SL) : Option (Sum (Int32) Nat) :=
   some (Sum.inr 3)
def f_X5_stop (Ls : Nat → SL) (x1 : Int32) (x2 : Int32) : Option (Sum (Int32) Nat) :=
   (if x1 < 0 then  f_X5_stop_b18 Ls else lt_ ((Ls 0) 10 3) (fun v2 => (if x1 < v2 then bd (f_X5_needWhat x2 3) (fun r4 => sx r4 (fun _ => bd (f_X4_value (Ls 0) x1 x2) (fun r6 => some (Sum.inl r6))) (fun k => some (Sum.inr k))) else  f_X5_stop_b18 Ls)))
def f_X5_needMachines (Ls : Nat → SL) (x1 : Int32) : Option (Sum (Unit) Nat) :=
  lt_ ((Ls 0) 0 2) (fun v1 => (if x1 ≤ v1 then  some (Sum.inl ()) else  some (Sum.inr 2)))
def f_X5_run (Ls : Nat → SL) (Hs : SL) (x1 : Int32) : Option (Sum (Int32 × (Nat → SL) × SL) Nat) :=
  bd (f_X5_isIn x1 0 2000) (fun r1 => (if ¬ r1 = 0 then bd (f_X5_needMachines Ls 1) (fun r4 => sx r4 (fun _ => lt_ ((Ls 0) 0 3) (fun v6 => lt_ ((v6 + x1 : Int32)) (fun v7 => (if v7 ≤ 10000 then bd2 (f_X1_keep 0 Ls Hs) (fun Ls9 Hs10 => bd (f_X2_bottlesOut (Ls9 0)) (fun r12 => bd (f_X2_pass (Ls9 0) x1) (fun L14 => lt_ (va_up Ls9 0 L14) (fun Ls16 => bd (f_X2_bottlesOut (Ls16 0)) (fun r17 => lt_ ((r17 - r12 : Int32)) (fun v19 => some (Sum.inl (v19, Ls16, Hs10)))))))) else  some (Sum.inr 2))))) (fun k => some (Sum.inr k))) else  some (Sum.inr 1)))
def f_X5_restart (Ls : Nat → SL) (Hs : SL) : Option (Int32 × (Nat → SL) × SL) :=
  bd2 (f_X1_keep 0 Ls Hs) (fun Ls1 Hs2 => lt_ ((Ls1 0) 0 3) (fun v4 => bd (f_X2_beginAnew (Ls1 0)) (fun L5 => lt_ (va_up Ls1 0 L5) (fun Ls7 => some (v4, Ls7, Hs2)))))
def f_X5_now (Ls : Nat → SL) : Option (Int32) :=
  lt_ ((Ls 0) 0 3) (fun v1 => some v1)
def f_X5_output (Ls : Nat → SL) : Option (Int32) :=
  bd (f_X2_bottlesOut (Ls 0)) (fun r1 => some r1)
def f_X5_setting (Ls : Nat → SL) (x1 : Int32) (x2 : Int32) : Option (Sum (Int32) Nat) :=
  bd (f_X5_needMachine Ls x1) (fun r1 => sx r1 (fun _ => bd (f_X5_needWhat x2 5) (fun r3 => sx r3 (fun _ => gd (chk x1 8) ( lt_ (2 + x1.toNatClampNeg) (fun kq6 => lt_ ((0 + x2 : Int32)) (fun v7 => gd (chk v7 16) ( lt_ ((Ls 0) kq6 v7.toNatClampNeg) (fun v9 => some (Sum.inl v9))))))) (fun k => some (Sum.inr k)))) (fun k => some (Sum.inr k)))
def f_X5_machine (Ls : Nat → SL) (x1 : Int32) (x2 : Int32) : Option (Sum (Int32) Nat) :=
  bd (f_X5_needMachine Ls x1) (fun r1 => sx r1 (fun _ => bd (f_X5_needWhat x2 4) (fun r3 => sx r3 (fun _ => gd (chk x1 8) ( lt_ (2 + x1.toNatClampNeg) (fun kq6 => lt_ ((5 + x2 : Int32)) (fun v7 => gd (chk v7 16) ( lt_ ((Ls 0) kq6 v7.toNatClampNeg) (fun v9 => some (Sum.inl v9))))))) (fun k => some (Sum.inr k)))) (fun k => some (Sum.inr k)))
def f_X5_count (Ls : Nat → SL) (x1 : Int32) (x2 : Int32) : Option (Sum (Int32) Nat) :=
  bd (f_X5_needMachine Ls x1) (fun r1 => sx r1 (fun _ => bd (f_X5_needWhat x2 6) (fun r3 => sx r3 (fun _ => gd (chk x1 8) ( lt_ (2 + x1.toNatClampNeg) (fun kq6 => lt_ ((9 + x2 : Int32)) (fun v7 => gd (chk v7 16) ( lt_ ((Ls 0) kq6 v7.toNatClampNeg) (fun v9 => some (Sum.inl v9))))))) (fun k => some (Sum.inr k)))) (fun k => some (Sum.inr k)))
def f_X5_inside (Ls : Nat → SL) : Option (Int32) :=
  bd (f_X2_bottlesInside (Ls 0)) (fun r1 => some r1)
def f_X5_needHorizon (x0 : Int32) (x1 : Int32) : Option (Sum (Unit) Nat) :=
  bd (f_X5_isIn x0 1 x1) (fun r1 => (if ¬ r1 = 0 then  some (Sum.inl ()) else  some (Sum.inr 1)))
def f_X5_bound (Ls : Nat → SL) (x1 : Int32) : Option (Sum (Int32 × (Nat → SL)) Nat) :=
  bd (f_X5_needHorizon x1 10000) (fun r1 => sx r1 (fun _ => bd (f_X5_needMachines Ls 1) (fun r3 => sx r3 (fun _ => bd2 (f_X2_findSlowest (Ls 0) x1) (fun r5 L6 => lt_ (va_up Ls 0 L6) (fun Ls8 => bd2 (f_X2_mostBottles (Ls8 0) r5 x1) (fun r9 L10 => lt_ (va_up Ls8 0 L10) (fun Ls12 => some (Sum.inl (r9, Ls12))))))) (fun k => some (Sum.inr k)))) (fun k => some (Sum.inr k)))
def f_X5_limiting (Ls : Nat → SL) : Option (Sum (Int32) Nat) :=
  bd (f_X5_needMachines Ls 1) (fun r1 => sx r1 (fun _ => bd (f_X2_findLimiting (Ls 0)) (fun r3 => some (Sum.inl r3))) (fun k => some (Sum.inr k)))
def f_X5_slowest (Ls : Nat → SL) (x1 : Int32) : Option (Sum (Int32 × (Nat → SL)) Nat) :=
  bd (f_X5_needHorizon x1 10000) (fun r1 => sx r1 (fun _ => bd (f_X5_needMachines Ls 1) (fun r3 => sx r3 (fun _ => bd2 (f_X2_findSlowest (Ls 0) x1) (fun r5 L6 => lt_ (va_up Ls 0 L6) (fun Ls8 => some (Sum.inl (r5, Ls8))))) (fun k => some (Sum.inr k)))) (fun k => some (Sum.inr k)))
def f_X5_tryCapacity (Ls : Nat → SL) (x1 : Int32) (x2 : Int32) (x3 : Int32) : Option (Int32 × (Nat → SL)) :=
  bd (f_X2_copy 0 1 Ls) (fun Ls1 => bd (f_X2_beginAnew (Ls1 1)) (fun L3 => lt_ (va_up Ls1 1 L3) (fun Ls5 => gd (chk x1 8) ( lt_ (2 + x1.toNatClampNeg) (fun kq7 => lt_ (va_up Ls5 1 (up2 (Ls5 1) kq7 4 x2)) (fun Ls8 => bd (f_X2_pass (Ls8 1) x3) (fun L9 => lt_ (va_up Ls8 1 L9) (fun Ls11 => bd (f_X2_bottlesOut (Ls11 1)) (fun r12 => some (r12, Ls11))))))))))
def f_X5_outputWith (Ls : Nat → SL) (x1 : Int32) (x2 : Int32) (x3 : Int32) : Option (Sum (Int32 × (Nat → SL)) Nat) :=
  bd (f_X5_needMachine Ls x1) (fun r1 => sx r1 (fun _ => bd (f_X5_isIn x2 0 40) (fun r3 => (if ¬ r3 = 0 then bd (f_X5_needHorizon x3 2000) (fun r6 => sx r6 (fun _ => bd2 (f_X5_tryCapacity Ls x1 x2 x3) (fun r8 Ls9 => some (Sum.inl (r8, Ls9)))) (fun k => some (Sum.inr k))) else  some (Sum.inr 1)))) (fun k => some (Sum.inr k)))
def f_X5_capacityFor_b58 (K58 : (Nat → SL) → Int32 → Int32 → Int32 → Int32 → Option (Sum (Int32 × (Nat → SL)) Nat)) (Ls : Nat → SL) (x1 : Int32) (x2 : Int32) (x3 : Int32) (x4 : Int32) : Option (Sum (Int32 × (Nat → SL)) Nat) :=
   (if 40 < x4 then  some (Sum.inl ((-1), Ls)) else bd2 (f_X5_tryCapacity Ls x1 x4 x2) (fun r2 Ls3 => (if r2 < x3 then gd (chk x1 8) ( lt_ (2 + x1.toNatClampNeg) (fun kq7 => lt_ ((Ls3 1) kq7 14) (fun v8 => (if ¬ v8 = 0 then lt_ (x4 + 1) (fun z10 => K58 Ls3 x1 x2 x3 z10) else  some (Sum.inl ((-1), Ls3)))))) else  some (Sum.inl (x4, Ls3)))))
def f_X5_capacityFor_h58 : Nat → (Nat → SL) → Int32 → Int32 → Int32 → Int32 → Option (Sum (Int32 × (Nat → SL)) Nat)
  | 0, _, _, _, _, _ => none
  | n + 1, Ls, x1, x2, x3, x4 => f_X5_capacityFor_b58  (f_X5_capacityFor_h58  n) Ls x1 x2 x3 x4
def f_X5_capacityFor (Ls : Nat → SL) (x1 : Int32) (x2 : Int32) (x3 : Int32) : Option (Sum (Int32 × (Nat → SL)) Nat) :=
  bd (f_X5_needMachine Ls x1) (fun r1 => sx r1 (fun _ => bd (f_X5_needHorizon x2 2000) (fun r3 => sx r3 (fun _ => bd (f_X5_isIn x3 0 2000) (fun r5 => (if ¬ r5 = 0 then bd2 (f_X2_findSlowest (Ls 0) x2) (fun r8 L9 => lt_ (va_up Ls 0 L9) (fun Ls11 => bd2 (f_X2_mostBottles (Ls11 0) r8 x2) (fun r12 L13 => lt_ (va_up Ls11 0 L13) (fun Ls15 => (if x3 ≤ r12 then  f_X5_capacityFor_h58 fuel Ls15 x1 x2 x3 0 else  some (Sum.inl ((-1), Ls15))))))) else  some (Sum.inr 1)))) (fun k => some (Sum.inr k)))) (fun k => some (Sum.inr k)))
def f_X5_bestBuffer_b100 (K40 : (Nat → SL) → Int32 → Int32 → Int32 → Int32 → Int32 → Option (Sum (Int32 × (Nat → SL)) Nat)) (Ls : Nat → SL) (x1 : Int32) (x2 : Int32) (x3 : Int32) (x4 : Int32) (x5 : Int32) : Option (Sum (Int32 × (Nat → SL)) Nat) :=
  lt_ (x5 + 1) (fun z1 => K40 Ls x1 x2 x3 x4 z1)
def f_X5_bestBuffer_b40 (K40 : (Nat → SL) → Int32 → Int32 → Int32 → Int32 → Int32 → Option (Sum (Int32 × (Nat → SL)) Nat)) (Ls : Nat → SL) (x1 : Int32) (x2 : Int32) (x3 : Int32) (x4 : Int32) (x5 : Int32) : Option (Sum (Int32 × (Nat → SL)) Nat) :=
  lt_ ((Ls 0) 0 2) (fun v1 => lt_ ((v1 - 1 : Int32)) (fun v2 => (if v2 ≤ x5 then  some (Sum.inl (x3, Ls)) else gd (chk x5 8) ( lt_ (2 + x5.toNatClampNeg) (fun kq5 => lt_ ((Ls 0) kq5 4) (fun v6 => lt_ ((v6 + x2 : Int32)) (fun v7 => lt_ ((if 40 < v7 then 40 else v7 : Int32)) (fun v8 => bd2 (f_X5_tryCapacity Ls x5 v8 x1) (fun r9 Ls10 => (if r9 ≤ x4 then  f_X5_bestBuffer_b100 K40 Ls10 x1 x2 x3 x4 x5 else  f_X5_bestBuffer_b100 K40 Ls10 x1 x2 x5 r9 x5))))))))))
def f_X5_bestBuffer_h40 : Nat → (Nat → SL) → Int32 → Int32 → Int32 → Int32 → Int32 → Option (Sum (Int32 × (Nat → SL)) Nat)
  | 0, _, _, _, _, _, _ => none
  | n + 1, Ls, x1, x2, x3, x4, x5 => f_X5_bestBuffer_b40  (f_X5_bestBuffer_h40  n) Ls x1 x2 x3 x4 x5
def f_X5_bestBuffer (Ls : Nat → SL) (x1 : Int32) (x2 : Int32) : Option (Sum (Int32 × (Nat → SL)) Nat) :=
  bd (f_X5_needHorizon x1 2000) (fun r1 => sx r1 (fun _ => bd (f_X5_isIn x2 1 40) (fun r3 => (if ¬ r3 = 0 then bd (f_X5_needMachines Ls 2) (fun r6 => sx r6 (fun _ => f_X5_bestBuffer_h40 fuel Ls x1 x2 0 (-1) 0) (fun k => some (Sum.inr k))) else  some (Sum.inr 1)))) (fun k => some (Sum.inr k)))
def f_X5_append (T : SL) (x1 : Int32) : Option (Sum (Int32 × SL) Nat) :=
  bd (f_X5_isIn x1 0 127) (fun r1 => (if ¬ r1 = 0 then lt_ (T 0 1) (fun v4 => (if v4 < 120 then bd (f_X3_put T x1) (fun T6 => lt_ (T6 0 1) (fun v8 => some (Sum.inl (v8, T6)))) else  some (Sum.inr 2))) else  some (Sum.inr 1)))
def f_X5_undo (Ls : Nat → SL) (Hs : SL) : Option (Sum (Int32 × (Nat → SL) × SL) Nat) :=
  lt_ (Hs 0 2) (fun v1 => (if ¬ v1 = 0 then bd2 (f_X1_giveBack 0 Ls Hs) (fun Ls3 Hs4 => lt_ (Hs4 0 2) (fun v6 => some (Sum.inl (v6, Ls3, Hs4)))) else  some (Sum.inr 2)))
