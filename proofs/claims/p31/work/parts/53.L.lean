/-! functions of the law -/
def f_L_low (x0 : Int32) (x1 : Int32) : Option (Int32) :=
  lt_ ((x0 &&& 2147483647 : Int32)) (fun v1 => gd (nz x1) ( lt_ ((v1 - v1 / x1 * x1 : Int32)) (fun v3 => some v3)))
def f_L_print_b102 (K29 : (Nat → SL) → Int64 → Int32 → Option (Int64)) (K102 : (Nat → SL) → Int64 → Int32 → Int32 → Option (Int64)) (Ls : Nat → SL) (y1 : Int64) (x3 : Int32) (x4 : Int32) : Option (Int64) :=
   (if 4 ≤ x4 then lt_ (x3 + 1) (fun z2 => K29 Ls y1 z2) else lt_ ((31 * y1 : Int64)) (fun w3 => bd (okv (f_X5_machine Ls x3 x4)) (fun r5 => lt_ ((r5 : Int32).toInt64) (fun w6 => lt_ ((w3 + w6 : Int64)) (fun w7 => lt_ (x4 + 1) (fun z8 => K102 Ls w7 x3 z8))))))
def f_L_print_h102 (K29 : (Nat → SL) → Int64 → Int32 → Option (Int64)) : Nat → (Nat → SL) → Int64 → Int32 → Int32 → Option (Int64)
  | 0, _, _, _, _ => none
  | n + 1, Ls, y1, x3, x4 => f_L_print_b102 K29 (f_L_print_h102 K29 n) Ls y1 x3 x4
def f_L_print_b72 (K29 : (Nat → SL) → Int64 → Int32 → Option (Int64)) (K72 : (Nat → SL) → Int64 → Int32 → Int32 → Option (Int64)) (Ls : Nat → SL) (y1 : Int64) (x3 : Int32) (x4 : Int32) : Option (Int64) :=
   (if 5 ≤ x4 then  f_L_print_h102 K29 fuel Ls y1 x3 0 else lt_ ((31 * y1 : Int64)) (fun w2 => bd (okv (f_X5_setting Ls x3 x4)) (fun r4 => lt_ ((r4 : Int32).toInt64) (fun w5 => lt_ ((w2 + w5 : Int64)) (fun w6 => lt_ (x4 + 1) (fun z7 => K72 Ls w6 x3 z7))))))
def f_L_print_h72 (K29 : (Nat → SL) → Int64 → Int32 → Option (Int64)) : Nat → (Nat → SL) → Int64 → Int32 → Int32 → Option (Int64)
  | 0, _, _, _, _ => none
  | n + 1, Ls, y1, x3, x4 => f_L_print_b72 K29 (f_L_print_h72 K29 n) Ls y1 x3 x4
def f_L_print_b41 (K29 : (Nat → SL) → Int64 → Int32 → Option (Int64)) (K41 : (Nat → SL) → Int64 → Int32 → Int32 → Option (Int64)) (Ls : Nat → SL) (y1 : Int64) (x3 : Int32) (x4 : Int32) : Option (Int64) :=
   (if 6 ≤ x4 then  f_L_print_h72 K29 fuel Ls y1 x3 0 else lt_ ((31 * y1 : Int64)) (fun w2 => bd (okv (f_X5_count Ls x3 x4)) (fun r4 => lt_ ((r4 : Int32).toInt64) (fun w5 => lt_ ((w2 + w5 : Int64)) (fun w6 => lt_ (x4 + 1) (fun z7 => K41 Ls w6 x3 z7))))))
def f_L_print_h41 (K29 : (Nat → SL) → Int64 → Int32 → Option (Int64)) : Nat → (Nat → SL) → Int64 → Int32 → Int32 → Option (Int64)
  | 0, _, _, _, _ => none
  | n + 1, Ls, y1, x3, x4 => f_L_print_b41 K29 (f_L_print_h41 K29 n) Ls y1 x3 x4
def f_L_print_b137 (K137 : (Nat → SL) → Int64 → Int32 → Option (Int64)) (Ls : Nat → SL) (y1 : Int64) (x3 : Int32) : Option (Int64) :=
  bd (f_X5_size Ls 1) (fun r1 => (if r1 ≤ x3 then  some y1 else lt_ ((31 * y1 : Int64)) (fun w4 => bd (okv (f_X5_stop Ls x3 0)) (fun r6 => lt_ ((r6 : Int32).toInt64) (fun w7 => lt_ ((w4 + w7 : Int64)) (fun w8 => lt_ ((31 * w8 : Int64)) (fun w9 => bd (okv (f_X5_stop Ls x3 1)) (fun r11 => lt_ ((r11 : Int32).toInt64) (fun w12 => lt_ ((w9 + w12 : Int64)) (fun w13 => lt_ ((31 * w13 : Int64)) (fun w14 => bd (okv (f_X5_stop Ls x3 2)) (fun r16 => lt_ ((r16 : Int32).toInt64) (fun w17 => lt_ ((w14 + w17 : Int64)) (fun w18 => lt_ (x3 + 1) (fun z19 => K137 Ls w18 z19)))))))))))))))
def f_L_print_h137 : Nat → (Nat → SL) → Int64 → Int32 → Option (Int64)
  | 0, _, _, _ => none
  | n + 1, Ls, y1, x3 => f_L_print_b137  (f_L_print_h137  n) Ls y1 x3
def f_L_print_b29 (K29 : (Nat → SL) → Int64 → Int32 → Option (Int64)) (Ls : Nat → SL) (y1 : Int64) (x3 : Int32) : Option (Int64) :=
  bd (f_X5_size Ls 0) (fun r1 => (if r1 ≤ x3 then  f_L_print_h137 fuel Ls y1 0 else  f_L_print_h41 K29 fuel Ls y1 x3 0))
def f_L_print_h29 : Nat → (Nat → SL) → Int64 → Int32 → Option (Int64)
  | 0, _, _, _ => none
  | n + 1, Ls, y1, x3 => f_L_print_b29  (f_L_print_h29  n) Ls y1 x3
def f_L_print (Ls : Nat → SL) : Option (Int64) :=
  bd (f_X5_now Ls) (fun r1 => lt_ ((r1 : Int32).toInt64) (fun w3 => lt_ ((31 * w3 : Int64)) (fun w4 => bd (f_X5_output Ls) (fun r5 => lt_ ((r5 : Int32).toInt64) (fun w7 => lt_ ((w4 + w7 : Int64)) (fun w8 => lt_ ((31 * w8 : Int64)) (fun w9 => bd (f_X5_size Ls 1) (fun r10 => lt_ ((r10 : Int32).toInt64) (fun w12 => lt_ ((w9 + w12 : Int64)) (fun w13 => f_L_print_h29 fuel Ls w13 0))))))))))
def f_L_refused_b226 (Ls : Nat → SL) (Hs : SL) (T : SL) : Option (Int32 × (Nat → SL) × SL × SL) :=
   some (0, Ls, Hs, T)
def f_L_refused_b157 (Ls : Nat → SL) (Hs : SL) (T : SL) (y1 : Int64) (s0 : Int32) : Option (Int32 × (Nat → SL) × SL × SL) :=
   (if s0 = 0 then  f_L_refused_b226 Ls Hs T else bd2 (fw_outputWith Ls 8 0 1) (fun r3 Ls4 => (if ¬ r3 = (-5000003) then  f_L_refused_b226 Ls4 Hs T else bd2 (fw_capacityFor Ls4 8 1 1) (fun r7 Ls8 => (if ¬ r7 = (-5000003) then  f_L_refused_b226 Ls8 Hs T else bd2 (fw_bestBuffer Ls8 3000 1) (fun r11 Ls12 => (if ¬ r11 = (-5000001) then  f_L_refused_b226 Ls12 Hs T else bd2 (fw_append T 999) (fun r15 T16 => (if ¬ r15 = (-5000001) then  f_L_refused_b226 Ls12 Hs T16 else bd (f_L_print Ls12) (fun w18 => lt_ (lg_cmp w18 y1) (fun v20 => (if ¬ v20 = 0 then  f_L_refused_b226 Ls12 Hs T16 else  some (1, Ls12, Hs, T16)))))))))))))
def f_L_refused_b156 (Ls : Nat → SL) (Hs : SL) (T : SL) (y1 : Int64) : Option (Int32 × (Nat → SL) × SL × SL) :=
   f_L_refused_b157 Ls Hs T y1 0
def f_L_refused (Ls : Nat → SL) (Hs : SL) (T : SL) : Option (Int32 × (Nat → SL) × SL × SL) :=
  bd (f_L_print Ls) (fun w1 => bd3 (fw_addMachine Ls Hs 0 1 1) (fun r4 Ls5 Hs6 => (if ¬ r4 = (-5000001) then  f_L_refused_b156 Ls5 Hs6 T w1 else bd3 (fw_setMachine Ls5 Hs6 8 1 1 0 0) (fun r9 Ls10 Hs11 => (if ¬ r9 = (-5000003) then  f_L_refused_b156 Ls10 Hs11 T w1 else bd3 (fw_setCapacity Ls10 Hs11 (-1) 0) (fun r14 Ls15 Hs16 => (if ¬ r14 = (-5000003) then  f_L_refused_b156 Ls15 Hs16 T w1 else bd3 (fw_addStop Ls15 Hs16 8 1 1) (fun r19 Ls20 Hs21 => (if ¬ r19 = (-5000003) then  f_L_refused_b156 Ls20 Hs21 T w1 else bd3 (fw_addRandomStops Ls20 Hs21 8 1 1 1 1) (fun r24 Ls25 Hs26 => (if ¬ r24 = (-5000003) then  f_L_refused_b156 Ls25 Hs26 T w1 else bd (fw_stop Ls25 40 0) (fun r29 => (if ¬ r29 = (-5000003) then  f_L_refused_b156 Ls25 Hs26 T w1 else bd3 (fw_run Ls25 Hs26 3000) (fun r32 Ls33 Hs34 => (if ¬ r32 = (-5000001) then  f_L_refused_b156 Ls33 Hs34 T w1 else bd (fw_setting Ls33 8 0) (fun r37 => (if ¬ r37 = (-5000003) then  f_L_refused_b156 Ls33 Hs34 T w1 else bd (fw_machine Ls33 8 0) (fun r40 => (if ¬ r40 = (-5000003) then  f_L_refused_b156 Ls33 Hs34 T w1 else bd (fw_count Ls33 (-1) 0) (fun r43 => (if ¬ r43 = (-5000003) then  f_L_refused_b156 Ls33 Hs34 T w1 else bd2 (fw_bound Ls33 (-1)) (fun r46 Ls47 => (if ¬ r46 = (-5000001) then  f_L_refused_b156 Ls47 Hs34 T w1 else bd2 (fw_slowest Ls47 20000) (fun r50 Ls51 => (if ¬ r50 = (-5000001) then  f_L_refused_b156 Ls51 Hs34 T w1 else  f_L_refused_b157 Ls51 Hs34 T w1 1)))))))))))))))))))))))))
def f_L_areFit_b382 (K13 : (Nat → SL) → Int32 → Int32 → Int32 → Int32 → Option (Int32)) (Ls : Nat → SL) (x1 : Int32) (x2 : Int32) (x4 : Int32) (s0 : Int32) : Option (Int32) :=
  lt_ (x4 + 1) (fun z1 => K13 Ls x1 x2 s0 z1)
def f_L_areFit_b381 (K13 : (Nat → SL) → Int32 → Int32 → Int32 → Int32 → Option (Int32)) (Ls : Nat → SL) (x1 : Int32) (x2 : Int32) (x4 : Int32) : Option (Int32) :=
   f_L_areFit_b382 K13 Ls x1 x2 x4 0
def f_L_areFit_b346 (K13 : (Nat → SL) → Int32 → Int32 → Int32 → Int32 → Option (Int32)) (Ls : Nat → SL) (x1 : Int32) (x2 : Int32) (x4 : Int32) (x5 : Int32) (s0 : Int32) : Option (Int32) :=
  bd (okv (f_X5_limiting Ls)) (fun r2 => (if s0 = 0 then  f_L_areFit_b381 K13 Ls x1 x2 x4 else bd (okv (f_X5_count Ls r2 1)) (fun r5 => bd (okv (f_X5_count Ls r2 2)) (fun r7 => lt_ ((r5 + r7 : Int32)) (fun v8 => (if x5 < v8 then  f_L_areFit_b381 K13 Ls x1 x2 x4 else  f_L_areFit_b382 K13 Ls x1 x2 x4 1))))))
def f_L_areFit_b341 (K13 : (Nat → SL) → Int32 → Int32 → Int32 → Int32 → Option (Int32)) (Ls : Nat → SL) (x1 : Int32) (x2 : Int32) (x4 : Int32) (x5 : Int32) : Option (Int32) :=
   f_L_areFit_b346 K13 Ls x1 x2 x4 x5 1
def f_L_areFit_b345 (K13 : (Nat → SL) → Int32 → Int32 → Int32 → Int32 → Option (Int32)) (Ls : Nat → SL) (x1 : Int32) (x2 : Int32) (x4 : Int32) (x5 : Int32) : Option (Int32) :=
   f_L_areFit_b346 K13 Ls x1 x2 x4 x5 0
def f_L_areFit_b337 (K13 : (Nat → SL) → Int32 → Int32 → Int32 → Int32 → Option (Int32)) (Ls : Nat → SL) (x1 : Int32) (x2 : Int32) (x4 : Int32) (x5 : Int32) (s0 : Int32) (s1 : Int32) (s2 : Int32) : Option (Int32) :=
  lt_ ((s1 + s2 : Int32)) (fun v1 => (if ¬ s0 = v1 then  f_L_areFit_b345 K13 Ls x1 x2 x4 x5 else  f_L_areFit_b341 K13 Ls x1 x2 x4 x5))
def f_L_areFit_b283 (K13 : (Nat → SL) → Int32 → Int32 → Int32 → Int32 → Option (Int32)) (Ls : Nat → SL) (x1 : Int32) (x2 : Int32) (x4 : Int32) (x5 : Int32) (s0 : Int32) : Option (Int32) :=
   (if s0 = 0 then  f_L_areFit_b345 K13 Ls x1 x2 x4 x5 else lt_ ((x1 - 1 : Int32)) (fun v2 => (if x4 = v2 then  f_L_areFit_b341 K13 Ls x1 x2 x4 x5 else bd (okv (f_X5_count Ls x4 4)) (fun r5 => lt_ ((x4 + 1 : Int32)) (fun v6 => bd (okv (f_X5_count Ls v6 4)) (fun r8 => bd (okv (f_X5_machine Ls x4 0)) (fun r10 => lt_ ((r8 + r10 : Int32)) (fun v11 => lt_ ((x4 + 1 : Int32)) (fun v12 => bd (okv (f_X5_machine Ls v12 1)) (fun r14 => (if r14 < 0 then  f_L_areFit_b337 K13 Ls x1 x2 x4 x5 r5 v11 0 else  f_L_areFit_b337 K13 Ls x1 x2 x4 x5 r5 v11 1)))))))))))
def f_L_areFit_b282 (K13 : (Nat → SL) → Int32 → Int32 → Int32 → Int32 → Option (Int32)) (Ls : Nat → SL) (x1 : Int32) (x2 : Int32) (x4 : Int32) (x5 : Int32) : Option (Int32) :=
   f_L_areFit_b283 K13 Ls x1 x2 x4 x5 0
def f_L_areFit_b264 (K13 : (Nat → SL) → Int32 → Int32 → Int32 → Int32 → Option (Int32)) (Ls : Nat → SL) (x1 : Int32) (x2 : Int32) (x4 : Int32) (x5 : Int32) : Option (Int32) :=
  bd (okv (f_X5_count Ls x4 5)) (fun r2 => bd (f_X5_now Ls) (fun r3 => (if r3 < r2 then  f_L_areFit_b282 K13 Ls x1 x2 x4 x5 else  f_L_areFit_b283 K13 Ls x1 x2 x4 x5 1)))
def f_L_areFit_b201 (K13 : (Nat → SL) → Int32 → Int32 → Int32 → Int32 → Option (Int32)) (Ls : Nat → SL) (x1 : Int32) (x2 : Int32) (x4 : Int32) (x5 : Int32) : Option (Int32) :=
  lt_ ((x1 - 1 : Int32)) (fun v1 => (if x4 < v1 then  f_L_areFit_b264 K13 Ls x1 x2 x4 x5 else bd (okv (f_X5_count Ls x4 2)) (fun r4 => (if ¬ r4 = 0 then  f_L_areFit_b282 K13 Ls x1 x2 x4 x5 else bd (okv (f_X5_machine Ls x4 0)) (fun r7 => (if ¬ r7 = 0 then  f_L_areFit_b282 K13 Ls x1 x2 x4 x5 else bd (okv (f_X5_machine Ls x4 2)) (fun r10 => (if ¬ r10 = 1 then  f_L_areFit_b282 K13 Ls x1 x2 x4 x5 else bd (okv (f_X5_count Ls x4 5)) (fun r13 => (if ¬ r13 = 0 then  f_L_areFit_b282 K13 Ls x1 x2 x4 x5 else bd (f_X5_output Ls) (fun r15 => bd (okv (f_X5_count Ls x4 4)) (fun r18 => (if ¬ r15 = r18 then  f_L_areFit_b282 K13 Ls x1 x2 x4 x5 else  f_L_areFit_b264 K13 Ls x1 x2 x4 x5)))))))))))))
def f_L_areFit_b181 (K13 : (Nat → SL) → Int32 → Int32 → Int32 → Int32 → Option (Int32)) (Ls : Nat → SL) (x1 : Int32) (x2 : Int32) (x4 : Int32) (x5 : Int32) (s0 : Int32) : Option (Int32) :=
   (if s0 = 0 then  f_L_areFit_b282 K13 Ls x1 x2 x4 x5 else  (if 0 < x4 then  f_L_areFit_b201 K13 Ls x1 x2 x4 x5 else bd (okv (f_X5_count Ls x4 1)) (fun r4 => (if ¬ r4 = 0 then  f_L_areFit_b282 K13 Ls x1 x2 x4 x5 else  f_L_areFit_b201 K13 Ls x1 x2 x4 x5))))
def f_L_areFit_b180 (K13 : (Nat → SL) → Int32 → Int32 → Int32 → Int32 → Option (Int32)) (Ls : Nat → SL) (x1 : Int32) (x2 : Int32) (x4 : Int32) (x5 : Int32) : Option (Int32) :=
   f_L_areFit_b181 K13 Ls x1 x2 x4 x5 0
def f_L_areFit_b173 (K13 : (Nat → SL) → Int32 → Int32 → Int32 → Int32 → Option (Int32)) (Ls : Nat → SL) (x1 : Int32) (x2 : Int32) (x4 : Int32) (x5 : Int32) (s0 : Int32) (s1 : Int32) : Option (Int32) :=
   (if ¬ s0 = s1 then  f_L_areFit_b180 K13 Ls x1 x2 x4 x5 else  f_L_areFit_b181 K13 Ls x1 x2 x4 x5 1)
def f_L_areFit_b161 (K13 : (Nat → SL) → Int32 → Int32 → Int32 → Int32 → Option (Int32)) (Ls : Nat → SL) (x1 : Int32) (x2 : Int32) (x4 : Int32) (x5 : Int32) (s0 : Int32) : Option (Int32) :=
  bd (f_X5_now Ls) (fun r1 => (if ¬ r1 = 0 then  f_L_areFit_b173 K13 Ls x1 x2 x4 x5 s0 0 else  f_L_areFit_b173 K13 Ls x1 x2 x4 x5 s0 1))
def f_L_areFit_b55 (K13 : (Nat → SL) → Int32 → Int32 → Int32 → Int32 → Option (Int32)) (Ls : Nat → SL) (x1 : Int32) (x2 : Int32) (x4 : Int32) (x5 : Int32) (s0 : Int32) : Option (Int32) :=
  bd (okv (f_X5_machine Ls x4 0)) (fun r2 => lt_ ((s0 + r2 : Int32)) (fun v3 => lt_ ((x2 + v3 : Int32)) (fun v4 => bd (okv (f_X5_count Ls x4 0)) (fun r6 => lt_ ((r6 + x5 : Int32)) (fun v7 => bd (okv (f_X5_count Ls x4 3)) (fun r9 => lt_ ((v7 + r9 : Int32)) (fun v10 => bd (f_X5_now Ls) (fun r11 => (if ¬ v10 = r11 then  f_L_areFit_b180 K13 Ls x1 v4 x4 x5 else bd (okv (f_X5_count Ls x4 4)) (fun r15 => bd (okv (f_X5_count Ls x4 0)) (fun r17 => (if r17 < r15 then  f_L_areFit_b180 K13 Ls x1 v4 x4 x5 else bd (okv (f_X5_machine Ls x4 1)) (fun r20 => (if 20 ≤ r20 then  f_L_areFit_b180 K13 Ls x1 v4 x4 x5 else bd (okv (f_X5_machine Ls x4 0)) (fun r23 => (if r23 < 0 then  f_L_areFit_b180 K13 Ls x1 v4 x4 x5 else bd (okv (f_X5_machine Ls x4 0)) (fun r26 => (if 40 < r26 then  f_L_areFit_b180 K13 Ls x1 v4 x4 x5 else bd (okv (f_X5_machine Ls x4 3)) (fun r29 => (if ¬ r29 = 0 then  f_L_areFit_b161 K13 Ls x1 v4 x4 x5 0 else  f_L_areFit_b161 K13 Ls x1 v4 x4 x5 1))))))))))))))))))))
def f_L_areFit_b421 (Ls : Nat → SL) : Option (Int32) :=
   some (1 : Int32)
def f_L_areFit_b425 (Ls : Nat → SL) : Option (Int32) :=
   some (0 : Int32)
def f_L_areFit_b389 (Ls : Nat → SL) (x1 : Int32) (x2 : Int32) (x3 : Int32) : Option (Int32) :=
   (if x3 = 0 then  f_L_areFit_b425 Ls else bd (f_X5_inside Ls) (fun r2 => (if ¬ r2 = x2 then  f_L_areFit_b425 Ls else  (if 0 < x1 then  f_L_areFit_b421 Ls else bd (f_X5_output Ls) (fun r6 => (if ¬ r6 = 0 then  f_L_areFit_b425 Ls else bd (fw_limiting Ls) (fun r10 => (if ¬ r10 = (-5000002) then  f_L_areFit_b425 Ls else  f_L_areFit_b421 Ls))))))))
def f_L_areFit_b13 (K13 : (Nat → SL) → Int32 → Int32 → Int32 → Int32 → Option (Int32)) (Ls : Nat → SL) (x1 : Int32) (x2 : Int32) (x3 : Int32) (x4 : Int32) : Option (Int32) :=
   (if x1 ≤ x4 then  f_L_areFit_b389 Ls x1 x2 x3 else  (if x3 = 0 then  f_L_areFit_b389 Ls x1 x2 x3 else bd (okv (f_X5_count Ls x4 1)) (fun r4 => bd (okv (f_X5_count Ls x4 2)) (fun r6 => lt_ ((r4 + r6 : Int32)) (fun v7 => bd (okv (f_X5_machine Ls x4 1)) (fun r9 => (if r9 < 0 then  f_L_areFit_b55 K13 Ls x1 x2 x4 v7 0 else  f_L_areFit_b55 K13 Ls x1 x2 x4 v7 1)))))))
def f_L_areFit_h13 : Nat → (Nat → SL) → Int32 → Int32 → Int32 → Int32 → Option (Int32)
  | 0, _, _, _, _, _ => none
  | n + 1, Ls, x1, x2, x3, x4 => f_L_areFit_b13  (f_L_areFit_h13  n) Ls x1 x2 x3 x4
def f_L_areFit (Ls : Nat → SL) : Option (Int32) :=
  bd (f_X5_size Ls 0) (fun r1 => f_L_areFit_h13 fuel Ls r1 0 1 0)
def f_L_isAnew_b41 (Ls : Nat → SL) (Hs : SL) : Option (Int32 × (Nat → SL) × SL) :=
   some (0, Ls, Hs)
def f_L_isAnew_b251 (Ls : Nat → SL) (Hs : SL) : Option (Int32 × (Nat → SL) × SL) :=
   some (0, Ls, Hs)
def f_L_isAnew_b217 (Ls : Nat → SL) (Hs : SL) (y2 : Int64) (s0 : Int32) : Option (Int32 × (Nat → SL) × SL) :=
   (if s0 = 0 then  f_L_isAnew_b251 Ls Hs else bd3 (fw_undo Ls Hs) (fun r3 Ls4 Hs5 => (if r3 < 0 then  f_L_isAnew_b251 Ls4 Hs5 else bd3 (fw_undo Ls4 Hs5) (fun r8 Ls9 Hs10 => (if r8 < 0 then  f_L_isAnew_b251 Ls9 Hs10 else bd (f_L_print Ls9) (fun w12 => lt_ (lg_cmp w12 y2) (fun v14 => (if ¬ v14 = 0 then  f_L_isAnew_b251 Ls9 Hs10 else  some (1, Ls9, Hs10)))))))))
def f_L_isAnew_b216 (Ls : Nat → SL) (Hs : SL) (y2 : Int64) : Option (Int32 × (Nat → SL) × SL) :=
   f_L_isAnew_b217 Ls Hs y2 0
def f_L_isAnew_b178 (Ls : Nat → SL) (Hs : SL) (x1 : Int32) (y2 : Int64) (x5 : Int32) (s0 : Int32) : Option (Int32 × (Nat → SL) × SL) :=
   (if s0 = 0 then  f_L_isAnew_b216 Ls Hs y2 else bd3 (fw_run Ls Hs x1) (fun r3 Ls4 Hs5 => (if ¬ r3 = x5 then  f_L_isAnew_b216 Ls4 Hs5 y2 else bd (f_X5_output Ls4) (fun r7 => (if ¬ r7 = x5 then  f_L_isAnew_b216 Ls4 Hs5 y2 else bd (f_X5_now Ls4) (fun r10 => (if ¬ r10 = x1 then  f_L_isAnew_b216 Ls4 Hs5 y2 else  f_L_isAnew_b217 Ls4 Hs5 y2 1)))))))
def f_L_isAnew_b177 (Ls : Nat → SL) (Hs : SL) (x1 : Int32) (y2 : Int64) (x5 : Int32) : Option (Int32 × (Nat → SL) × SL) :=
   f_L_isAnew_b178 Ls Hs x1 y2 x5 0
def f_L_isAnew (Ls : Nat → SL) (Hs : SL) (x1 : Int32) : Option (Int32 × (Nat → SL) × SL) :=
  bd (f_L_print Ls) (fun w1 => bd (f_X5_size Ls 0) (fun r3 => (if ¬ r3 = 0 then lt_ ((r3 - 1 : Int32)) (fun v6 => bd2 (fw_outputWith Ls v6 5 x1) (fun r8 Ls9 => bd2 (fw_bound Ls9 x1) (fun r11 Ls12 => bd2 (fw_slowest Ls12 x1) (fun r14 Ls15 => bd (f_L_print Ls15) (fun w16 => lt_ (lg_cmp w16 w1) (fun v18 => (if ¬ v18 = 0 then  f_L_isAnew_b177 Ls15 Hs x1 w1 r8 else  (if r8 < 0 then  f_L_isAnew_b177 Ls15 Hs x1 w1 r8 else  (if r11 < r8 then  f_L_isAnew_b177 Ls15 Hs x1 w1 r8 else  (if r14 < 0 then  f_L_isAnew_b177 Ls15 Hs x1 w1 r8 else  (if r3 ≤ r14 then  f_L_isAnew_b177 Ls15 Hs x1 w1 r8 else bd (fw_setting Ls15 r14 1) (fun r25 => gd (nz r25) ( lt_ ((x1 / r25 : Int32)) (fun v27 => (if v27 < r11 then  f_L_isAnew_b177 Ls15 Hs x1 w1 r8 else lt_ ((x1 + 1 : Int32)) (fun v29 => bd2 (fw_bound Ls15 v29) (fun r31 Ls32 => (if r31 < r11 then  f_L_isAnew_b177 Ls32 Hs x1 w1 r8 else bd (fw_setting Ls32 0 4) (fun r35 => bd2 (fw_outputWith Ls32 0 r35 x1) (fun r37 Ls38 => (if ¬ r37 = r8 then  f_L_isAnew_b177 Ls38 Hs x1 w1 r8 else lt_ ((r3 - 1 : Int32)) (fun v40 => bd2 (fw_capacityFor Ls38 v40 x1 r8) (fun r42 Ls43 => (if ¬ r42 = 0 then  f_L_isAnew_b177 Ls43 Hs x1 w1 r8 else bd3 (f_X5_restart Ls43 Hs) (fun r45 Ls46 Hs47 => (if r45 < 0 then  f_L_isAnew_b177 Ls46 Hs47 x1 w1 r8 else bd (f_X5_inside Ls46) (fun r50 => (if ¬ r50 = 0 then  f_L_isAnew_b177 Ls46 Hs47 x1 w1 r8 else  f_L_isAnew_b178 Ls46 Hs47 x1 w1 r8 1)))))))))))))))))))))))))))) else bd3 (fw_run Ls Hs x1) (fun r54 Ls55 Hs56 => (if ¬ r54 = (-5000002) then  f_L_isAnew_b41 Ls55 Hs56 else bd2 (fw_bound Ls55 x1) (fun r59 Ls60 => (if ¬ r59 = (-5000002) then  f_L_isAnew_b41 Ls60 Hs56 else  some (1, Ls60, Hs56))))))))
def f_L_acts_b271 (Ls : Nat → SL) (Hs : SL) (s1 : Int32) : Option (Int32 × (Nat → SL) × SL) :=
  bd3 (fw_run Ls Hs s1) (fun r2 Ls3 Hs4 => some (r2, Ls3, Hs4))
def f_L_acts_b17 (Ls : Nat → SL) (Hs : SL) (x1 : Int32) (x2 : Int32) (s0 : Int32) : Option (Int32 × (Nat → SL) × SL) :=
  bd (f_L_low x1 14) (fun r1 => (if r1 = 0 then lt_ ((x2 - x2 / 9 * 9 : Int32)) (fun v3 => lt_ ((1 + v3 : Int32)) (fun v4 => lt_ ((x2 / 9 : Int32)) (fun v5 => gd (nz v4) ( lt_ ((v5 - v5 / v4 * v4 : Int32)) (fun v7 => lt_ ((1 + v7 : Int32)) (fun v8 => lt_ ((x2 / 81 : Int32)) (fun v9 => lt_ ((v9 - v9 / 6 * 6 : Int32)) (fun v10 => bd3 (fw_addMachine Ls Hs v4 v8 v10) (fun r12 Ls13 Hs14 => some (r12, Ls13, Hs14)))))))))) else (if r1 = 1 then lt_ ((x2 / 8 : Int32)) (fun v16 => lt_ ((v16 - v16 / 9 * 9 : Int32)) (fun v17 => lt_ ((1 + v17 : Int32)) (fun v18 => lt_ ((x2 / 72 : Int32)) (fun v19 => lt_ ((v19 - v19 / 9 * 9 : Int32)) (fun v20 => lt_ ((x2 / 648 : Int32)) (fun v21 => gd (nz v18) ( lt_ ((v21 - v21 / v18 * v18 : Int32)) (fun v23 => lt_ ((1 + v23 : Int32)) (fun v24 => lt_ ((x2 / 5000 : Int32)) (fun v25 => lt_ ((v20 + 1 : Int32)) (fun v26 => gd (nz v26) ( lt_ ((v25 - v25 / v26 * v26 : Int32)) (fun v28 => bd3 (fw_setMachine Ls Hs s0 v18 v24 v28 v20) (fun r30 Ls31 Hs32 => some (r30, Ls31, Hs32))))))))))))))) else (if r1 = 2 then lt_ ((x2 / 8 : Int32)) (fun v34 => lt_ ((v34 - v34 / 9 * 9 : Int32)) (fun v35 => bd3 (fw_setCapacity Ls Hs s0 v35) (fun r37 Ls38 Hs39 => some (r37, Ls38, Hs39)))) else (if r1 = 3 then bd (f_X5_now Ls) (fun r41 => lt_ ((r41 + 1 : Int32)) (fun v43 => lt_ ((x2 / 8 : Int32)) (fun v44 => lt_ ((v44 - v44 / 50 * 50 : Int32)) (fun v45 => lt_ ((v43 + v45 : Int32)) (fun v46 => lt_ ((x2 / 400 : Int32)) (fun v47 => lt_ ((v47 - v47 / 30 * 30 : Int32)) (fun v48 => lt_ ((1 + v48 : Int32)) (fun v49 => bd3 (fw_addStop Ls Hs s0 v46 v49) (fun r51 Ls52 Hs53 => some (r51, Ls52, Hs53)))))))))) else (if r1 = 4 then lt_ ((x2 - x2 / 1000000 * 1000000 : Int32)) (fun v55 => lt_ ((x2 - x2 / 60 * 60 : Int32)) (fun v56 => lt_ ((1 + v56 : Int32)) (fun v57 => lt_ ((x2 - x2 / 17 * 17 : Int32)) (fun v58 => lt_ ((1 + v58 : Int32)) (fun v59 => lt_ ((x2 - x2 / 5 * 5 : Int32)) (fun v60 => lt_ ((1 + v60 : Int32)) (fun v61 => bd3 (fw_addRandomStops Ls Hs s0 v55 v57 v59 v61) (fun r63 Ls64 Hs65 => some (r63, Ls64, Hs65))))))))) else (if r1 = 5 then bd3 (f_X5_clearStops Ls Hs) (fun r67 Ls68 Hs69 => some (r67, Ls68, Hs69)) else (if r1 = 6 then lt_ ((x2 - x2 / 3 * 3 : Int32)) (fun v72 => (if ¬ v72 = 0 then lt_ ((x2 - x2 / 3 * 3 : Int32)) (fun v74 => bd3 (fw_run Ls Hs v74) (fun r76 Ls77 Hs78 => some (r76, Ls77, Hs78))) else bd3 (f_X5_restart Ls Hs) (fun r79 Ls80 Hs81 => some (r79, Ls80, Hs81)))) else lt_ ((x2 - x2 / 5 * 5 : Int32)) (fun v84 => (if ¬ v84 = 0 then lt_ ((x2 / 5 : Int32)) (fun v86 => lt_ ((v86 - v86 / 7 * 7 : Int32)) (fun v87 => f_L_acts_b271 Ls Hs v87)) else lt_ ((x2 / 5 : Int32)) (fun v88 => lt_ ((v88 - v88 / 90 * 90 : Int32)) (fun v89 => f_L_acts_b271 Ls Hs v89))))))))))))
def f_L_acts (Ls : Nat → SL) (Hs : SL) (x1 : Int32) (x2 : Int32) : Option (Int32 × (Nat → SL) × SL) :=
  bd (f_X5_size Ls 0) (fun r1 => (if ¬ r1 = 0 then gd (nz r1) ( lt_ ((x2 - x2 / r1 * r1 : Int32)) (fun v5 => f_L_acts_b17 Ls Hs x1 x2 v5)) else  f_L_acts_b17 Ls Hs x1 x2 0))
section GEN
variable {p : Program} {l : Launch} {e : Env} {s : State} {m : MethodId} {args : Array Value} {below : List Frame} {meth : Method} {c : Code} {D : va_G} {cs : Nat → ClassId} {ad : Nat → Nat}
/-! L low -/
abbrev rmL_low : Room := { frames := 0, cells := 0, slots := 0, locals := 0 }
set_option maxRecDepth 100000 in
set_option maxHeartbeats 4000000 in
theorem w_L_low_e {res : Int32} (C : Cx p s m args meth c cL_low 2 (some .int) RL wsW_low) (G : Gx D cs ad s) (X : XS ad s.heap.size s s.heap) (N : NC s) (Y : YC s) (hfl : l.stackTraces = false) {Ls : Nat → SL} {Hs : SL} {T : SL} {x0 : Int32} {x1 : Int32} {H : Heap} {locs : List Loc} {ls : Array Slot} (hP : va_P D vwCl (wA cs ad Ls Hs T) H) (hS : va_S (Afr ad s.heap.size) s.heap H locs) (hl : lv_has ls 2 [(0, .int x0), (1, .int x1)]) (h : f_L_low x0 x1 = some res) : W p l e rmL_low s m args below meth c H locs 0 0 (MQ below (va_Qi (fun r' (_ : Unit) => r' = res) (fun _ t => va_P D vwCl (wA cs ad Ls Hs T) t.heap) (Afr ad s.heap.size)) args s 0 0 (Afr ad s.heap.size)) (F0 m 0 ls []) := by
  unfold f_L_low at h
  refine lv_iload_n C.1 C.2.1 dL_low_0 rfl (lv_at hl 0 rfl) ?_
  refine k_ldci C G (List.mem_cons_of_mem _ lk_8) dL_low_1 ?_
  obtain ⟨v1, ev1, h⟩ := lt_out h
  refine k_iand C ev1 dL_low_3 ?_
  refine lv_iload_n C.1 C.2.1 dL_low_4 rfl (lv_at hl 1 rfl) ?_
  obtain ⟨g2, h⟩ := gd_out h
  have g2 := nz_ne g2
  obtain ⟨v3, ev3, h⟩ := lt_out h
  refine k_irem C g2 ev3 dL_low_5 ?_
  cases h
  refine W.widen (k := 0) (n := 0) (by omega) (by omega) ?_
  exact k_iret C hP hS dL_low_6
set_option maxRecDepth 100000 in
set_option maxHeartbeats 4000000 in
theorem m_L_low (l : Launch) (hfl : l.stackTraces = false) {D : va_G} {cs : Nat → ClassId} {ad : Nat → Nat} (hAd : adOK ad) (sz : Nat) {Ls : Nat → SL} {Hs : SL} {T : SL} {x0 : Int32} {x1 : Int32} {res : Int32} (h : f_L_low x0 x1 = some res) : Met l yL_low wsW_low rmL_low (PW D cs ad sz (wA cs ad Ls Hs T) [.int x0, .int x1]) (va_Qi (fun r' (_ : Unit) => r' = res) (fun _ t => va_P D vwCl (wA cs ad Ls Hs T) t.heap) (Afr ad sz)) 0 0 (Afr ad sz) :=
  k_metP (by decide) rfl (Nat.le_of_ble_eq_true rfl) hAd (fun p e s m below meth c ls C G X N Y hP hsz hl hS => by
    subst hsz
    exact w_L_low_e C G X N Y hfl hP hS hl h)
/-! L print -/
abbrev rmL_print : Room := { frames := 9, cells := 0, slots := 0, locals := 163 }
set_option maxRecDepth 100000 in
set_option maxHeartbeats 4000000 in
theorem w_L_print_b102 {res : Int64} (C : Cx p s m args meth c cL_print 5 (some .long) RL wsW_print) (G : Gx D cs ad s) (X : XS ad s.heap.size s s.heap) (N : NC s) (Y : YC s) (hfl : l.stackTraces = false) {Hs : SL} {T : SL} {Ls : Nat → SL} {K29 : (Nat → SL) → Int64 → Int32 → Option (Int64)} (hK29 : ∀ {y1 : Int64} {x3 : Int32} {H : Heap} {locs : List Loc} {ls : Array Slot}, va_P D vwCl (wA cs ad Ls Hs T) H → va_S (Afr ad s.heap.size) s.heap H locs → lv_has ls 5 [(0, .ref (ad 0)), (1, .long y1), (3, .int x3)] → K29 Ls y1 x3 = some res → W p l e rmL_print s m args below meth c H locs 0 0 (MQ below (va_Ql (fun r' (_ : Unit) => r' = res) (fun _ t => va_P D vwCl (wA cs ad Ls Hs T) t.heap) (Afr ad s.heap.size)) args s 0 0 (Afr ad s.heap.size)) (F0 m 29 ls [])) {K102 : (Nat → SL) → Int64 → Int32 → Int32 → Option (Int64)} (hK102 : ∀ {y1 : Int64} {x3 : Int32} {x4 : Int32} {H : Heap} {locs : List Loc} {ls : Array Slot}, va_P D vwCl (wA cs ad Ls Hs T) H → va_S (Afr ad s.heap.size) s.heap H locs → lv_has ls 5 [(0, .ref (ad 0)), (1, .long y1), (3, .int x3), (4, .int x4)] → K102 Ls y1 x3 x4 = some res → W p l e rmL_print s m args below meth c H locs 0 0 (MQ below (va_Ql (fun r' (_ : Unit) => r' = res) (fun _ t => va_P D vwCl (wA cs ad Ls Hs T) t.heap) (Afr ad s.heap.size)) args s 0 0 (Afr ad s.heap.size)) (F0 m 102 ls [])) {y1 : Int64} {x3 : Int32} {x4 : Int32} {H : Heap} {locs : List Loc} {ls : Array Slot} (hP : va_P D vwCl (wA cs ad Ls Hs T) H) (hS : va_S (Afr ad s.heap.size) s.heap H locs) (hl : lv_has ls 5 [(0, .ref (ad 0)), (1, .long y1), (3, .int x3), (4, .int x4)]) (h : f_L_print_b102 K29 K102 Ls y1 x3 x4 = some res) : W p l e rmL_print s m args below meth c H locs 0 0 (MQ below (va_Ql (fun r' (_ : Unit) => r' = res) (fun _ t => va_P D vwCl (wA cs ad Ls Hs T) t.heap) (Afr ad s.heap.size)) args s 0 0 (Afr ad s.heap.size)) (F0 m 102 ls []) := by
  unfold f_L_print_b102 at h
  refine lv_iload C.1 C.2.1 dL_print_102 (lv_at hl 3 rfl) ?_
  refine lv_iconst (v := 4) C.1 C.2.1 dL_print_104 (by decide) ?_
  refine lv_icmp_ge (tgt := 129) C.1 C.2.1 dL_print_105 (by decide) (fun c1 => ?_) (fun c1 => ?_)
  · have h := if_t c1 h
    obtain ⟨z2, ez2, h⟩ := lt_out h
    refine lv_iinc (v := z2) (lv' := [(3, .int z2), (0, .ref (ad 0)), (1, .long y1), (4, .int x4)]) C.1 C.2.1 dL_print_129 hl (k := 2) rfl (by rw [ez2]; rfl) (by decide) rfl (fun ls hl => ?_)
    refine lv_goto (tgt := 29) C.1 C.2.1 dL_print_132 (by decide) ?_
    refine W.widen (k := 0) (n := 0) (by omega) (by omega) ?_
    exact hK29 hP hS (lv_sub hl [1, 2, 0] rfl)  h
  · have h := if_f c1 h
    refine k_ldcl C G (List.mem_cons_of_mem _ lk_79) dL_print_108 ?_
    refine lv_lload_n C.1 C.2.1 dL_print_111 rfl (lv_at hl 1 rfl) ?_
    obtain ⟨w3, ew3, h⟩ := lt_out h
    refine k_lmul C ew3 dL_print_112 ?_
    refine lv_aload_n C.1 C.2.1 dL_print_113 rfl (lv_at hl 0 rfl) ?_
    refine lv_iload_n C.1 C.2.1 dL_print_114 rfl (lv_at hl 2 rfl) ?_
    refine lv_iload C.1 C.2.1 dL_print_115 (lv_at hl 3 rfl) ?_
    obtain ⟨r5, c4, h⟩ := bd_out h
    refine k_callSWi C G X N Y hP hS (o_L_machine l G.2.1 _ (okv_out c4)) (vx_cwSW 3 C.2.2.2.2.2.1 (lwG_cons wl_machine) rfl rfl rfl (by decide +kernel) ⟨Nat.le_of_ble_eq_true rfl, Nat.le_of_ble_eq_true rfl⟩) (As := [.ref (ad 0), .int x3, .int x4]) rfl hl.1 rfl (Nat.le_of_ble_eq_true rfl) dL_print_117 ⟨Nat.le_of_ble_eq_true rfl, Nat.le_of_ble_eq_true rfl⟩ (fun H locs hP hS => ?_)
    obtain ⟨w6, ew6, h⟩ := lt_out h
    refine k_i2l C ew6 dL_print_120 ?_
    obtain ⟨w7, ew7, h⟩ := lt_out h
    refine k_ladd C ew7 dL_print_121 ?_
    refine lv_lstore_n (lv' := [(1, .long w7), (0, .ref (ad 0)), (3, .int x3), (4, .int x4)]) C.1 C.2.1 dL_print_122 rfl hl (by decide) rfl (fun ls hl => ?_)
    obtain ⟨z8, ez8, h⟩ := lt_out h
    refine lv_iinc (v := z8) (lv' := [(4, .int z8), (1, .long w7), (0, .ref (ad 0)), (3, .int x3)]) C.1 C.2.1 dL_print_123 hl (k := 3) rfl (by rw [ez8]; rfl) (by decide) rfl (fun ls hl => ?_)
    refine lv_goto (tgt := 102) C.1 C.2.1 dL_print_126 (by decide) ?_
    refine W.widen (k := 0) (n := 0) (by omega) (by omega) ?_
    exact hK102 hP hS (lv_sub hl [2, 1, 3, 0] rfl)  h
set_option maxRecDepth 100000 in
set_option maxHeartbeats 4000000 in
theorem w_L_print_h102 {res : Int64} (C : Cx p s m args meth c cL_print 5 (some .long) RL wsW_print) (G : Gx D cs ad s) (X : XS ad s.heap.size s s.heap) (N : NC s) (Y : YC s) (hfl : l.stackTraces = false) {Hs : SL} {T : SL} {Ls : Nat → SL} {K29 : (Nat → SL) → Int64 → Int32 → Option (Int64)} (hK29 : ∀ {y1 : Int64} {x3 : Int32} {H : Heap} {locs : List Loc} {ls : Array Slot}, va_P D vwCl (wA cs ad Ls Hs T) H → va_S (Afr ad s.heap.size) s.heap H locs → lv_has ls 5 [(0, .ref (ad 0)), (1, .long y1), (3, .int x3)] → K29 Ls y1 x3 = some res → W p l e rmL_print s m args below meth c H locs 0 0 (MQ below (va_Ql (fun r' (_ : Unit) => r' = res) (fun _ t => va_P D vwCl (wA cs ad Ls Hs T) t.heap) (Afr ad s.heap.size)) args s 0 0 (Afr ad s.heap.size)) (F0 m 29 ls [])) : ∀ (n : Nat) {y1 : Int64} {x3 : Int32} {x4 : Int32} {H : Heap} {locs : List Loc} {ls : Array Slot}, va_P D vwCl (wA cs ad Ls Hs T) H → va_S (Afr ad s.heap.size) s.heap H locs → lv_has ls 5 [(0, .ref (ad 0)), (1, .long y1), (3, .int x3), (4, .int x4)] → f_L_print_h102 K29 n Ls y1 x3 x4 = some res → W p l e rmL_print s m args below meth c H locs 0 0 (MQ below (va_Ql (fun r' (_ : Unit) => r' = res) (fun _ t => va_P D vwCl (wA cs ad Ls Hs T) t.heap) (Afr ad s.heap.size)) args s 0 0 (Afr ad s.heap.size)) (F0 m 102 ls []) := by
  intro n
  induction n with
  | zero => intro  y1 x3 x4 H locs ls hP hS hl  h; cases h
  | succ n ih => intro  y1 x3 x4 H locs ls hP hS hl  h; exact w_L_print_b102 C G X N Y hfl  hK29 ih hP hS hl  h
set_option maxRecDepth 100000 in
set_option maxHeartbeats 4000000 in
theorem w_L_print_b72 {res : Int64} (C : Cx p s m args meth c cL_print 5 (some .long) RL wsW_print) (G : Gx D cs ad s) (X : XS ad s.heap.size s s.heap) (N : NC s) (Y : YC s) (hfl : l.stackTraces = false) {Hs : SL} {T : SL} {Ls : Nat → SL} {K29 : (Nat → SL) → Int64 → Int32 → Option (Int64)} (hK29 : ∀ {y1 : Int64} {x3 : Int32} {H : Heap} {locs : List Loc} {ls : Array Slot}, va_P D vwCl (wA cs ad Ls Hs T) H → va_S (Afr ad s.heap.size) s.heap H locs → lv_has ls 5 [(0, .ref (ad 0)), (1, .long y1), (3, .int x3)] → K29 Ls y1 x3 = some res → W p l e rmL_print s m args below meth c H locs 0 0 (MQ below (va_Ql (fun r' (_ : Unit) => r' = res) (fun _ t => va_P D vwCl (wA cs ad Ls Hs T) t.heap) (Afr ad s.heap.size)) args s 0 0 (Afr ad s.heap.size)) (F0 m 29 ls [])) {K72 : (Nat → SL) → Int64 → Int32 → Int32 → Option (Int64)} (hK72 : ∀ {y1 : Int64} {x3 : Int32} {x4 : Int32} {H : Heap} {locs : List Loc} {ls : Array Slot}, va_P D vwCl (wA cs ad Ls Hs T) H → va_S (Afr ad s.heap.size) s.heap H locs → lv_has ls 5 [(0, .ref (ad 0)), (1, .long y1), (3, .int x3), (4, .int x4)] → K72 Ls y1 x3 x4 = some res → W p l e rmL_print s m args below meth c H locs 0 0 (MQ below (va_Ql (fun r' (_ : Unit) => r' = res) (fun _ t => va_P D vwCl (wA cs ad Ls Hs T) t.heap) (Afr ad s.heap.size)) args s 0 0 (Afr ad s.heap.size)) (F0 m 72 ls [])) {y1 : Int64} {x3 : Int32} {x4 : Int32} {H : Heap} {locs : List Loc} {ls : Array Slot} (hP : va_P D vwCl (wA cs ad Ls Hs T) H) (hS : va_S (Afr ad s.heap.size) s.heap H locs) (hl : lv_has ls 5 [(0, .ref (ad 0)), (1, .long y1), (3, .int x3), (4, .int x4)]) (h : f_L_print_b72 K29 K72 Ls y1 x3 x4 = some res) : W p l e rmL_print s m args below meth c H locs 0 0 (MQ below (va_Ql (fun r' (_ : Unit) => r' = res) (fun _ t => va_P D vwCl (wA cs ad Ls Hs T) t.heap) (Afr ad s.heap.size)) args s 0 0 (Afr ad s.heap.size)) (F0 m 72 ls []) := by
  unfold f_L_print_b72 at h
  refine lv_iload C.1 C.2.1 dL_print_72 (lv_at hl 3 rfl) ?_
  refine lv_iconst (v := 5) C.1 C.2.1 dL_print_74 (by decide) ?_
  refine lv_icmp_ge (tgt := 99) C.1 C.2.1 dL_print_75 (by decide) (fun c1 => ?_) (fun c1 => ?_)
  · have h := if_t c1 h
    refine lv_iconst (v := 0) C.1 C.2.1 dL_print_99 (by decide) ?_
    refine lv_istore (lv' := [(4, .int 0), (0, .ref (ad 0)), (1, .long y1), (3, .int x3)]) C.1 C.2.1 dL_print_100 hl (by decide) rfl (fun ls hl => ?_)
    refine W.widen (k := 0) (n := 0) (by omega) (by omega) ?_
    exact w_L_print_h102 C G X N Y hfl hK29 fuel hP hS (lv_sub hl [1, 2, 3, 0] rfl) h
  · have h := if_f c1 h
    refine k_ldcl C G (List.mem_cons_of_mem _ lk_79) dL_print_78 ?_
    refine lv_lload_n C.1 C.2.1 dL_print_81 rfl (lv_at hl 1 rfl) ?_
    obtain ⟨w2, ew2, h⟩ := lt_out h
    refine k_lmul C ew2 dL_print_82 ?_
    refine lv_aload_n C.1 C.2.1 dL_print_83 rfl (lv_at hl 0 rfl) ?_
    refine lv_iload_n C.1 C.2.1 dL_print_84 rfl (lv_at hl 2 rfl) ?_
    refine lv_iload C.1 C.2.1 dL_print_85 (lv_at hl 3 rfl) ?_
    obtain ⟨r4, c3, h⟩ := bd_out h
    refine k_callSWi C G X N Y hP hS (o_L_setting l G.2.1 _ (okv_out c3)) (vx_cwSW 3 C.2.2.2.2.2.1 (lwG_cons wl_setting) rfl rfl rfl (by decide +kernel) ⟨Nat.le_of_ble_eq_true rfl, Nat.le_of_ble_eq_true rfl⟩) (As := [.ref (ad 0), .int x3, .int x4]) rfl hl.1 rfl (Nat.le_of_ble_eq_true rfl) dL_print_87 ⟨Nat.le_of_ble_eq_true rfl, Nat.le_of_ble_eq_true rfl⟩ (fun H locs hP hS => ?_)
    obtain ⟨w5, ew5, h⟩ := lt_out h
    refine k_i2l C ew5 dL_print_90 ?_
    obtain ⟨w6, ew6, h⟩ := lt_out h
    refine k_ladd C ew6 dL_print_91 ?_
    refine lv_lstore_n (lv' := [(1, .long w6), (0, .ref (ad 0)), (3, .int x3), (4, .int x4)]) C.1 C.2.1 dL_print_92 rfl hl (by decide) rfl (fun ls hl => ?_)
    obtain ⟨z7, ez7, h⟩ := lt_out h
    refine lv_iinc (v := z7) (lv' := [(4, .int z7), (1, .long w6), (0, .ref (ad 0)), (3, .int x3)]) C.1 C.2.1 dL_print_93 hl (k := 3) rfl (by rw [ez7]; rfl) (by decide) rfl (fun ls hl => ?_)
    refine lv_goto (tgt := 72) C.1 C.2.1 dL_print_96 (by decide) ?_
    refine W.widen (k := 0) (n := 0) (by omega) (by omega) ?_
    exact hK72 hP hS (lv_sub hl [2, 1, 3, 0] rfl)  h
set_option maxRecDepth 100000 in
set_option maxHeartbeats 4000000 in
theorem w_L_print_h72 {res : Int64} (C : Cx p s m args meth c cL_print 5 (some .long) RL wsW_print) (G : Gx D cs ad s) (X : XS ad s.heap.size s s.heap) (N : NC s) (Y : YC s) (hfl : l.stackTraces = false) {Hs : SL} {T : SL} {Ls : Nat → SL} {K29 : (Nat → SL) → Int64 → Int32 → Option (Int64)} (hK29 : ∀ {y1 : Int64} {x3 : Int32} {H : Heap} {locs : List Loc} {ls : Array Slot}, va_P D vwCl (wA cs ad Ls Hs T) H → va_S (Afr ad s.heap.size) s.heap H locs → lv_has ls 5 [(0, .ref (ad 0)), (1, .long y1), (3, .int x3)] → K29 Ls y1 x3 = some res → W p l e rmL_print s m args below meth c H locs 0 0 (MQ below (va_Ql (fun r' (_ : Unit) => r' = res) (fun _ t => va_P D vwCl (wA cs ad Ls Hs T) t.heap) (Afr ad s.heap.size)) args s 0 0 (Afr ad s.heap.size)) (F0 m 29 ls [])) : ∀ (n : Nat) {y1 : Int64} {x3 : Int32} {x4 : Int32} {H : Heap} {locs : List Loc} {ls : Array Slot}, va_P D vwCl (wA cs ad Ls Hs T) H → va_S (Afr ad s.heap.size) s.heap H locs → lv_has ls 5 [(0, .ref (ad 0)), (1, .long y1), (3, .int x3), (4, .int x4)] → f_L_print_h72 K29 n Ls y1 x3 x4 = some res → W p l e rmL_print s m args below meth c H locs 0 0 (MQ below (va_Ql (fun r' (_ : Unit) => r' = res) (fun _ t => va_P D vwCl (wA cs ad Ls Hs T) t.heap) (Afr ad s.heap.size)) args s 0 0 (Afr ad s.heap.size)) (F0 m 72 ls []) := by
  intro n
  induction n with
  | zero => intro  y1 x3 x4 H locs ls hP hS hl  h; cases h
  | succ n ih => intro  y1 x3 x4 H locs ls hP hS hl  h; exact w_L_print_b72 C G X N Y hfl  hK29 ih hP hS hl  h
set_option maxRecDepth 100000 in
set_option maxHeartbeats 4000000 in
theorem w_L_print_b41 {res : Int64} (C : Cx p s m args meth c cL_print 5 (some .long) RL wsW_print) (G : Gx D cs ad s) (X : XS ad s.heap.size s s.heap) (N : NC s) (Y : YC s) (hfl : l.stackTraces = false) {Hs : SL} {T : SL} {Ls : Nat → SL} {K29 : (Nat → SL) → Int64 → Int32 → Option (Int64)} (hK29 : ∀ {y1 : Int64} {x3 : Int32} {H : Heap} {locs : List Loc} {ls : Array Slot}, va_P D vwCl (wA cs ad Ls Hs T) H → va_S (Afr ad s.heap.size) s.heap H locs → lv_has ls 5 [(0, .ref (ad 0)), (1, .long y1), (3, .int x3)] → K29 Ls y1 x3 = some res → W p l e rmL_print s m args below meth c H locs 0 0 (MQ below (va_Ql (fun r' (_ : Unit) => r' = res) (fun _ t => va_P D vwCl (wA cs ad Ls Hs T) t.heap) (Afr ad s.heap.size)) args s 0 0 (Afr ad s.heap.size)) (F0 m 29 ls [])) {K41 : (Nat → SL) → Int64 → Int32 → Int32 → Option (Int64)} (hK41 : ∀ {y1 : Int64} {x3 : Int32} {x4 : Int32} {H : Heap} {locs : List Loc} {ls : Array Slot}, va_P D vwCl (wA cs ad Ls Hs T) H → va_S (Afr ad s.heap.size) s.heap H locs → lv_has ls 5 [(0, .ref (ad 0)), (1, .long y1), (3, .int x3), (4, .int x4)] → K41 Ls y1 x3 x4 = some res → W p l e rmL_print s m args below meth c H locs 0 0 (MQ below (va_Ql (fun r' (_ : Unit) => r' = res) (fun _ t => va_P D vwCl (wA cs ad Ls Hs T) t.heap) (Afr ad s.heap.size)) args s 0 0 (Afr ad s.heap.size)) (F0 m 41 ls [])) {y1 : Int64} {x3 : Int32} {x4 : Int32} {H : Heap} {locs : List Loc} {ls : Array Slot} (hP : va_P D vwCl (wA cs ad Ls Hs T) H) (hS : va_S (Afr ad s.heap.size) s.heap H locs) (hl : lv_has ls 5 [(0, .ref (ad 0)), (1, .long y1), (3, .int x3), (4, .int x4)]) (h : f_L_print_b41 K29 K41 Ls y1 x3 x4 = some res) : W p l e rmL_print s m args below meth c H locs 0 0 (MQ below (va_Ql (fun r' (_ : Unit) => r' = res) (fun _ t => va_P D vwCl (wA cs ad Ls Hs T) t.heap) (Afr ad s.heap.size)) args s 0 0 (Afr ad s.heap.size)) (F0 m 41 ls []) := by
  unfold f_L_print_b41 at h
  refine lv_iload C.1 C.2.1 dL_print_41 (lv_at hl 3 rfl) ?_
  refine lv_bipush (v := 6) C.1 C.2.1 dL_print_43 (by decide) ?_
  refine lv_icmp_ge (tgt := 69) C.1 C.2.1 dL_print_45 (by decide) (fun c1 => ?_) (fun c1 => ?_)
  · have h := if_t c1 h
    refine lv_iconst (v := 0) C.1 C.2.1 dL_print_69 (by decide) ?_
    refine lv_istore (lv' := [(4, .int 0), (0, .ref (ad 0)), (1, .long y1), (3, .int x3)]) C.1 C.2.1 dL_print_70 hl (by decide) rfl (fun ls hl => ?_)
    refine W.widen (k := 0) (n := 0) (by omega) (by omega) ?_
    exact w_L_print_h72 C G X N Y hfl hK29 fuel hP hS (lv_sub hl [1, 2, 3, 0] rfl) h
  · have h := if_f c1 h
    refine k_ldcl C G (List.mem_cons_of_mem _ lk_79) dL_print_48 ?_
    refine lv_lload_n C.1 C.2.1 dL_print_51 rfl (lv_at hl 1 rfl) ?_
    obtain ⟨w2, ew2, h⟩ := lt_out h
    refine k_lmul C ew2 dL_print_52 ?_
    refine lv_aload_n C.1 C.2.1 dL_print_53 rfl (lv_at hl 0 rfl) ?_
    refine lv_iload_n C.1 C.2.1 dL_print_54 rfl (lv_at hl 2 rfl) ?_
    refine lv_iload C.1 C.2.1 dL_print_55 (lv_at hl 3 rfl) ?_
    obtain ⟨r4, c3, h⟩ := bd_out h
    refine k_callSWi C G X N Y hP hS (o_L_count l G.2.1 _ (okv_out c3)) (vx_cwSW 3 C.2.2.2.2.2.1 (lwG_cons wl_count) rfl rfl rfl (by decide +kernel) ⟨Nat.le_of_ble_eq_true rfl, Nat.le_of_ble_eq_true rfl⟩) (As := [.ref (ad 0), .int x3, .int x4]) rfl hl.1 rfl (Nat.le_of_ble_eq_true rfl) dL_print_57 ⟨Nat.le_of_ble_eq_true rfl, Nat.le_of_ble_eq_true rfl⟩ (fun H locs hP hS => ?_)
    obtain ⟨w5, ew5, h⟩ := lt_out h
    refine k_i2l C ew5 dL_print_60 ?_
    obtain ⟨w6, ew6, h⟩ := lt_out h
    refine k_ladd C ew6 dL_print_61 ?_
    refine lv_lstore_n (lv' := [(1, .long w6), (0, .ref (ad 0)), (3, .int x3), (4, .int x4)]) C.1 C.2.1 dL_print_62 rfl hl (by decide) rfl (fun ls hl => ?_)
    obtain ⟨z7, ez7, h⟩ := lt_out h
    refine lv_iinc (v := z7) (lv' := [(4, .int z7), (1, .long w6), (0, .ref (ad 0)), (3, .int x3)]) C.1 C.2.1 dL_print_63 hl (k := 3) rfl (by rw [ez7]; rfl) (by decide) rfl (fun ls hl => ?_)
    refine lv_goto (tgt := 41) C.1 C.2.1 dL_print_66 (by decide) ?_
    refine W.widen (k := 0) (n := 0) (by omega) (by omega) ?_
    exact hK41 hP hS (lv_sub hl [2, 1, 3, 0] rfl)  h
set_option maxRecDepth 100000 in
set_option maxHeartbeats 4000000 in
theorem w_L_print_h41 {res : Int64} (C : Cx p s m args meth c cL_print 5 (some .long) RL wsW_print) (G : Gx D cs ad s) (X : XS ad s.heap.size s s.heap) (N : NC s) (Y : YC s) (hfl : l.stackTraces = false) {Hs : SL} {T : SL} {Ls : Nat → SL} {K29 : (Nat → SL) → Int64 → Int32 → Option (Int64)} (hK29 : ∀ {y1 : Int64} {x3 : Int32} {H : Heap} {locs : List Loc} {ls : Array Slot}, va_P D vwCl (wA cs ad Ls Hs T) H → va_S (Afr ad s.heap.size) s.heap H locs → lv_has ls 5 [(0, .ref (ad 0)), (1, .long y1), (3, .int x3)] → K29 Ls y1 x3 = some res → W p l e rmL_print s m args below meth c H locs 0 0 (MQ below (va_Ql (fun r' (_ : Unit) => r' = res) (fun _ t => va_P D vwCl (wA cs ad Ls Hs T) t.heap) (Afr ad s.heap.size)) args s 0 0 (Afr ad s.heap.size)) (F0 m 29 ls [])) : ∀ (n : Nat) {y1 : Int64} {x3 : Int32} {x4 : Int32} {H : Heap} {locs : List Loc} {ls : Array Slot}, va_P D vwCl (wA cs ad Ls Hs T) H → va_S (Afr ad s.heap.size) s.heap H locs → lv_has ls 5 [(0, .ref (ad 0)), (1, .long y1), (3, .int x3), (4, .int x4)] → f_L_print_h41 K29 n Ls y1 x3 x4 = some res → W p l e rmL_print s m args below meth c H locs 0 0 (MQ below (va_Ql (fun r' (_ : Unit) => r' = res) (fun _ t => va_P D vwCl (wA cs ad Ls Hs T) t.heap) (Afr ad s.heap.size)) args s 0 0 (Afr ad s.heap.size)) (F0 m 41 ls []) := by
  intro n
  induction n with
  | zero => intro  y1 x3 x4 H locs ls hP hS hl  h; cases h
  | succ n ih => intro  y1 x3 x4 H locs ls hP hS hl  h; exact w_L_print_b41 C G X N Y hfl  hK29 ih hP hS hl  h
set_option maxRecDepth 100000 in
set_option maxHeartbeats 4000000 in
theorem w_L_print_b137 {res : Int64} (C : Cx p s m args meth c cL_print 5 (some .long) RL wsW_print) (G : Gx D cs ad s) (X : XS ad s.heap.size s s.heap) (N : NC s) (Y : YC s) (hfl : l.stackTraces = false) {Hs : SL} {T : SL} {Ls : Nat → SL} {K137 : (Nat → SL) → Int64 → Int32 → Option (Int64)} (hK137 : ∀ {y1 : Int64} {x3 : Int32} {H : Heap} {locs : List Loc} {ls : Array Slot}, va_P D vwCl (wA cs ad Ls Hs T) H → va_S (Afr ad s.heap.size) s.heap H locs → lv_has ls 5 [(0, .ref (ad 0)), (1, .long y1), (3, .int x3)] → K137 Ls y1 x3 = some res → W p l e rmL_print s m args below meth c H locs 0 0 (MQ below (va_Ql (fun r' (_ : Unit) => r' = res) (fun _ t => va_P D vwCl (wA cs ad Ls Hs T) t.heap) (Afr ad s.heap.size)) args s 0 0 (Afr ad s.heap.size)) (F0 m 137 ls [])) {y1 : Int64} {x3 : Int32} {H : Heap} {locs : List Loc} {ls : Array Slot} (hP : va_P D vwCl (wA cs ad Ls Hs T) H) (hS : va_S (Afr ad s.heap.size) s.heap H locs) (hl : lv_has ls 5 [(0, .ref (ad 0)), (1, .long y1), (3, .int x3)]) (h : f_L_print_b137 K137 Ls y1 x3 = some res) : W p l e rmL_print s m args below meth c H locs 0 0 (MQ below (va_Ql (fun r' (_ : Unit) => r' = res) (fun _ t => va_P D vwCl (wA cs ad Ls Hs T) t.heap) (Afr ad s.heap.size)) args s 0 0 (Afr ad s.heap.size)) (F0 m 137 ls []) := by
  unfold f_L_print_b137 at h
  refine lv_iload_n C.1 C.2.1 dL_print_137 rfl (lv_at hl 2 rfl) ?_
  refine lv_aload_n C.1 C.2.1 dL_print_138 rfl (lv_at hl 0 rfl) ?_
  refine lv_iconst (v := 1) C.1 C.2.1 dL_print_139 (by decide) ?_
  obtain ⟨r1, c2, h⟩ := bd_out h
  refine k_callVi C G hP hS (m_X5_size l G.2.1 _  c2) g_obj rfl (cwV 1 C.2.2.2.2.2.1 (lwG_cons wg_X5_size) rfl rfl rfl (by decide +kernel) ⟨Nat.le_of_ble_eq_true rfl, Nat.le_of_ble_eq_true rfl⟩) (As := [.int 1]) rfl hl.1 rfl (Nat.le_of_ble_eq_true rfl) dL_print_140 ⟨Nat.le_of_ble_eq_true rfl, Nat.le_of_ble_eq_true rfl⟩ (fun H locs hP hS => ?_)
  refine lv_icmp_ge (tgt := 190) C.1 C.2.1 dL_print_143 (by decide) (fun c3 => ?_) (fun c3 => ?_)
  · have h := if_t c3 h
    refine lv_lload_n C.1 C.2.1 dL_print_190 rfl (lv_at hl 1 rfl) ?_
    cases h
    refine W.widen (k := 0) (n := 0) (by omega) (by omega) ?_
    exact k_lret C hP hS dL_print_191
  · have h := if_f c3 h
    refine k_ldcl C G (List.mem_cons_of_mem _ lk_79) dL_print_146 ?_
    refine k_ldcl C G (List.mem_cons_of_mem _ lk_79) dL_print_149 ?_
    refine k_ldcl C G (List.mem_cons_of_mem _ lk_79) dL_print_152 ?_
    refine lv_lload_n C.1 C.2.1 dL_print_155 rfl (lv_at hl 1 rfl) ?_
    obtain ⟨w4, ew4, h⟩ := lt_out h
    refine k_lmul C ew4 dL_print_156 ?_
    refine lv_aload_n C.1 C.2.1 dL_print_157 rfl (lv_at hl 0 rfl) ?_
    refine lv_iload_n C.1 C.2.1 dL_print_158 rfl (lv_at hl 2 rfl) ?_
    refine lv_iconst (v := 0) C.1 C.2.1 dL_print_159 (by decide) ?_
    obtain ⟨r6, c5, h⟩ := bd_out h
    refine k_callSWi C G X N Y hP hS (o_L_stop l G.2.1 _ (okv_out c5)) (vx_cwSW 3 C.2.2.2.2.2.1 (lwG_cons wl_stop) rfl rfl rfl (by decide +kernel) ⟨Nat.le_of_ble_eq_true rfl, Nat.le_of_ble_eq_true rfl⟩) (As := [.ref (ad 0), .int x3, .int 0]) rfl hl.1 rfl (Nat.le_of_ble_eq_true rfl) dL_print_160 ⟨Nat.le_of_ble_eq_true rfl, Nat.le_of_ble_eq_true rfl⟩ (fun H locs hP hS => ?_)
    obtain ⟨w7, ew7, h⟩ := lt_out h
    refine k_i2l C ew7 dL_print_163 ?_
    obtain ⟨w8, ew8, h⟩ := lt_out h
    refine k_ladd C ew8 dL_print_164 ?_
    obtain ⟨w9, ew9, h⟩ := lt_out h
    refine k_lmul C ew9 dL_print_165 ?_
    refine lv_aload_n C.1 C.2.1 dL_print_166 rfl (lv_at hl 0 rfl) ?_
    refine lv_iload_n C.1 C.2.1 dL_print_167 rfl (lv_at hl 2 rfl) ?_
    refine lv_iconst (v := 1) C.1 C.2.1 dL_print_168 (by decide) ?_
    obtain ⟨r11, c10, h⟩ := bd_out h
    refine k_callSWi C G X N Y hP hS (o_L_stop l G.2.1 _ (okv_out c10)) (vx_cwSW 3 C.2.2.2.2.2.1 (lwG_cons wl_stop) rfl rfl rfl (by decide +kernel) ⟨Nat.le_of_ble_eq_true rfl, Nat.le_of_ble_eq_true rfl⟩) (As := [.ref (ad 0), .int x3, .int 1]) rfl hl.1 rfl (Nat.le_of_ble_eq_true rfl) dL_print_169 ⟨Nat.le_of_ble_eq_true rfl, Nat.le_of_ble_eq_true rfl⟩ (fun H locs hP hS => ?_)
    obtain ⟨w12, ew12, h⟩ := lt_out h
    refine k_i2l C ew12 dL_print_172 ?_
    obtain ⟨w13, ew13, h⟩ := lt_out h
    refine k_ladd C ew13 dL_print_173 ?_
    obtain ⟨w14, ew14, h⟩ := lt_out h
    refine k_lmul C ew14 dL_print_174 ?_
    refine lv_aload_n C.1 C.2.1 dL_print_175 rfl (lv_at hl 0 rfl) ?_
    refine lv_iload_n C.1 C.2.1 dL_print_176 rfl (lv_at hl 2 rfl) ?_
    refine lv_iconst (v := 2) C.1 C.2.1 dL_print_177 (by decide) ?_
    obtain ⟨r16, c15, h⟩ := bd_out h
    refine k_callSWi C G X N Y hP hS (o_L_stop l G.2.1 _ (okv_out c15)) (vx_cwSW 3 C.2.2.2.2.2.1 (lwG_cons wl_stop) rfl rfl rfl (by decide +kernel) ⟨Nat.le_of_ble_eq_true rfl, Nat.le_of_ble_eq_true rfl⟩) (As := [.ref (ad 0), .int x3, .int 2]) rfl hl.1 rfl (Nat.le_of_ble_eq_true rfl) dL_print_178 ⟨Nat.le_of_ble_eq_true rfl, Nat.le_of_ble_eq_true rfl⟩ (fun H locs hP hS => ?_)
    obtain ⟨w17, ew17, h⟩ := lt_out h
    refine k_i2l C ew17 dL_print_181 ?_
    obtain ⟨w18, ew18, h⟩ := lt_out h
    refine k_ladd C ew18 dL_print_182 ?_
    refine lv_lstore_n (lv' := [(1, .long w18), (0, .ref (ad 0)), (3, .int x3)]) C.1 C.2.1 dL_print_183 rfl hl (by decide) rfl (fun ls hl => ?_)
    obtain ⟨z19, ez19, h⟩ := lt_out h
    refine lv_iinc (v := z19) (lv' := [(3, .int z19), (1, .long w18), (0, .ref (ad 0))]) C.1 C.2.1 dL_print_184 hl (k := 2) rfl (by rw [ez19]; rfl) (by decide) rfl (fun ls hl => ?_)
    refine lv_goto (tgt := 137) C.1 C.2.1 dL_print_187 (by decide) ?_
    refine W.widen (k := 0) (n := 0) (by omega) (by omega) ?_
    exact hK137 hP hS (lv_sub hl [2, 1, 0] rfl)  h
set_option maxRecDepth 100000 in
set_option maxHeartbeats 4000000 in
theorem w_L_print_h137 {res : Int64} (C : Cx p s m args meth c cL_print 5 (some .long) RL wsW_print) (G : Gx D cs ad s) (X : XS ad s.heap.size s s.heap) (N : NC s) (Y : YC s) (hfl : l.stackTraces = false) {Hs : SL} {T : SL} {Ls : Nat → SL} : ∀ (n : Nat) {y1 : Int64} {x3 : Int32} {H : Heap} {locs : List Loc} {ls : Array Slot}, va_P D vwCl (wA cs ad Ls Hs T) H → va_S (Afr ad s.heap.size) s.heap H locs → lv_has ls 5 [(0, .ref (ad 0)), (1, .long y1), (3, .int x3)] → f_L_print_h137 n Ls y1 x3 = some res → W p l e rmL_print s m args below meth c H locs 0 0 (MQ below (va_Ql (fun r' (_ : Unit) => r' = res) (fun _ t => va_P D vwCl (wA cs ad Ls Hs T) t.heap) (Afr ad s.heap.size)) args s 0 0 (Afr ad s.heap.size)) (F0 m 137 ls []) := by
  intro n
  induction n with
  | zero => intro  y1 x3 H locs ls hP hS hl  h; cases h
  | succ n ih => intro  y1 x3 H locs ls hP hS hl  h; exact w_L_print_b137 C G X N Y hfl   ih hP hS hl  h
set_option maxRecDepth 100000 in
set_option maxHeartbeats 4000000 in
theorem w_L_print_b29 {res : Int64} (C : Cx p s m args meth c cL_print 5 (some .long) RL wsW_print) (G : Gx D cs ad s) (X : XS ad s.heap.size s s.heap) (N : NC s) (Y : YC s) (hfl : l.stackTraces = false) {Hs : SL} {T : SL} {Ls : Nat → SL} {K29 : (Nat → SL) → Int64 → Int32 → Option (Int64)} (hK29 : ∀ {y1 : Int64} {x3 : Int32} {H : Heap} {locs : List Loc} {ls : Array Slot}, va_P D vwCl (wA cs ad Ls Hs T) H → va_S (Afr ad s.heap.size) s.heap H locs → lv_has ls 5 [(0, .ref (ad 0)), (1, .long y1), (3, .int x3)] → K29 Ls y1 x3 = some res → W p l e rmL_print s m args below meth c H locs 0 0 (MQ below (va_Ql (fun r' (_ : Unit) => r' = res) (fun _ t => va_P D vwCl (wA cs ad Ls Hs T) t.heap) (Afr ad s.heap.size)) args s 0 0 (Afr ad s.heap.size)) (F0 m 29 ls [])) {y1 : Int64} {x3 : Int32} {H : Heap} {locs : List Loc} {ls : Array Slot} (hP : va_P D vwCl (wA cs ad Ls Hs T) H) (hS : va_S (Afr ad s.heap.size) s.heap H locs) (hl : lv_has ls 5 [(0, .ref (ad 0)), (1, .long y1), (3, .int x3)]) (h : f_L_print_b29 K29 Ls y1 x3 = some res) : W p l e rmL_print s m args below meth c H locs 0 0 (MQ below (va_Ql (fun r' (_ : Unit) => r' = res) (fun _ t => va_P D vwCl (wA cs ad Ls Hs T) t.heap) (Afr ad s.heap.size)) args s 0 0 (Afr ad s.heap.size)) (F0 m 29 ls []) := by
  unfold f_L_print_b29 at h
  refine lv_iload_n C.1 C.2.1 dL_print_29 rfl (lv_at hl 2 rfl) ?_
  refine lv_aload_n C.1 C.2.1 dL_print_30 rfl (lv_at hl 0 rfl) ?_
  refine lv_iconst (v := 0) C.1 C.2.1 dL_print_31 (by decide) ?_
  obtain ⟨r1, c2, h⟩ := bd_out h
  refine k_callVi C G hP hS (m_X5_size l G.2.1 _  c2) g_obj rfl (cwV 1 C.2.2.2.2.2.1 (lwG_cons wg_X5_size) rfl rfl rfl (by decide +kernel) ⟨Nat.le_of_ble_eq_true rfl, Nat.le_of_ble_eq_true rfl⟩) (As := [.int 0]) rfl hl.1 rfl (Nat.le_of_ble_eq_true rfl) dL_print_32 ⟨Nat.le_of_ble_eq_true rfl, Nat.le_of_ble_eq_true rfl⟩ (fun H locs hP hS => ?_)
  refine lv_icmp_ge (tgt := 135) C.1 C.2.1 dL_print_35 (by decide) (fun c3 => ?_) (fun c3 => ?_)
  · have h := if_t c3 h
    refine lv_iconst (v := 0) C.1 C.2.1 dL_print_135 (by decide) ?_
    refine lv_istore_n (lv' := [(3, .int 0), (0, .ref (ad 0)), (1, .long y1)]) C.1 C.2.1 dL_print_136 rfl hl (by decide) rfl (fun ls hl => ?_)
    refine W.widen (k := 0) (n := 0) (by omega) (by omega) ?_
    exact w_L_print_h137 C G X N Y hfl fuel hP hS (lv_sub hl [1, 2, 0] rfl) h
  · have h := if_f c3 h
    refine lv_iconst (v := 0) C.1 C.2.1 dL_print_38 (by decide) ?_
    refine lv_istore (lv' := [(4, .int 0), (0, .ref (ad 0)), (1, .long y1), (3, .int x3)]) C.1 C.2.1 dL_print_39 hl (by decide) rfl (fun ls hl => ?_)
    refine W.widen (k := 0) (n := 0) (by omega) (by omega) ?_
    exact w_L_print_h41 C G X N Y hfl hK29 fuel hP hS (lv_sub hl [1, 2, 3, 0] rfl) h
set_option maxRecDepth 100000 in
set_option maxHeartbeats 4000000 in
theorem w_L_print_h29 {res : Int64} (C : Cx p s m args meth c cL_print 5 (some .long) RL wsW_print) (G : Gx D cs ad s) (X : XS ad s.heap.size s s.heap) (N : NC s) (Y : YC s) (hfl : l.stackTraces = false) {Hs : SL} {T : SL} {Ls : Nat → SL} : ∀ (n : Nat) {y1 : Int64} {x3 : Int32} {H : Heap} {locs : List Loc} {ls : Array Slot}, va_P D vwCl (wA cs ad Ls Hs T) H → va_S (Afr ad s.heap.size) s.heap H locs → lv_has ls 5 [(0, .ref (ad 0)), (1, .long y1), (3, .int x3)] → f_L_print_h29 n Ls y1 x3 = some res → W p l e rmL_print s m args below meth c H locs 0 0 (MQ below (va_Ql (fun r' (_ : Unit) => r' = res) (fun _ t => va_P D vwCl (wA cs ad Ls Hs T) t.heap) (Afr ad s.heap.size)) args s 0 0 (Afr ad s.heap.size)) (F0 m 29 ls []) := by
  intro n
  induction n with
  | zero => intro  y1 x3 H locs ls hP hS hl  h; cases h
  | succ n ih => intro  y1 x3 H locs ls hP hS hl  h; exact w_L_print_b29 C G X N Y hfl   ih hP hS hl  h
set_option maxRecDepth 100000 in
set_option maxHeartbeats 4000000 in
theorem w_L_print_e {res : Int64} (C : Cx p s m args meth c cL_print 5 (some .long) RL wsW_print) (G : Gx D cs ad s) (X : XS ad s.heap.size s s.heap) (N : NC s) (Y : YC s) (hfl : l.stackTraces = false) {Hs : SL} {T : SL} {Ls : Nat → SL} {H : Heap} {locs : List Loc} {ls : Array Slot} (hP : va_P D vwCl (wA cs ad Ls Hs T) H) (hS : va_S (Afr ad s.heap.size) s.heap H locs) (hl : lv_has ls 5 [(0, .ref (ad 0))]) (h : f_L_print Ls = some res) : W p l e rmL_print s m args below meth c H locs 0 0 (MQ below (va_Ql (fun r' (_ : Unit) => r' = res) (fun _ t => va_P D vwCl (wA cs ad Ls Hs T) t.heap) (Afr ad s.heap.size)) args s 0 0 (Afr ad s.heap.size)) (F0 m 0 ls []) := by
  unfold f_L_print at h
  refine k_ldcl C G (List.mem_cons_of_mem _ lk_79) dL_print_0 ?_
  refine k_ldcl C G (List.mem_cons_of_mem _ lk_79) dL_print_3 ?_
  refine lv_aload_n C.1 C.2.1 dL_print_6 rfl (lv_at hl 0 rfl) ?_
  obtain ⟨r1, c2, h⟩ := bd_out h
  refine k_callVi C G hP hS (m_X5_now l G.2.1 _  c2) g_obj rfl (cwV 0 C.2.2.2.2.2.1 (lwG_cons wg_X5_now) rfl rfl rfl (by decide +kernel) ⟨Nat.le_of_ble_eq_true rfl, Nat.le_of_ble_eq_true rfl⟩) (As := []) rfl hl.1 rfl (Nat.le_of_ble_eq_true rfl) dL_print_7 ⟨Nat.le_of_ble_eq_true rfl, Nat.le_of_ble_eq_true rfl⟩ (fun H locs hP hS => ?_)
  obtain ⟨w3, ew3, h⟩ := lt_out h
  refine k_i2l C ew3 dL_print_10 ?_
  obtain ⟨w4, ew4, h⟩ := lt_out h
  refine k_lmul C ew4 dL_print_11 ?_
  refine lv_aload_n C.1 C.2.1 dL_print_12 rfl (lv_at hl 0 rfl) ?_
  obtain ⟨r5, c6, h⟩ := bd_out h
  refine k_callVi C G hP hS (m_X5_output l G.2.1 _  c6) g_obj rfl (cwV 0 C.2.2.2.2.2.1 (lwG_cons wg_X5_output) rfl rfl rfl (by decide +kernel) ⟨Nat.le_of_ble_eq_true rfl, Nat.le_of_ble_eq_true rfl⟩) (As := []) rfl hl.1 rfl (Nat.le_of_ble_eq_true rfl) dL_print_13 ⟨Nat.le_of_ble_eq_true rfl, Nat.le_of_ble_eq_true rfl⟩ (fun H locs hP hS => ?_)
  obtain ⟨w7, ew7, h⟩ := lt_out h
  refine k_i2l C ew7 dL_print_16 ?_
  obtain ⟨w8, ew8, h⟩ := lt_out h
  refine k_ladd C ew8 dL_print_17 ?_
  obtain ⟨w9, ew9, h⟩ := lt_out h
  refine k_lmul C ew9 dL_print_18 ?_
  refine lv_aload_n C.1 C.2.1 dL_print_19 rfl (lv_at hl 0 rfl) ?_
  refine lv_iconst (v := 1) C.1 C.2.1 dL_print_20 (by decide) ?_
  obtain ⟨r10, c11, h⟩ := bd_out h
  refine k_callVi C G hP hS (m_X5_size l G.2.1 _  c11) g_obj rfl (cwV 1 C.2.2.2.2.2.1 (lwG_cons wg_X5_size) rfl rfl rfl (by decide +kernel) ⟨Nat.le_of_ble_eq_true rfl, Nat.le_of_ble_eq_true rfl⟩) (As := [.int 1]) rfl hl.1 rfl (Nat.le_of_ble_eq_true rfl) dL_print_21 ⟨Nat.le_of_ble_eq_true rfl, Nat.le_of_ble_eq_true rfl⟩ (fun H locs hP hS => ?_)
  obtain ⟨w12, ew12, h⟩ := lt_out h
  refine k_i2l C ew12 dL_print_24 ?_
  obtain ⟨w13, ew13, h⟩ := lt_out h
  refine k_ladd C ew13 dL_print_25 ?_
  refine lv_lstore_n (lv' := [(1, .long w13), (0, .ref (ad 0))]) C.1 C.2.1 dL_print_26 rfl hl (by decide) rfl (fun ls hl => ?_)
  refine lv_iconst (v := 0) C.1 C.2.1 dL_print_27 (by decide) ?_
  refine lv_istore_n (lv' := [(3, .int 0), (1, .long w13), (0, .ref (ad 0))]) C.1 C.2.1 dL_print_28 rfl hl (by decide) rfl (fun ls hl => ?_)
  refine W.widen (k := 0) (n := 0) (by omega) (by omega) ?_
  exact w_L_print_h29 C G X N Y hfl fuel hP hS (lv_sub hl [2, 1, 0] rfl) h
set_option maxRecDepth 100000 in
set_option maxHeartbeats 4000000 in
theorem m_L_print (l : Launch) (hfl : l.stackTraces = false) {D : va_G} {cs : Nat → ClassId} {ad : Nat → Nat} (hAd : adOK ad) (sz : Nat) {Ls : Nat → SL} {Hs : SL} {T : SL} {res : Int64} (h : f_L_print Ls = some res) : Met l yL_print wsW_print rmL_print (PW D cs ad sz (wA cs ad Ls Hs T) [.ref (ad 0)]) (va_Ql (fun r' (_ : Unit) => r' = res) (fun _ t => va_P D vwCl (wA cs ad Ls Hs T) t.heap) (Afr ad sz)) 0 0 (Afr ad sz) :=
  k_metP (by decide) rfl (Nat.le_of_ble_eq_true rfl) hAd (fun p e s m below meth c ls C G X N Y hP hsz hl hS => by
    subst hsz
    exact w_L_print_e C G X N Y hfl hP hS hl h)
/-! L refused -/
abbrev rmL_refused : Room := { frames := 10, cells := 30, slots := 180, locals := 187 }
set_option maxRecDepth 100000 in
set_option maxHeartbeats 4000000 in
theorem w_L_refused_b226 {res : Int32 × (Nat → SL) × SL × SL} (C : Cx p s m args meth c cL_refused 4 (some .boolean) RL wsW_refused) (G : Gx D cs ad s) (X : XS ad s.heap.size s s.heap) (N : NC s) (Y : YC s) (hfl : l.stackTraces = false) {Ls : Nat → SL} {Hs : SL} {T : SL} {H : Heap} {locs : List Loc} {ls : Array Slot} (hP : va_P D vwCl (wA cs ad Ls Hs T) H) (hS : va_S (Afr ad s.heap.size) s.heap H locs) (hl : lv_has ls 4 []) (h : f_L_refused_b226 Ls Hs T = some res) : W p l e rmL_refused s m args below meth c H locs 30 180 (MQ below (va_Qi (fun r' (_ : Unit) => r' = res.1) (fun _ t => va_P D vwCl (wA cs ad res.2.1 res.2.2.1 res.2.2.2) t.heap) (Afr ad s.heap.size)) args s 30 180 (Afr ad s.heap.size)) (F0 m 226 ls []) := by
  unfold f_L_refused_b226 at h
  refine lv_iconst (v := 0) C.1 C.2.1 dL_refused_226 (by decide) ?_
  cases h
  refine W.widen (k := 30) (n := 180) (by omega) (by omega) ?_
  exact k_zret C hP hS nar_0 dL_refused_227
set_option maxRecDepth 100000 in
set_option maxHeartbeats 4000000 in
theorem w_L_refused_b157 {res : Int32 × (Nat → SL) × SL × SL} (C : Cx p s m args meth c cL_refused 4 (some .boolean) RL wsW_refused) (G : Gx D cs ad s) (X : XS ad s.heap.size s s.heap) (N : NC s) (Y : YC s) (hfl : l.stackTraces = false) {Ls : Nat → SL} {Hs : SL} {T : SL} {y1 : Int64} {s0 : Int32} {H : Heap} {locs : List Loc} {ls : Array Slot} (hP : va_P D vwCl (wA cs ad Ls Hs T) H) (hS : va_S (Afr ad s.heap.size) s.heap H locs) (hl : lv_has ls 4 [(0, .ref (ad 0)), (1, .long y1)]) (h : f_L_refused_b157 Ls Hs T y1 s0 = some res) : W p l e rmL_refused s m args below meth c H locs 22 132 (MQ below (va_Qi (fun r' (_ : Unit) => r' = res.1) (fun _ t => va_P D vwCl (wA cs ad res.2.1 res.2.2.1 res.2.2.2) t.heap) (Afr ad s.heap.size)) args s 30 180 (Afr ad s.heap.size)) (F0 m 157 ls [.int s0]) := by
  unfold f_L_refused_b157 at h
  refine lv_istore_n (lv' := [(3, .int s0), (0, .ref (ad 0)), (1, .long y1)]) C.1 C.2.1 dL_refused_157 rfl hl (by decide) rfl (fun ls hl => ?_)
  refine lv_iload_n C.1 C.2.1 dL_refused_158 rfl (lv_at hl 0 rfl) ?_
  refine lv_if_eq (tgt := 226) C.1 C.2.1 dL_refused_159 (by decide) (fun c1 => ?_) (fun c1 => ?_)
  · have h := if_t c1 h
    refine W.widen (k := 30) (n := 180) (by omega) (by omega) ?_
    exact w_L_refused_b226 C G X N Y hfl hP hS (lv_sub hl [] rfl) h
  · have h := if_f c1 h
    refine lv_aload_n C.1 C.2.1 dL_refused_162 rfl (lv_at hl 1 rfl) ?_
    refine lv_bipush (v := 8) C.1 C.2.1 dL_refused_163 (by decide) ?_
    refine lv_iconst (v := 0) C.1 C.2.1 dL_refused_165 (by decide) ?_
    refine lv_iconst (v := 1) C.1 C.2.1 dL_refused_166 (by decide) ?_
    obtain ⟨r3, Ls4, c2, h⟩ := bd2_out h
    refine k_callSWi C G X N Y hP hS (m_L_outputWith l hfl G.2.1 _ c2) (vx_cwSW 4 C.2.2.2.2.2.1 (lwG_cons wl_outputWith) rfl rfl rfl (by decide +kernel) ⟨Nat.le_of_ble_eq_true rfl, Nat.le_of_ble_eq_true rfl⟩) (As := [.ref (ad 0), .int 8, .int 0, .int 1]) rfl hl.1 rfl (Nat.le_of_ble_eq_true rfl) dL_refused_167 ⟨Nat.le_of_ble_eq_true rfl, Nat.le_of_ble_eq_true rfl⟩ (fun H locs hP hS => ?_)
    refine k_ldci C G (List.mem_cons_of_mem _ lk_27) dL_refused_170 ?_
    refine lv_icmp_ne (tgt := 226) C.1 C.2.1 dL_refused_172 (by decide) (fun c5 => ?_) (fun c5 => ?_)
    · have h := if_t c5 h
      refine W.widen (k := 30) (n := 180) (by omega) (by omega) ?_
      exact w_L_refused_b226 C G X N Y hfl hP hS (lv_sub hl [] rfl) h
    · have h := if_n c5 h
      refine lv_aload_n C.1 C.2.1 dL_refused_175 rfl (lv_at hl 1 rfl) ?_
      refine lv_bipush (v := 8) C.1 C.2.1 dL_refused_176 (by decide) ?_
      refine lv_iconst (v := 1) C.1 C.2.1 dL_refused_178 (by decide) ?_
      refine lv_iconst (v := 1) C.1 C.2.1 dL_refused_179 (by decide) ?_
      obtain ⟨r7, Ls8, c6, h⟩ := bd2_out h
      refine k_callSWi C G X N Y hP hS (m_L_capacityFor l hfl G.2.1 _ c6) (vx_cwSW 4 C.2.2.2.2.2.1 (lwG_cons wl_capacityFor) rfl rfl rfl (by decide +kernel) ⟨Nat.le_of_ble_eq_true rfl, Nat.le_of_ble_eq_true rfl⟩) (As := [.ref (ad 0), .int 8, .int 1, .int 1]) rfl hl.1 rfl (Nat.le_of_ble_eq_true rfl) dL_refused_180 ⟨Nat.le_of_ble_eq_true rfl, Nat.le_of_ble_eq_true rfl⟩ (fun H locs hP hS => ?_)
      refine k_ldci C G (List.mem_cons_of_mem _ lk_27) dL_refused_183 ?_
      refine lv_icmp_ne (tgt := 226) C.1 C.2.1 dL_refused_185 (by decide) (fun c9 => ?_) (fun c9 => ?_)
      · have h := if_t c9 h
        refine W.widen (k := 30) (n := 180) (by omega) (by omega) ?_
        exact w_L_refused_b226 C G X N Y hfl hP hS (lv_sub hl [] rfl) h
      · have h := if_n c9 h
        refine lv_aload_n C.1 C.2.1 dL_refused_188 rfl (lv_at hl 1 rfl) ?_
        refine lv_sipush (v := 3000) C.1 C.2.1 dL_refused_189 (by decide) ?_
        refine lv_iconst (v := 1) C.1 C.2.1 dL_refused_192 (by decide) ?_
        obtain ⟨r11, Ls12, c10, h⟩ := bd2_out h
        refine k_callSWi C G X N Y hP hS (m_L_bestBuffer l hfl G.2.1 _ c10) (vx_cwSW 3 C.2.2.2.2.2.1 (lwG_cons wl_bestBuffer) rfl rfl rfl (by decide +kernel) ⟨Nat.le_of_ble_eq_true rfl, Nat.le_of_ble_eq_true rfl⟩) (As := [.ref (ad 0), .int 3000, .int 1]) rfl hl.1 rfl (Nat.le_of_ble_eq_true rfl) dL_refused_193 ⟨Nat.le_of_ble_eq_true rfl, Nat.le_of_ble_eq_true rfl⟩ (fun H locs hP hS => ?_)
        refine k_ldci C G (List.mem_cons_of_mem _ lk_17) dL_refused_196 ?_
        refine lv_icmp_ne (tgt := 226) C.1 C.2.1 dL_refused_198 (by decide) (fun c13 => ?_) (fun c13 => ?_)
        · have h := if_t c13 h
          refine W.widen (k := 30) (n := 180) (by omega) (by omega) ?_
          exact w_L_refused_b226 C G X N Y hfl hP hS (lv_sub hl [] rfl) h
        · have h := if_n c13 h
          refine lv_aload_n C.1 C.2.1 dL_refused_201 rfl (lv_at hl 1 rfl) ?_
          refine lv_sipush (v := 999) C.1 C.2.1 dL_refused_202 (by decide) ?_
          obtain ⟨r15, T16, c14, h⟩ := bd2_out h
          refine k_callSWi C G X N Y hP hS (m_L_append l hfl G.2.1 _ c14) (vx_cwSW 2 C.2.2.2.2.2.1 (lwG_cons wl_append) rfl rfl rfl (by decide +kernel) ⟨Nat.le_of_ble_eq_true rfl, Nat.le_of_ble_eq_true rfl⟩) (As := [.ref (ad 0), .int 999]) rfl hl.1 rfl (Nat.le_of_ble_eq_true rfl) dL_refused_205 ⟨Nat.le_of_ble_eq_true rfl, Nat.le_of_ble_eq_true rfl⟩ (fun H locs hP hS => ?_)
          refine k_ldci C G (List.mem_cons_of_mem _ lk_17) dL_refused_208 ?_
          refine lv_icmp_ne (tgt := 226) C.1 C.2.1 dL_refused_210 (by decide) (fun c17 => ?_) (fun c17 => ?_)
          · have h := if_t c17 h
            refine W.widen (k := 30) (n := 180) (by omega) (by omega) ?_
            exact w_L_refused_b226 C G X N Y hfl hP hS (lv_sub hl [] rfl) h
          · have h := if_n c17 h
            refine lv_aload_n C.1 C.2.1 dL_refused_213 rfl (lv_at hl 1 rfl) ?_
            obtain ⟨w18, c19, h⟩ := bd_out h
            refine k_callSPl C G X N Y hP hS (m_L_print l hfl G.2.1 _ c19) (va_cwS 1 C.2.2.2.2.2.1 (lwG_cons wl_print) rfl rfl rfl (by decide +kernel) ⟨Nat.le_of_ble_eq_true rfl, Nat.le_of_ble_eq_true rfl⟩) (As := [.ref (ad 0)]) rfl hl.1 rfl (Nat.le_of_ble_eq_true rfl) dL_refused_214 ⟨Nat.le_of_ble_eq_true rfl, Nat.le_of_ble_eq_true rfl⟩ (fun H locs hP hS => ?_)
            refine lv_lload_n C.1 C.2.1 dL_refused_217 rfl (lv_at hl 2 rfl) ?_
            obtain ⟨v20, ev20, h⟩ := lt_out h
            refine k_lcmp C ev20 dL_refused_218 ?_
            refine lv_if_ne (tgt := 226) C.1 C.2.1 dL_refused_219 (by decide) (fun c21 => ?_) (fun c21 => ?_)
            · have h := if_t c21 h
              refine W.widen (k := 30) (n := 180) (by omega) (by omega) ?_
              exact w_L_refused_b226 C G X N Y hfl hP hS (lv_sub hl [] rfl) h
            · have h := if_n c21 h
              refine lv_iconst (v := 1) C.1 C.2.1 dL_refused_222 (by decide) ?_
              refine lv_goto (tgt := 227) C.1 C.2.1 dL_refused_223 (by decide) ?_
              cases h
              refine W.widen (k := 30) (n := 180) (by omega) (by omega) ?_
              exact k_zret C hP hS nar_1 dL_refused_227
set_option maxRecDepth 100000 in
set_option maxHeartbeats 4000000 in
theorem w_L_refused_b156 {res : Int32 × (Nat → SL) × SL × SL} (C : Cx p s m args meth c cL_refused 4 (some .boolean) RL wsW_refused) (G : Gx D cs ad s) (X : XS ad s.heap.size s s.heap) (N : NC s) (Y : YC s) (hfl : l.stackTraces = false) {Ls : Nat → SL} {Hs : SL} {T : SL} {y1 : Int64} {H : Heap} {locs : List Loc} {ls : Array Slot} (hP : va_P D vwCl (wA cs ad Ls Hs T) H) (hS : va_S (Afr ad s.heap.size) s.heap H locs) (hl : lv_has ls 4 [(0, .ref (ad 0)), (1, .long y1)]) (h : f_L_refused_b156 Ls Hs T y1 = some res) : W p l e rmL_refused s m args below meth c H locs 22 132 (MQ below (va_Qi (fun r' (_ : Unit) => r' = res.1) (fun _ t => va_P D vwCl (wA cs ad res.2.1 res.2.2.1 res.2.2.2) t.heap) (Afr ad s.heap.size)) args s 30 180 (Afr ad s.heap.size)) (F0 m 156 ls []) := by
  unfold f_L_refused_b156 at h
  refine lv_iconst (v := 0) C.1 C.2.1 dL_refused_156 (by decide) ?_
  refine W.widen (k := 22) (n := 132) (by omega) (by omega) ?_
  exact w_L_refused_b157 C G X N Y hfl hP hS (lv_sub hl [0, 1] rfl) h
set_option maxRecDepth 100000 in
set_option maxHeartbeats 4000000 in
theorem w_L_refused_e {res : Int32 × (Nat → SL) × SL × SL} (C : Cx p s m args meth c cL_refused 4 (some .boolean) RL wsW_refused) (G : Gx D cs ad s) (X : XS ad s.heap.size s s.heap) (N : NC s) (Y : YC s) (hfl : l.stackTraces = false) {Ls : Nat → SL} {Hs : SL} {T : SL} {H : Heap} {locs : List Loc} {ls : Array Slot} (hP : va_P D vwCl (wA cs ad Ls Hs T) H) (hS : va_S (Afr ad s.heap.size) s.heap H locs) (hl : lv_has ls 4 [(0, .ref (ad 0))]) (h : f_L_refused Ls Hs T = some res) : W p l e rmL_refused s m args below meth c H locs 0 0 (MQ below (va_Qi (fun r' (_ : Unit) => r' = res.1) (fun _ t => va_P D vwCl (wA cs ad res.2.1 res.2.2.1 res.2.2.2) t.heap) (Afr ad s.heap.size)) args s 30 180 (Afr ad s.heap.size)) (F0 m 0 ls []) := by
  unfold f_L_refused at h
  refine lv_aload_n C.1 C.2.1 dL_refused_0 rfl (lv_at hl 0 rfl) ?_
  obtain ⟨w1, c2, h⟩ := bd_out h
  refine k_callSPl C G X N Y hP hS (m_L_print l hfl G.2.1 _ c2) (va_cwS 1 C.2.2.2.2.2.1 (lwG_cons wl_print) rfl rfl rfl (by decide +kernel) ⟨Nat.le_of_ble_eq_true rfl, Nat.le_of_ble_eq_true rfl⟩) (As := [.ref (ad 0)]) rfl hl.1 rfl (Nat.le_of_ble_eq_true rfl) dL_refused_1 ⟨Nat.le_of_ble_eq_true rfl, Nat.le_of_ble_eq_true rfl⟩ (fun H locs hP hS => ?_)
  refine lv_lstore_n (lv' := [(1, .long w1), (0, .ref (ad 0))]) C.1 C.2.1 dL_refused_4 rfl hl (by decide) rfl (fun ls hl => ?_)
  refine lv_aload_n C.1 C.2.1 dL_refused_5 rfl (lv_at hl 1 rfl) ?_
  refine lv_iconst (v := 0) C.1 C.2.1 dL_refused_6 (by decide) ?_
  refine lv_iconst (v := 1) C.1 C.2.1 dL_refused_7 (by decide) ?_
  refine lv_iconst (v := 1) C.1 C.2.1 dL_refused_8 (by decide) ?_
  obtain ⟨r4, Ls5, Hs6, c3, h⟩ := bd3_out h
  refine k_callSWi C G X N Y hP hS (m_L_addMachine l hfl G.2.1 _ c3) (vx_cwSW 4 C.2.2.2.2.2.1 (lwG_cons wl_addMachine) rfl rfl rfl (by decide +kernel) ⟨Nat.le_of_ble_eq_true rfl, Nat.le_of_ble_eq_true rfl⟩) (As := [.ref (ad 0), .int 0, .int 1, .int 1]) rfl hl.1 rfl (Nat.le_of_ble_eq_true rfl) dL_refused_9 ⟨Nat.le_of_ble_eq_true rfl, Nat.le_of_ble_eq_true rfl⟩ (fun H locs hP hS => ?_)
  refine k_ldci C G (List.mem_cons_of_mem _ lk_17) dL_refused_12 ?_
  refine lv_icmp_ne (tgt := 156) C.1 C.2.1 dL_refused_14 (by decide) (fun c7 => ?_) (fun c7 => ?_)
  · have h := if_t c7 h
    refine W.widen (k := 22) (n := 132) (by omega) (by omega) ?_
    exact w_L_refused_b156 C G X N Y hfl hP hS (lv_sub hl [1, 0] rfl) h
  · have h := if_n c7 h
    refine lv_aload_n C.1 C.2.1 dL_refused_17 rfl (lv_at hl 1 rfl) ?_
    refine lv_bipush (v := 8) C.1 C.2.1 dL_refused_18 (by decide) ?_
    refine lv_iconst (v := 1) C.1 C.2.1 dL_refused_20 (by decide) ?_
    refine lv_iconst (v := 1) C.1 C.2.1 dL_refused_21 (by decide) ?_
    refine lv_iconst (v := 0) C.1 C.2.1 dL_refused_22 (by decide) ?_
    refine lv_iconst (v := 0) C.1 C.2.1 dL_refused_23 (by decide) ?_
    obtain ⟨r9, Ls10, Hs11, c8, h⟩ := bd3_out h
    refine k_callSWi C G X N Y hP hS (m_L_setMachine l hfl G.2.1 _ c8) (vx_cwSW 6 C.2.2.2.2.2.1 (lwG_cons wl_setMachine) rfl rfl rfl (by decide +kernel) ⟨Nat.le_of_ble_eq_true rfl, Nat.le_of_ble_eq_true rfl⟩) (As := [.ref (ad 0), .int 8, .int 1, .int 1, .int 0, .int 0]) rfl hl.1 rfl (Nat.le_of_ble_eq_true rfl) dL_refused_24 ⟨Nat.le_of_ble_eq_true rfl, Nat.le_of_ble_eq_true rfl⟩ (fun H locs hP hS => ?_)
    refine k_ldci C G (List.mem_cons_of_mem _ lk_27) dL_refused_27 ?_
    refine lv_icmp_ne (tgt := 156) C.1 C.2.1 dL_refused_29 (by decide) (fun c12 => ?_) (fun c12 => ?_)
    · have h := if_t c12 h
      refine W.widen (k := 22) (n := 132) (by omega) (by omega) ?_
      exact w_L_refused_b156 C G X N Y hfl hP hS (lv_sub hl [1, 0] rfl) h
    · have h := if_n c12 h
      refine lv_aload_n C.1 C.2.1 dL_refused_32 rfl (lv_at hl 1 rfl) ?_
      refine lv_iconst (v := (-1)) C.1 C.2.1 dL_refused_33 (by decide) ?_
      refine lv_iconst (v := 0) C.1 C.2.1 dL_refused_34 (by decide) ?_
      obtain ⟨r14, Ls15, Hs16, c13, h⟩ := bd3_out h
      refine k_callSWi C G X N Y hP hS (m_L_setCapacity l hfl G.2.1 _ c13) (vx_cwSW 3 C.2.2.2.2.2.1 (lwG_cons wl_setCapacity) rfl rfl rfl (by decide +kernel) ⟨Nat.le_of_ble_eq_true rfl, Nat.le_of_ble_eq_true rfl⟩) (As := [.ref (ad 0), .int (-1), .int 0]) rfl hl.1 rfl (Nat.le_of_ble_eq_true rfl) dL_refused_35 ⟨Nat.le_of_ble_eq_true rfl, Nat.le_of_ble_eq_true rfl⟩ (fun H locs hP hS => ?_)
      refine k_ldci C G (List.mem_cons_of_mem _ lk_27) dL_refused_38 ?_
      refine lv_icmp_ne (tgt := 156) C.1 C.2.1 dL_refused_40 (by decide) (fun c17 => ?_) (fun c17 => ?_)
      · have h := if_t c17 h
        refine W.widen (k := 22) (n := 132) (by omega) (by omega) ?_
        exact w_L_refused_b156 C G X N Y hfl hP hS (lv_sub hl [1, 0] rfl) h
      · have h := if_n c17 h
        refine lv_aload_n C.1 C.2.1 dL_refused_43 rfl (lv_at hl 1 rfl) ?_
        refine lv_bipush (v := 8) C.1 C.2.1 dL_refused_44 (by decide) ?_
        refine lv_iconst (v := 1) C.1 C.2.1 dL_refused_46 (by decide) ?_
        refine lv_iconst (v := 1) C.1 C.2.1 dL_refused_47 (by decide) ?_
        obtain ⟨r19, Ls20, Hs21, c18, h⟩ := bd3_out h
        refine k_callSWi C G X N Y hP hS (m_L_addStop l hfl G.2.1 _ c18) (vx_cwSW 4 C.2.2.2.2.2.1 (lwG_cons wl_addStop) rfl rfl rfl (by decide +kernel) ⟨Nat.le_of_ble_eq_true rfl, Nat.le_of_ble_eq_true rfl⟩) (As := [.ref (ad 0), .int 8, .int 1, .int 1]) rfl hl.1 rfl (Nat.le_of_ble_eq_true rfl) dL_refused_48 ⟨Nat.le_of_ble_eq_true rfl, Nat.le_of_ble_eq_true rfl⟩ (fun H locs hP hS => ?_)
        refine k_ldci C G (List.mem_cons_of_mem _ lk_27) dL_refused_51 ?_
        refine lv_icmp_ne (tgt := 156) C.1 C.2.1 dL_refused_53 (by decide) (fun c22 => ?_) (fun c22 => ?_)
        · have h := if_t c22 h
          refine W.widen (k := 22) (n := 132) (by omega) (by omega) ?_
          exact w_L_refused_b156 C G X N Y hfl hP hS (lv_sub hl [1, 0] rfl) h
        · have h := if_n c22 h
          refine lv_aload_n C.1 C.2.1 dL_refused_56 rfl (lv_at hl 1 rfl) ?_
          refine lv_bipush (v := 8) C.1 C.2.1 dL_refused_57 (by decide) ?_
          refine lv_iconst (v := 1) C.1 C.2.1 dL_refused_59 (by decide) ?_
          refine lv_iconst (v := 1) C.1 C.2.1 dL_refused_60 (by decide) ?_
          refine lv_iconst (v := 1) C.1 C.2.1 dL_refused_61 (by decide) ?_
          refine lv_iconst (v := 1) C.1 C.2.1 dL_refused_62 (by decide) ?_
          obtain ⟨r24, Ls25, Hs26, c23, h⟩ := bd3_out h
          refine k_callSWi C G X N Y hP hS (m_L_addRandomStops l hfl G.2.1 _ c23) (vx_cwSW 6 C.2.2.2.2.2.1 (lwG_cons wl_addRandomStops) rfl rfl rfl (by decide +kernel) ⟨Nat.le_of_ble_eq_true rfl, Nat.le_of_ble_eq_true rfl⟩) (As := [.ref (ad 0), .int 8, .int 1, .int 1, .int 1, .int 1]) rfl hl.1 rfl (Nat.le_of_ble_eq_true rfl) dL_refused_63 ⟨Nat.le_of_ble_eq_true rfl, Nat.le_of_ble_eq_true rfl⟩ (fun H locs hP hS => ?_)
          refine k_ldci C G (List.mem_cons_of_mem _ lk_27) dL_refused_66 ?_
          refine lv_icmp_ne (tgt := 156) C.1 C.2.1 dL_refused_68 (by decide) (fun c27 => ?_) (fun c27 => ?_)
          · have h := if_t c27 h
            refine W.widen (k := 22) (n := 132) (by omega) (by omega) ?_
            exact w_L_refused_b156 C G X N Y hfl hP hS (lv_sub hl [1, 0] rfl) h
          · have h := if_n c27 h
            refine lv_aload_n C.1 C.2.1 dL_refused_71 rfl (lv_at hl 1 rfl) ?_
            refine lv_bipush (v := 40) C.1 C.2.1 dL_refused_72 (by decide) ?_
            refine lv_iconst (v := 0) C.1 C.2.1 dL_refused_74 (by decide) ?_
            obtain ⟨r29, c28, h⟩ := bd_out h
            refine k_callSWi C G X N Y hP hS (m_L_stop l hfl G.2.1 _ c28) (vx_cwSW 3 C.2.2.2.2.2.1 (lwG_cons wl_stop) rfl rfl rfl (by decide +kernel) ⟨Nat.le_of_ble_eq_true rfl, Nat.le_of_ble_eq_true rfl⟩) (As := [.ref (ad 0), .int 40, .int 0]) rfl hl.1 rfl (Nat.le_of_ble_eq_true rfl) dL_refused_75 ⟨Nat.le_of_ble_eq_true rfl, Nat.le_of_ble_eq_true rfl⟩ (fun H locs hP hS => ?_)
            refine k_ldci C G (List.mem_cons_of_mem _ lk_27) dL_refused_78 ?_
            refine lv_icmp_ne (tgt := 156) C.1 C.2.1 dL_refused_80 (by decide) (fun c30 => ?_) (fun c30 => ?_)
            · have h := if_t c30 h
              refine W.widen (k := 22) (n := 132) (by omega) (by omega) ?_
              exact w_L_refused_b156 C G X N Y hfl hP hS (lv_sub hl [1, 0] rfl) h
            · have h := if_n c30 h
              refine lv_aload_n C.1 C.2.1 dL_refused_83 rfl (lv_at hl 1 rfl) ?_
              refine lv_sipush (v := 3000) C.1 C.2.1 dL_refused_84 (by decide) ?_
              obtain ⟨r32, Ls33, Hs34, c31, h⟩ := bd3_out h
              refine k_callSWi C G X N Y hP hS (m_L_run l hfl G.2.1 _ c31) (vx_cwSW 2 C.2.2.2.2.2.1 (lwG_cons wl_run) rfl rfl rfl (by decide +kernel) ⟨Nat.le_of_ble_eq_true rfl, Nat.le_of_ble_eq_true rfl⟩) (As := [.ref (ad 0), .int 3000]) rfl hl.1 rfl (Nat.le_of_ble_eq_true rfl) dL_refused_87 ⟨Nat.le_of_ble_eq_true rfl, Nat.le_of_ble_eq_true rfl⟩ (fun H locs hP hS => ?_)
              refine k_ldci C G (List.mem_cons_of_mem _ lk_17) dL_refused_90 ?_
              refine lv_icmp_ne (tgt := 156) C.1 C.2.1 dL_refused_92 (by decide) (fun c35 => ?_) (fun c35 => ?_)
              · have h := if_t c35 h
                refine W.widen (k := 22) (n := 132) (by omega) (by omega) ?_
                exact w_L_refused_b156 C G X N Y hfl hP hS (lv_sub hl [1, 0] rfl) h
              · have h := if_n c35 h
                refine lv_aload_n C.1 C.2.1 dL_refused_95 rfl (lv_at hl 1 rfl) ?_
                refine lv_bipush (v := 8) C.1 C.2.1 dL_refused_96 (by decide) ?_
                refine lv_iconst (v := 0) C.1 C.2.1 dL_refused_98 (by decide) ?_
                obtain ⟨r37, c36, h⟩ := bd_out h
                refine k_callSWi C G X N Y hP hS (m_L_setting l hfl G.2.1 _ c36) (vx_cwSW 3 C.2.2.2.2.2.1 (lwG_cons wl_setting) rfl rfl rfl (by decide +kernel) ⟨Nat.le_of_ble_eq_true rfl, Nat.le_of_ble_eq_true rfl⟩) (As := [.ref (ad 0), .int 8, .int 0]) rfl hl.1 rfl (Nat.le_of_ble_eq_true rfl) dL_refused_99 ⟨Nat.le_of_ble_eq_true rfl, Nat.le_of_ble_eq_true rfl⟩ (fun H locs hP hS => ?_)
                refine k_ldci C G (List.mem_cons_of_mem _ lk_27) dL_refused_102 ?_
                refine lv_icmp_ne (tgt := 156) C.1 C.2.1 dL_refused_104 (by decide) (fun c38 => ?_) (fun c38 => ?_)
                · have h := if_t c38 h
                  refine W.widen (k := 22) (n := 132) (by omega) (by omega) ?_
                  exact w_L_refused_b156 C G X N Y hfl hP hS (lv_sub hl [1, 0] rfl) h
                · have h := if_n c38 h
                  refine lv_aload_n C.1 C.2.1 dL_refused_107 rfl (lv_at hl 1 rfl) ?_
                  refine lv_bipush (v := 8) C.1 C.2.1 dL_refused_108 (by decide) ?_
                  refine lv_iconst (v := 0) C.1 C.2.1 dL_refused_110 (by decide) ?_
                  obtain ⟨r40, c39, h⟩ := bd_out h
                  refine k_callSWi C G X N Y hP hS (m_L_machine l hfl G.2.1 _ c39) (vx_cwSW 3 C.2.2.2.2.2.1 (lwG_cons wl_machine) rfl rfl rfl (by decide +kernel) ⟨Nat.le_of_ble_eq_true rfl, Nat.le_of_ble_eq_true rfl⟩) (As := [.ref (ad 0), .int 8, .int 0]) rfl hl.1 rfl (Nat.le_of_ble_eq_true rfl) dL_refused_111 ⟨Nat.le_of_ble_eq_true rfl, Nat.le_of_ble_eq_true rfl⟩ (fun H locs hP hS => ?_)
                  refine k_ldci C G (List.mem_cons_of_mem _ lk_27) dL_refused_114 ?_
                  refine lv_icmp_ne (tgt := 156) C.1 C.2.1 dL_refused_116 (by decide) (fun c41 => ?_) (fun c41 => ?_)
                  · have h := if_t c41 h
                    refine W.widen (k := 22) (n := 132) (by omega) (by omega) ?_
                    exact w_L_refused_b156 C G X N Y hfl hP hS (lv_sub hl [1, 0] rfl) h
                  · have h := if_n c41 h
                    refine lv_aload_n C.1 C.2.1 dL_refused_119 rfl (lv_at hl 1 rfl) ?_
                    refine lv_iconst (v := (-1)) C.1 C.2.1 dL_refused_120 (by decide) ?_
                    refine lv_iconst (v := 0) C.1 C.2.1 dL_refused_121 (by decide) ?_
                    obtain ⟨r43, c42, h⟩ := bd_out h
                    refine k_callSWi C G X N Y hP hS (m_L_count l hfl G.2.1 _ c42) (vx_cwSW 3 C.2.2.2.2.2.1 (lwG_cons wl_count) rfl rfl rfl (by decide +kernel) ⟨Nat.le_of_ble_eq_true rfl, Nat.le_of_ble_eq_true rfl⟩) (As := [.ref (ad 0), .int (-1), .int 0]) rfl hl.1 rfl (Nat.le_of_ble_eq_true rfl) dL_refused_122 ⟨Nat.le_of_ble_eq_true rfl, Nat.le_of_ble_eq_true rfl⟩ (fun H locs hP hS => ?_)
                    refine k_ldci C G (List.mem_cons_of_mem _ lk_27) dL_refused_125 ?_
                    refine lv_icmp_ne (tgt := 156) C.1 C.2.1 dL_refused_127 (by decide) (fun c44 => ?_) (fun c44 => ?_)
                    · have h := if_t c44 h
                      refine W.widen (k := 22) (n := 132) (by omega) (by omega) ?_
                      exact w_L_refused_b156 C G X N Y hfl hP hS (lv_sub hl [1, 0] rfl) h
                    · have h := if_n c44 h
                      refine lv_aload_n C.1 C.2.1 dL_refused_130 rfl (lv_at hl 1 rfl) ?_
                      refine lv_iconst (v := (-1)) C.1 C.2.1 dL_refused_131 (by decide) ?_
                      obtain ⟨r46, Ls47, c45, h⟩ := bd2_out h
                      refine k_callSWi C G X N Y hP hS (m_L_bound l hfl G.2.1 _ c45) (vx_cwSW 2 C.2.2.2.2.2.1 (lwG_cons wl_bound) rfl rfl rfl (by decide +kernel) ⟨Nat.le_of_ble_eq_true rfl, Nat.le_of_ble_eq_true rfl⟩) (As := [.ref (ad 0), .int (-1)]) rfl hl.1 rfl (Nat.le_of_ble_eq_true rfl) dL_refused_132 ⟨Nat.le_of_ble_eq_true rfl, Nat.le_of_ble_eq_true rfl⟩ (fun H locs hP hS => ?_)
                      refine k_ldci C G (List.mem_cons_of_mem _ lk_17) dL_refused_135 ?_
                      refine lv_icmp_ne (tgt := 156) C.1 C.2.1 dL_refused_137 (by decide) (fun c48 => ?_) (fun c48 => ?_)
                      · have h := if_t c48 h
                        refine W.widen (k := 22) (n := 132) (by omega) (by omega) ?_
                        exact w_L_refused_b156 C G X N Y hfl hP hS (lv_sub hl [1, 0] rfl) h
                      · have h := if_n c48 h
                        refine lv_aload_n C.1 C.2.1 dL_refused_140 rfl (lv_at hl 1 rfl) ?_
                        refine lv_sipush (v := 20000) C.1 C.2.1 dL_refused_141 (by decide) ?_
                        obtain ⟨r50, Ls51, c49, h⟩ := bd2_out h
                        refine k_callSWi C G X N Y hP hS (m_L_slowest l hfl G.2.1 _ c49) (vx_cwSW 2 C.2.2.2.2.2.1 (lwG_cons wl_slowest) rfl rfl rfl (by decide +kernel) ⟨Nat.le_of_ble_eq_true rfl, Nat.le_of_ble_eq_true rfl⟩) (As := [.ref (ad 0), .int 20000]) rfl hl.1 rfl (Nat.le_of_ble_eq_true rfl) dL_refused_144 ⟨Nat.le_of_ble_eq_true rfl, Nat.le_of_ble_eq_true rfl⟩ (fun H locs hP hS => ?_)
                        refine k_ldci C G (List.mem_cons_of_mem _ lk_17) dL_refused_147 ?_
                        refine lv_icmp_ne (tgt := 156) C.1 C.2.1 dL_refused_149 (by decide) (fun c52 => ?_) (fun c52 => ?_)
                        · have h := if_t c52 h
                          refine W.widen (k := 22) (n := 132) (by omega) (by omega) ?_
                          exact w_L_refused_b156 C G X N Y hfl hP hS (lv_sub hl [1, 0] rfl) h
                        · have h := if_n c52 h
                          refine lv_iconst (v := 1) C.1 C.2.1 dL_refused_152 (by decide) ?_
                          refine lv_goto (tgt := 157) C.1 C.2.1 dL_refused_153 (by decide) ?_
                          refine W.widen (k := 22) (n := 132) (by omega) (by omega) ?_
                          exact w_L_refused_b157 C G X N Y hfl hP hS (lv_sub hl [1, 0] rfl) h
set_option maxRecDepth 100000 in
set_option maxHeartbeats 4000000 in
theorem m_L_refused (l : Launch) (hfl : l.stackTraces = false) {D : va_G} {cs : Nat → ClassId} {ad : Nat → Nat} (hAd : adOK ad) (sz : Nat) {Ls : Nat → SL} {Hs : SL} {T : SL} {res : Int32 × (Nat → SL) × SL × SL} (h : f_L_refused Ls Hs T = some res) : Met l yL_refused wsW_refused rmL_refused (PW D cs ad sz (wA cs ad Ls Hs T) [.ref (ad 0)]) (va_Qi (fun r' (_ : Unit) => r' = res.1) (fun _ t => va_P D vwCl (wA cs ad res.2.1 res.2.2.1 res.2.2.2) t.heap) (Afr ad sz)) 30 180 (Afr ad sz) :=
  k_metP (by decide) rfl (Nat.le_of_ble_eq_true rfl) hAd (fun p e s m below meth c ls C G X N Y hP hsz hl hS => by
    subst hsz
    exact w_L_refused_e C G X N Y hfl hP hS hl h)
/-! L areFit -/
abbrev rmL_areFit : Room := { frames := 9, cells := 1, slots := 6, locals := 163 }
set_option maxRecDepth 100000 in
set_option maxHeartbeats 4000000 in
theorem w_L_areFit_b382 {res : Int32} (C : Cx p s m args meth c cL_areFit 8 (some .boolean) RL wsW_areFit) (G : Gx D cs ad s) (X : XS ad s.heap.size s s.heap) (N : NC s) (Y : YC s) (hfl : l.stackTraces = false) {Hs : SL} {T : SL} {Ls : Nat → SL} {K13 : (Nat → SL) → Int32 → Int32 → Int32 → Int32 → Option (Int32)} (hK13 : ∀ {x1 : Int32} {x2 : Int32} {x3 : Int32} {x4 : Int32} {H : Heap} {locs : List Loc} {ls : Array Slot}, va_P D vwCl (wA cs ad Ls Hs T) H → va_S (Afr ad s.heap.size) s.heap H locs → lv_has ls 8 [(0, .ref (ad 0)), (1, .int x1), (2, .int x2), (3, .int x3), (4, .int x4)] → K13 Ls x1 x2 x3 x4 = some res → W p l e rmL_areFit s m args below meth c H locs 0 0 (MQ below (va_Qi (fun r' (_ : Unit) => r' = res) (fun _ t => va_P D vwCl (wA cs ad Ls Hs T) t.heap) (Afr ad s.heap.size)) args s 1 6 (Afr ad s.heap.size)) (F0 m 13 ls [])) {x1 : Int32} {x2 : Int32} {x4 : Int32} {s0 : Int32} {H : Heap} {locs : List Loc} {ls : Array Slot} (hP : va_P D vwCl (wA cs ad Ls Hs T) H) (hS : va_S (Afr ad s.heap.size) s.heap H locs) (hl : lv_has ls 8 [(0, .ref (ad 0)), (1, .int x1), (2, .int x2), (4, .int x4)]) (h : f_L_areFit_b382 K13 Ls x1 x2 x4 s0 = some res) : W p l e rmL_areFit s m args below meth c H locs 0 0 (MQ below (va_Qi (fun r' (_ : Unit) => r' = res) (fun _ t => va_P D vwCl (wA cs ad Ls Hs T) t.heap) (Afr ad s.heap.size)) args s 1 6 (Afr ad s.heap.size)) (F0 m 382 ls [.int s0]) := by
  unfold f_L_areFit_b382 at h
  refine lv_istore_n (lv' := [(3, .int s0), (0, .ref (ad 0)), (1, .int x1), (2, .int x2), (4, .int x4)]) C.1 C.2.1 dL_areFit_382 rfl hl (by decide) rfl (fun ls hl => ?_)
  obtain ⟨z1, ez1, h⟩ := lt_out h
  refine lv_iinc (v := z1) (lv' := [(4, .int z1), (3, .int s0), (0, .ref (ad 0)), (1, .int x1), (2, .int x2)]) C.1 C.2.1 dL_areFit_383 hl (k := 4) rfl (by rw [ez1]; rfl) (by decide) rfl (fun ls hl => ?_)
  refine lv_goto (tgt := 13) C.1 C.2.1 dL_areFit_386 (by decide) ?_
  refine W.widen (k := 0) (n := 0) (by omega) (by omega) ?_
  exact hK13 hP hS (lv_sub hl [2, 3, 4, 1, 0] rfl)  h
set_option maxRecDepth 100000 in
set_option maxHeartbeats 4000000 in
theorem w_L_areFit_b381 {res : Int32} (C : Cx p s m args meth c cL_areFit 8 (some .boolean) RL wsW_areFit) (G : Gx D cs ad s) (X : XS ad s.heap.size s s.heap) (N : NC s) (Y : YC s) (hfl : l.stackTraces = false) {Hs : SL} {T : SL} {Ls : Nat → SL} {K13 : (Nat → SL) → Int32 → Int32 → Int32 → Int32 → Option (Int32)} (hK13 : ∀ {x1 : Int32} {x2 : Int32} {x3 : Int32} {x4 : Int32} {H : Heap} {locs : List Loc} {ls : Array Slot}, va_P D vwCl (wA cs ad Ls Hs T) H → va_S (Afr ad s.heap.size) s.heap H locs → lv_has ls 8 [(0, .ref (ad 0)), (1, .int x1), (2, .int x2), (3, .int x3), (4, .int x4)] → K13 Ls x1 x2 x3 x4 = some res → W p l e rmL_areFit s m args below meth c H locs 0 0 (MQ below (va_Qi (fun r' (_ : Unit) => r' = res) (fun _ t => va_P D vwCl (wA cs ad Ls Hs T) t.heap) (Afr ad s.heap.size)) args s 1 6 (Afr ad s.heap.size)) (F0 m 13 ls [])) {x1 : Int32} {x2 : Int32} {x4 : Int32} {H : Heap} {locs : List Loc} {ls : Array Slot} (hP : va_P D vwCl (wA cs ad Ls Hs T) H) (hS : va_S (Afr ad s.heap.size) s.heap H locs) (hl : lv_has ls 8 [(0, .ref (ad 0)), (1, .int x1), (2, .int x2), (4, .int x4)]) (h : f_L_areFit_b381 K13 Ls x1 x2 x4 = some res) : W p l e rmL_areFit s m args below meth c H locs 0 0 (MQ below (va_Qi (fun r' (_ : Unit) => r' = res) (fun _ t => va_P D vwCl (wA cs ad Ls Hs T) t.heap) (Afr ad s.heap.size)) args s 1 6 (Afr ad s.heap.size)) (F0 m 381 ls []) := by
  unfold f_L_areFit_b381 at h
  refine lv_iconst (v := 0) C.1 C.2.1 dL_areFit_381 (by decide) ?_
  refine W.widen (k := 0) (n := 0) (by omega) (by omega) ?_
  exact w_L_areFit_b382 C G X N Y hfl hK13 hP hS (lv_sub hl [0, 1, 2, 3] rfl) h
set_option maxRecDepth 100000 in
set_option maxHeartbeats 4000000 in
theorem w_L_areFit_b346 {res : Int32} (C : Cx p s m args meth c cL_areFit 8 (some .boolean) RL wsW_areFit) (G : Gx D cs ad s) (X : XS ad s.heap.size s s.heap) (N : NC s) (Y : YC s) (hfl : l.stackTraces = false) {Hs : SL} {T : SL} {Ls : Nat → SL} {K13 : (Nat → SL) → Int32 → Int32 → Int32 → Int32 → Option (Int32)} (hK13 : ∀ {x1 : Int32} {x2 : Int32} {x3 : Int32} {x4 : Int32} {H : Heap} {locs : List Loc} {ls : Array Slot}, va_P D vwCl (wA cs ad Ls Hs T) H → va_S (Afr ad s.heap.size) s.heap H locs → lv_has ls 8 [(0, .ref (ad 0)), (1, .int x1), (2, .int x2), (3, .int x3), (4, .int x4)] → K13 Ls x1 x2 x3 x4 = some res → W p l e rmL_areFit s m args below meth c H locs 0 0 (MQ below (va_Qi (fun r' (_ : Unit) => r' = res) (fun _ t => va_P D vwCl (wA cs ad Ls Hs T) t.heap) (Afr ad s.heap.size)) args s 1 6 (Afr ad s.heap.size)) (F0 m 13 ls [])) {x1 : Int32} {x2 : Int32} {x4 : Int32} {x5 : Int32} {s0 : Int32} {H : Heap} {locs : List Loc} {ls : Array Slot} (hP : va_P D vwCl (wA cs ad Ls Hs T) H) (hS : va_S (Afr ad s.heap.size) s.heap H locs) (hl : lv_has ls 8 [(0, .ref (ad 0)), (1, .int x1), (2, .int x2), (4, .int x4), (5, .int x5)]) (h : f_L_areFit_b346 K13 Ls x1 x2 x4 x5 s0 = some res) : W p l e rmL_areFit s m args below meth c H locs 0 0 (MQ below (va_Qi (fun r' (_ : Unit) => r' = res) (fun _ t => va_P D vwCl (wA cs ad Ls Hs T) t.heap) (Afr ad s.heap.size)) args s 1 6 (Afr ad s.heap.size)) (F0 m 346 ls [.int s0]) := by
  unfold f_L_areFit_b346 at h
  refine lv_istore_n (lv' := [(3, .int s0), (0, .ref (ad 0)), (1, .int x1), (2, .int x2), (4, .int x4), (5, .int x5)]) C.1 C.2.1 dL_areFit_346 rfl hl (by decide) rfl (fun ls hl => ?_)
  refine lv_aload_n C.1 C.2.1 dL_areFit_347 rfl (lv_at hl 1 rfl) ?_
  obtain ⟨r2, c1, h⟩ := bd_out h
  refine k_callSWi C G X N Y hP hS (o_L_limiting l G.2.1 _ (okv_out c1)) (vx_cwSW 1 C.2.2.2.2.2.1 (lwG_cons wl_limiting) rfl rfl rfl (by decide +kernel) ⟨Nat.le_of_ble_eq_true rfl, Nat.le_of_ble_eq_true rfl⟩) (As := [.ref (ad 0)]) rfl hl.1 rfl (Nat.le_of_ble_eq_true rfl) dL_areFit_348 ⟨Nat.le_of_ble_eq_true rfl, Nat.le_of_ble_eq_true rfl⟩ (fun H locs hP hS => ?_)
  refine lv_istore (lv' := [(7, .int r2), (3, .int s0), (0, .ref (ad 0)), (1, .int x1), (2, .int x2), (4, .int x4), (5, .int x5)]) C.1 C.2.1 dL_areFit_351 hl (by decide) rfl (fun ls hl => ?_)
  refine lv_iload_n C.1 C.2.1 dL_areFit_353 rfl (lv_at hl 1 rfl) ?_
  refine lv_if_eq (tgt := 381) C.1 C.2.1 dL_areFit_354 (by decide) (fun c3 => ?_) (fun c3 => ?_)
  · have h := if_t c3 h
    refine W.widen (k := 0) (n := 0) (by omega) (by omega) ?_
    exact w_L_areFit_b381 C G X N Y hfl hK13 hP hS (lv_sub hl [2, 3, 4, 5] rfl) h
  · have h := if_f c3 h
    refine lv_iload C.1 C.2.1 dL_areFit_357 (lv_at hl 6 rfl) ?_
    refine lv_aload_n C.1 C.2.1 dL_areFit_359 rfl (lv_at hl 2 rfl) ?_
    refine lv_iload C.1 C.2.1 dL_areFit_360 (lv_at hl 0 rfl) ?_
    refine lv_iconst (v := 1) C.1 C.2.1 dL_areFit_362 (by decide) ?_
    obtain ⟨r5, c4, h⟩ := bd_out h
    refine k_callSWi C G X N Y hP hS (o_L_count l G.2.1 _ (okv_out c4)) (vx_cwSW 3 C.2.2.2.2.2.1 (lwG_cons wl_count) rfl rfl rfl (by decide +kernel) ⟨Nat.le_of_ble_eq_true rfl, Nat.le_of_ble_eq_true rfl⟩) (As := [.ref (ad 0), .int r2, .int 1]) rfl hl.1 rfl (Nat.le_of_ble_eq_true rfl) dL_areFit_363 ⟨Nat.le_of_ble_eq_true rfl, Nat.le_of_ble_eq_true rfl⟩ (fun H locs hP hS => ?_)
    refine lv_aload_n C.1 C.2.1 dL_areFit_366 rfl (lv_at hl 2 rfl) ?_
    refine lv_iload C.1 C.2.1 dL_areFit_367 (lv_at hl 0 rfl) ?_
    refine lv_iconst (v := 2) C.1 C.2.1 dL_areFit_369 (by decide) ?_
    obtain ⟨r7, c6, h⟩ := bd_out h
    refine k_callSWi C G X N Y hP hS (o_L_count l G.2.1 _ (okv_out c6)) (vx_cwSW 3 C.2.2.2.2.2.1 (lwG_cons wl_count) rfl rfl rfl (by decide +kernel) ⟨Nat.le_of_ble_eq_true rfl, Nat.le_of_ble_eq_true rfl⟩) (As := [.ref (ad 0), .int r2, .int 2]) rfl hl.1 rfl (Nat.le_of_ble_eq_true rfl) dL_areFit_370 ⟨Nat.le_of_ble_eq_true rfl, Nat.le_of_ble_eq_true rfl⟩ (fun H locs hP hS => ?_)
    obtain ⟨v8, ev8, h⟩ := lt_out h
    refine k_iadd C ev8 dL_areFit_373 ?_
    refine lv_icmp_lt (tgt := 381) C.1 C.2.1 dL_areFit_374 (by decide) (fun c9 => ?_) (fun c9 => ?_)
    · have h := if_t c9 h
      refine W.widen (k := 0) (n := 0) (by omega) (by omega) ?_
      exact w_L_areFit_b381 C G X N Y hfl hK13 hP hS (lv_sub hl [2, 3, 4, 5] rfl) h
    · have h := if_f c9 h
      refine lv_iconst (v := 1) C.1 C.2.1 dL_areFit_377 (by decide) ?_
      refine lv_goto (tgt := 382) C.1 C.2.1 dL_areFit_378 (by decide) ?_
      refine W.widen (k := 0) (n := 0) (by omega) (by omega) ?_
      exact w_L_areFit_b382 C G X N Y hfl hK13 hP hS (lv_sub hl [2, 3, 4, 5] rfl) h
set_option maxRecDepth 100000 in
set_option maxHeartbeats 4000000 in
theorem w_L_areFit_b341 {res : Int32} (C : Cx p s m args meth c cL_areFit 8 (some .boolean) RL wsW_areFit) (G : Gx D cs ad s) (X : XS ad s.heap.size s s.heap) (N : NC s) (Y : YC s) (hfl : l.stackTraces = false) {Hs : SL} {T : SL} {Ls : Nat → SL} {K13 : (Nat → SL) → Int32 → Int32 → Int32 → Int32 → Option (Int32)} (hK13 : ∀ {x1 : Int32} {x2 : Int32} {x3 : Int32} {x4 : Int32} {H : Heap} {locs : List Loc} {ls : Array Slot}, va_P D vwCl (wA cs ad Ls Hs T) H → va_S (Afr ad s.heap.size) s.heap H locs → lv_has ls 8 [(0, .ref (ad 0)), (1, .int x1), (2, .int x2), (3, .int x3), (4, .int x4)] → K13 Ls x1 x2 x3 x4 = some res → W p l e rmL_areFit s m args below meth c H locs 0 0 (MQ below (va_Qi (fun r' (_ : Unit) => r' = res) (fun _ t => va_P D vwCl (wA cs ad Ls Hs T) t.heap) (Afr ad s.heap.size)) args s 1 6 (Afr ad s.heap.size)) (F0 m 13 ls [])) {x1 : Int32} {x2 : Int32} {x4 : Int32} {x5 : Int32} {H : Heap} {locs : List Loc} {ls : Array Slot} (hP : va_P D vwCl (wA cs ad Ls Hs T) H) (hS : va_S (Afr ad s.heap.size) s.heap H locs) (hl : lv_has ls 8 [(0, .ref (ad 0)), (1, .int x1), (2, .int x2), (4, .int x4), (5, .int x5)]) (h : f_L_areFit_b341 K13 Ls x1 x2 x4 x5 = some res) : W p l e rmL_areFit s m args below meth c H locs 0 0 (MQ below (va_Qi (fun r' (_ : Unit) => r' = res) (fun _ t => va_P D vwCl (wA cs ad Ls Hs T) t.heap) (Afr ad s.heap.size)) args s 1 6 (Afr ad s.heap.size)) (F0 m 341 ls []) := by
  unfold f_L_areFit_b341 at h
  refine lv_iconst (v := 1) C.1 C.2.1 dL_areFit_341 (by decide) ?_
  refine lv_goto (tgt := 346) C.1 C.2.1 dL_areFit_342 (by decide) ?_
  refine W.widen (k := 0) (n := 0) (by omega) (by omega) ?_
  exact w_L_areFit_b346 C G X N Y hfl hK13 hP hS (lv_sub hl [0, 1, 2, 3, 4] rfl) h
set_option maxRecDepth 100000 in
set_option maxHeartbeats 4000000 in
theorem w_L_areFit_b345 {res : Int32} (C : Cx p s m args meth c cL_areFit 8 (some .boolean) RL wsW_areFit) (G : Gx D cs ad s) (X : XS ad s.heap.size s s.heap) (N : NC s) (Y : YC s) (hfl : l.stackTraces = false) {Hs : SL} {T : SL} {Ls : Nat → SL} {K13 : (Nat → SL) → Int32 → Int32 → Int32 → Int32 → Option (Int32)} (hK13 : ∀ {x1 : Int32} {x2 : Int32} {x3 : Int32} {x4 : Int32} {H : Heap} {locs : List Loc} {ls : Array Slot}, va_P D vwCl (wA cs ad Ls Hs T) H → va_S (Afr ad s.heap.size) s.heap H locs → lv_has ls 8 [(0, .ref (ad 0)), (1, .int x1), (2, .int x2), (3, .int x3), (4, .int x4)] → K13 Ls x1 x2 x3 x4 = some res → W p l e rmL_areFit s m args below meth c H locs 0 0 (MQ below (va_Qi (fun r' (_ : Unit) => r' = res) (fun _ t => va_P D vwCl (wA cs ad Ls Hs T) t.heap) (Afr ad s.heap.size)) args s 1 6 (Afr ad s.heap.size)) (F0 m 13 ls [])) {x1 : Int32} {x2 : Int32} {x4 : Int32} {x5 : Int32} {H : Heap} {locs : List Loc} {ls : Array Slot} (hP : va_P D vwCl (wA cs ad Ls Hs T) H) (hS : va_S (Afr ad s.heap.size) s.heap H locs) (hl : lv_has ls 8 [(0, .ref (ad 0)), (1, .int x1), (2, .int x2), (4, .int x4), (5, .int x5)]) (h : f_L_areFit_b345 K13 Ls x1 x2 x4 x5 = some res) : W p l e rmL_areFit s m args below meth c H locs 0 0 (MQ below (va_Qi (fun r' (_ : Unit) => r' = res) (fun _ t => va_P D vwCl (wA cs ad Ls Hs T) t.heap) (Afr ad s.heap.size)) args s 1 6 (Afr ad s.heap.size)) (F0 m 345 ls []) := by
  unfold f_L_areFit_b345 at h
  refine lv_iconst (v := 0) C.1 C.2.1 dL_areFit_345 (by decide) ?_
  refine W.widen (k := 0) (n := 0) (by omega) (by omega) ?_
  exact w_L_areFit_b346 C G X N Y hfl hK13 hP hS (lv_sub hl [0, 1, 2, 3, 4] rfl) h
set_option maxRecDepth 100000 in
set_option maxHeartbeats 4000000 in
theorem w_L_areFit_b337 {res : Int32} (C : Cx p s m args meth c cL_areFit 8 (some .boolean) RL wsW_areFit) (G : Gx D cs ad s) (X : XS ad s.heap.size s s.heap) (N : NC s) (Y : YC s) (hfl : l.stackTraces = false) {Hs : SL} {T : SL} {Ls : Nat → SL} {K13 : (Nat → SL) → Int32 → Int32 → Int32 → Int32 → Option (Int32)} (hK13 : ∀ {x1 : Int32} {x2 : Int32} {x3 : Int32} {x4 : Int32} {H : Heap} {locs : List Loc} {ls : Array Slot}, va_P D vwCl (wA cs ad Ls Hs T) H → va_S (Afr ad s.heap.size) s.heap H locs → lv_has ls 8 [(0, .ref (ad 0)), (1, .int x1), (2, .int x2), (3, .int x3), (4, .int x4)] → K13 Ls x1 x2 x3 x4 = some res → W p l e rmL_areFit s m args below meth c H locs 0 0 (MQ below (va_Qi (fun r' (_ : Unit) => r' = res) (fun _ t => va_P D vwCl (wA cs ad Ls Hs T) t.heap) (Afr ad s.heap.size)) args s 1 6 (Afr ad s.heap.size)) (F0 m 13 ls [])) {x1 : Int32} {x2 : Int32} {x4 : Int32} {x5 : Int32} {s0 : Int32} {s1 : Int32} {s2 : Int32} {H : Heap} {locs : List Loc} {ls : Array Slot} (hP : va_P D vwCl (wA cs ad Ls Hs T) H) (hS : va_S (Afr ad s.heap.size) s.heap H locs) (hl : lv_has ls 8 [(0, .ref (ad 0)), (1, .int x1), (2, .int x2), (4, .int x4), (5, .int x5)]) (h : f_L_areFit_b337 K13 Ls x1 x2 x4 x5 s0 s1 s2 = some res) : W p l e rmL_areFit s m args below meth c H locs 0 0 (MQ below (va_Qi (fun r' (_ : Unit) => r' = res) (fun _ t => va_P D vwCl (wA cs ad Ls Hs T) t.heap) (Afr ad s.heap.size)) args s 1 6 (Afr ad s.heap.size)) (F0 m 337 ls [.int s2, .int s1, .int s0]) := by
  unfold f_L_areFit_b337 at h
  obtain ⟨v1, ev1, h⟩ := lt_out h
  refine k_iadd C ev1 dL_areFit_337 ?_
  refine lv_icmp_ne (tgt := 345) C.1 C.2.1 dL_areFit_338 (by decide) (fun c2 => ?_) (fun c2 => ?_)
  · have h := if_t c2 h
    refine W.widen (k := 0) (n := 0) (by omega) (by omega) ?_
    exact w_L_areFit_b345 C G X N Y hfl hK13 hP hS (lv_sub hl [0, 1, 2, 3, 4] rfl) h
  · have h := if_n c2 h
    refine W.widen (k := 0) (n := 0) (by omega) (by omega) ?_
    exact w_L_areFit_b341 C G X N Y hfl hK13 hP hS (lv_sub hl [0, 1, 2, 3, 4] rfl) h
set_option maxRecDepth 100000 in
set_option maxHeartbeats 4000000 in
theorem w_L_areFit_b283 {res : Int32} (C : Cx p s m args meth c cL_areFit 8 (some .boolean) RL wsW_areFit) (G : Gx D cs ad s) (X : XS ad s.heap.size s s.heap) (N : NC s) (Y : YC s) (hfl : l.stackTraces = false) {Hs : SL} {T : SL} {Ls : Nat → SL} {K13 : (Nat → SL) → Int32 → Int32 → Int32 → Int32 → Option (Int32)} (hK13 : ∀ {x1 : Int32} {x2 : Int32} {x3 : Int32} {x4 : Int32} {H : Heap} {locs : List Loc} {ls : Array Slot}, va_P D vwCl (wA cs ad Ls Hs T) H → va_S (Afr ad s.heap.size) s.heap H locs → lv_has ls 8 [(0, .ref (ad 0)), (1, .int x1), (2, .int x2), (3, .int x3), (4, .int x4)] → K13 Ls x1 x2 x3 x4 = some res → W p l e rmL_areFit s m args below meth c H locs 0 0 (MQ below (va_Qi (fun r' (_ : Unit) => r' = res) (fun _ t => va_P D vwCl (wA cs ad Ls Hs T) t.heap) (Afr ad s.heap.size)) args s 1 6 (Afr ad s.heap.size)) (F0 m 13 ls [])) {x1 : Int32} {x2 : Int32} {x4 : Int32} {x5 : Int32} {s0 : Int32} {H : Heap} {locs : List Loc} {ls : Array Slot} (hP : va_P D vwCl (wA cs ad Ls Hs T) H) (hS : va_S (Afr ad s.heap.size) s.heap H locs) (hl : lv_has ls 8 [(0, .ref (ad 0)), (1, .int x1), (2, .int x2), (4, .int x4), (5, .int x5)]) (h : f_L_areFit_b283 K13 Ls x1 x2 x4 x5 s0 = some res) : W p l e rmL_areFit s m args below meth c H locs 0 0 (MQ below (va_Qi (fun r' (_ : Unit) => r' = res) (fun _ t => va_P D vwCl (wA cs ad Ls Hs T) t.heap) (Afr ad s.heap.size)) args s 1 6 (Afr ad s.heap.size)) (F0 m 283 ls [.int s0]) := by
  unfold f_L_areFit_b283 at h
  refine lv_istore_n (lv' := [(3, .int s0), (0, .ref (ad 0)), (1, .int x1), (2, .int x2), (4, .int x4), (5, .int x5)]) C.1 C.2.1 dL_areFit_283 rfl hl (by decide) rfl (fun ls hl => ?_)
  refine lv_iload_n C.1 C.2.1 dL_areFit_284 rfl (lv_at hl 0 rfl) ?_
  refine lv_if_eq (tgt := 345) C.1 C.2.1 dL_areFit_285 (by decide) (fun c1 => ?_) (fun c1 => ?_)
  · have h := if_t c1 h
    refine W.widen (k := 0) (n := 0) (by omega) (by omega) ?_
    exact w_L_areFit_b345 C G X N Y hfl hK13 hP hS (lv_sub hl [1, 2, 3, 4, 5] rfl) h
  · have h := if_f c1 h
    refine lv_iload C.1 C.2.1 dL_areFit_288 (lv_at hl 4 rfl) ?_
    refine lv_iload_n C.1 C.2.1 dL_areFit_290 rfl (lv_at hl 2 rfl) ?_
    refine lv_iconst (v := 1) C.1 C.2.1 dL_areFit_291 (by decide) ?_
    obtain ⟨v2, ev2, h⟩ := lt_out h
    refine k_isub C ev2 dL_areFit_292 ?_
    refine lv_icmp_eq (tgt := 341) C.1 C.2.1 dL_areFit_293 (by decide) (fun c3 => ?_) (fun c3 => ?_)
    · have h := if_t c3 h
      refine W.widen (k := 0) (n := 0) (by omega) (by omega) ?_
      exact w_L_areFit_b341 C G X N Y hfl hK13 hP hS (lv_sub hl [1, 2, 3, 4, 5] rfl) h
    · have h := if_f c3 h
      refine lv_aload_n C.1 C.2.1 dL_areFit_296 rfl (lv_at hl 1 rfl) ?_
      refine lv_iload C.1 C.2.1 dL_areFit_297 (lv_at hl 4 rfl) ?_
      refine lv_iconst (v := 4) C.1 C.2.1 dL_areFit_299 (by decide) ?_
      obtain ⟨r5, c4, h⟩ := bd_out h
      refine k_callSWi C G X N Y hP hS (o_L_count l G.2.1 _ (okv_out c4)) (vx_cwSW 3 C.2.2.2.2.2.1 (lwG_cons wl_count) rfl rfl rfl (by decide +kernel) ⟨Nat.le_of_ble_eq_true rfl, Nat.le_of_ble_eq_true rfl⟩) (As := [.ref (ad 0), .int x4, .int 4]) rfl hl.1 rfl (Nat.le_of_ble_eq_true rfl) dL_areFit_300 ⟨Nat.le_of_ble_eq_true rfl, Nat.le_of_ble_eq_true rfl⟩ (fun H locs hP hS => ?_)
      refine lv_aload_n C.1 C.2.1 dL_areFit_303 rfl (lv_at hl 1 rfl) ?_
      refine lv_iload C.1 C.2.1 dL_areFit_304 (lv_at hl 4 rfl) ?_
      refine lv_iconst (v := 1) C.1 C.2.1 dL_areFit_306 (by decide) ?_
      obtain ⟨v6, ev6, h⟩ := lt_out h
      refine k_iadd C ev6 dL_areFit_307 ?_
      refine lv_iconst (v := 4) C.1 C.2.1 dL_areFit_308 (by decide) ?_
      obtain ⟨r8, c7, h⟩ := bd_out h
      refine k_callSWi C G X N Y hP hS (o_L_count l G.2.1 _ (okv_out c7)) (vx_cwSW 3 C.2.2.2.2.2.1 (lwG_cons wl_count) rfl rfl rfl (by decide +kernel) ⟨Nat.le_of_ble_eq_true rfl, Nat.le_of_ble_eq_true rfl⟩) (As := [.ref (ad 0), .int v6, .int 4]) rfl hl.1 rfl (Nat.le_of_ble_eq_true rfl) dL_areFit_309 ⟨Nat.le_of_ble_eq_true rfl, Nat.le_of_ble_eq_true rfl⟩ (fun H locs hP hS => ?_)
      refine lv_aload_n C.1 C.2.1 dL_areFit_312 rfl (lv_at hl 1 rfl) ?_
      refine lv_iload C.1 C.2.1 dL_areFit_313 (lv_at hl 4 rfl) ?_
      refine lv_iconst (v := 0) C.1 C.2.1 dL_areFit_315 (by decide) ?_
      obtain ⟨r10, c9, h⟩ := bd_out h
      refine k_callSWi C G X N Y hP hS (o_L_machine l G.2.1 _ (okv_out c9)) (vx_cwSW 3 C.2.2.2.2.2.1 (lwG_cons wl_machine) rfl rfl rfl (by decide +kernel) ⟨Nat.le_of_ble_eq_true rfl, Nat.le_of_ble_eq_true rfl⟩) (As := [.ref (ad 0), .int x4, .int 0]) rfl hl.1 rfl (Nat.le_of_ble_eq_true rfl) dL_areFit_316 ⟨Nat.le_of_ble_eq_true rfl, Nat.le_of_ble_eq_true rfl⟩ (fun H locs hP hS => ?_)
      obtain ⟨v11, ev11, h⟩ := lt_out h
      refine k_iadd C ev11 dL_areFit_319 ?_
      refine lv_aload_n C.1 C.2.1 dL_areFit_320 rfl (lv_at hl 1 rfl) ?_
      refine lv_iload C.1 C.2.1 dL_areFit_321 (lv_at hl 4 rfl) ?_
      refine lv_iconst (v := 1) C.1 C.2.1 dL_areFit_323 (by decide) ?_
      obtain ⟨v12, ev12, h⟩ := lt_out h
      refine k_iadd C ev12 dL_areFit_324 ?_
      refine lv_iconst (v := 1) C.1 C.2.1 dL_areFit_325 (by decide) ?_
      obtain ⟨r14, c13, h⟩ := bd_out h
      refine k_callSWi C G X N Y hP hS (o_L_machine l G.2.1 _ (okv_out c13)) (vx_cwSW 3 C.2.2.2.2.2.1 (lwG_cons wl_machine) rfl rfl rfl (by decide +kernel) ⟨Nat.le_of_ble_eq_true rfl, Nat.le_of_ble_eq_true rfl⟩) (As := [.ref (ad 0), .int v12, .int 1]) rfl hl.1 rfl (Nat.le_of_ble_eq_true rfl) dL_areFit_326 ⟨Nat.le_of_ble_eq_true rfl, Nat.le_of_ble_eq_true rfl⟩ (fun H locs hP hS => ?_)
      refine lv_if_lt (tgt := 336) C.1 C.2.1 dL_areFit_329 (by decide) (fun c15 => ?_) (fun c15 => ?_)
      · have h := if_t c15 h
        refine lv_iconst (v := 0) C.1 C.2.1 dL_areFit_336 (by decide) ?_
        refine W.widen (k := 0) (n := 0) (by omega) (by omega) ?_
        exact w_L_areFit_b337 C G X N Y hfl hK13 hP hS (lv_sub hl [1, 2, 3, 4, 5] rfl) h
      · have h := if_f c15 h
        refine lv_iconst (v := 1) C.1 C.2.1 dL_areFit_332 (by decide) ?_
        refine lv_goto (tgt := 337) C.1 C.2.1 dL_areFit_333 (by decide) ?_
        refine W.widen (k := 0) (n := 0) (by omega) (by omega) ?_
        exact w_L_areFit_b337 C G X N Y hfl hK13 hP hS (lv_sub hl [1, 2, 3, 4, 5] rfl) h
set_option maxRecDepth 100000 in
set_option maxHeartbeats 4000000 in
theorem w_L_areFit_b282 {res : Int32} (C : Cx p s m args meth c cL_areFit 8 (some .boolean) RL wsW_areFit) (G : Gx D cs ad s) (X : XS ad s.heap.size s s.heap) (N : NC s) (Y : YC s) (hfl : l.stackTraces = false) {Hs : SL} {T : SL} {Ls : Nat → SL} {K13 : (Nat → SL) → Int32 → Int32 → Int32 → Int32 → Option (Int32)} (hK13 : ∀ {x1 : Int32} {x2 : Int32} {x3 : Int32} {x4 : Int32} {H : Heap} {locs : List Loc} {ls : Array Slot}, va_P D vwCl (wA cs ad Ls Hs T) H → va_S (Afr ad s.heap.size) s.heap H locs → lv_has ls 8 [(0, .ref (ad 0)), (1, .int x1), (2, .int x2), (3, .int x3), (4, .int x4)] → K13 Ls x1 x2 x3 x4 = some res → W p l e rmL_areFit s m args below meth c H locs 0 0 (MQ below (va_Qi (fun r' (_ : Unit) => r' = res) (fun _ t => va_P D vwCl (wA cs ad Ls Hs T) t.heap) (Afr ad s.heap.size)) args s 1 6 (Afr ad s.heap.size)) (F0 m 13 ls [])) {x1 : Int32} {x2 : Int32} {x4 : Int32} {x5 : Int32} {H : Heap} {locs : List Loc} {ls : Array Slot} (hP : va_P D vwCl (wA cs ad Ls Hs T) H) (hS : va_S (Afr ad s.heap.size) s.heap H locs) (hl : lv_has ls 8 [(0, .ref (ad 0)), (1, .int x1), (2, .int x2), (4, .int x4), (5, .int x5)]) (h : f_L_areFit_b282 K13 Ls x1 x2 x4 x5 = some res) : W p l e rmL_areFit s m args below meth c H locs 0 0 (MQ below (va_Qi (fun r' (_ : Unit) => r' = res) (fun _ t => va_P D vwCl (wA cs ad Ls Hs T) t.heap) (Afr ad s.heap.size)) args s 1 6 (Afr ad s.heap.size)) (F0 m 282 ls []) := by
  unfold f_L_areFit_b282 at h
  refine lv_iconst (v := 0) C.1 C.2.1 dL_areFit_282 (by decide) ?_
  refine W.widen (k := 0) (n := 0) (by omega) (by omega) ?_
  exact w_L_areFit_b283 C G X N Y hfl hK13 hP hS (lv_sub hl [0, 1, 2, 3, 4] rfl) h
set_option maxRecDepth 100000 in
set_option maxHeartbeats 4000000 in
theorem w_L_areFit_b264 {res : Int32} (C : Cx p s m args meth c cL_areFit 8 (some .boolean) RL wsW_areFit) (G : Gx D cs ad s) (X : XS ad s.heap.size s s.heap) (N : NC s) (Y : YC s) (hfl : l.stackTraces = false) {Hs : SL} {T : SL} {Ls : Nat → SL} {K13 : (Nat → SL) → Int32 → Int32 → Int32 → Int32 → Option (Int32)} (hK13 : ∀ {x1 : Int32} {x2 : Int32} {x3 : Int32} {x4 : Int32} {H : Heap} {locs : List Loc} {ls : Array Slot}, va_P D vwCl (wA cs ad Ls Hs T) H → va_S (Afr ad s.heap.size) s.heap H locs → lv_has ls 8 [(0, .ref (ad 0)), (1, .int x1), (2, .int x2), (3, .int x3), (4, .int x4)] → K13 Ls x1 x2 x3 x4 = some res → W p l e rmL_areFit s m args below meth c H locs 0 0 (MQ below (va_Qi (fun r' (_ : Unit) => r' = res) (fun _ t => va_P D vwCl (wA cs ad Ls Hs T) t.heap) (Afr ad s.heap.size)) args s 1 6 (Afr ad s.heap.size)) (F0 m 13 ls [])) {x1 : Int32} {x2 : Int32} {x4 : Int32} {x5 : Int32} {H : Heap} {locs : List Loc} {ls : Array Slot} (hP : va_P D vwCl (wA cs ad Ls Hs T) H) (hS : va_S (Afr ad s.heap.size) s.heap H locs) (hl : lv_has ls 8 [(0, .ref (ad 0)), (1, .int x1), (2, .int x2), (4, .int x4), (5, .int x5)]) (h : f_L_areFit_b264 K13 Ls x1 x2 x4 x5 = some res) : W p l e rmL_areFit s m args below meth c H locs 0 0 (MQ below (va_Qi (fun r' (_ : Unit) => r' = res) (fun _ t => va_P D vwCl (wA cs ad Ls Hs T) t.heap) (Afr ad s.heap.size)) args s 1 6 (Afr ad s.heap.size)) (F0 m 264 ls []) := by
  unfold f_L_areFit_b264 at h
  refine lv_aload_n C.1 C.2.1 dL_areFit_264 rfl (lv_at hl 0 rfl) ?_
  refine lv_iload C.1 C.2.1 dL_areFit_265 (lv_at hl 3 rfl) ?_
  refine lv_iconst (v := 5) C.1 C.2.1 dL_areFit_267 (by decide) ?_
  obtain ⟨r2, c1, h⟩ := bd_out h
  refine k_callSWi C G X N Y hP hS (o_L_count l G.2.1 _ (okv_out c1)) (vx_cwSW 3 C.2.2.2.2.2.1 (lwG_cons wl_count) rfl rfl rfl (by decide +kernel) ⟨Nat.le_of_ble_eq_true rfl, Nat.le_of_ble_eq_true rfl⟩) (As := [.ref (ad 0), .int x4, .int 5]) rfl hl.1 rfl (Nat.le_of_ble_eq_true rfl) dL_areFit_268 ⟨Nat.le_of_ble_eq_true rfl, Nat.le_of_ble_eq_true rfl⟩ (fun H locs hP hS => ?_)
  refine lv_aload_n C.1 C.2.1 dL_areFit_271 rfl (lv_at hl 0 rfl) ?_
  obtain ⟨r3, c4, h⟩ := bd_out h
  refine k_callVi C G hP hS (m_X5_now l G.2.1 _  c4) g_obj rfl (cwV 0 C.2.2.2.2.2.1 (lwG_cons wg_X5_now) rfl rfl rfl (by decide +kernel) ⟨Nat.le_of_ble_eq_true rfl, Nat.le_of_ble_eq_true rfl⟩) (As := []) rfl hl.1 rfl (Nat.le_of_ble_eq_true rfl) dL_areFit_272 ⟨Nat.le_of_ble_eq_true rfl, Nat.le_of_ble_eq_true rfl⟩ (fun H locs hP hS => ?_)
  refine lv_icmp_gt (tgt := 282) C.1 C.2.1 dL_areFit_275 (by decide) (fun c5 => ?_) (fun c5 => ?_)
  · have h := if_t c5 h
    refine W.widen (k := 0) (n := 0) (by omega) (by omega) ?_
    exact w_L_areFit_b282 C G X N Y hfl hK13 hP hS (lv_sub hl [0, 1, 2, 3, 4] rfl) h
  · have h := if_f c5 h
    refine lv_iconst (v := 1) C.1 C.2.1 dL_areFit_278 (by decide) ?_
    refine lv_goto (tgt := 283) C.1 C.2.1 dL_areFit_279 (by decide) ?_
    refine W.widen (k := 0) (n := 0) (by omega) (by omega) ?_
    exact w_L_areFit_b283 C G X N Y hfl hK13 hP hS (lv_sub hl [0, 1, 2, 3, 4] rfl) h
set_option maxRecDepth 100000 in
set_option maxHeartbeats 4000000 in
theorem w_L_areFit_b201 {res : Int32} (C : Cx p s m args meth c cL_areFit 8 (some .boolean) RL wsW_areFit) (G : Gx D cs ad s) (X : XS ad s.heap.size s s.heap) (N : NC s) (Y : YC s) (hfl : l.stackTraces = false) {Hs : SL} {T : SL} {Ls : Nat → SL} {K13 : (Nat → SL) → Int32 → Int32 → Int32 → Int32 → Option (Int32)} (hK13 : ∀ {x1 : Int32} {x2 : Int32} {x3 : Int32} {x4 : Int32} {H : Heap} {locs : List Loc} {ls : Array Slot}, va_P D vwCl (wA cs ad Ls Hs T) H → va_S (Afr ad s.heap.size) s.heap H locs → lv_has ls 8 [(0, .ref (ad 0)), (1, .int x1), (2, .int x2), (3, .int x3), (4, .int x4)] → K13 Ls x1 x2 x3 x4 = some res → W p l e rmL_areFit s m args below meth c H locs 0 0 (MQ below (va_Qi (fun r' (_ : Unit) => r' = res) (fun _ t => va_P D vwCl (wA cs ad Ls Hs T) t.heap) (Afr ad s.heap.size)) args s 1 6 (Afr ad s.heap.size)) (F0 m 13 ls [])) {x1 : Int32} {x2 : Int32} {x4 : Int32} {x5 : Int32} {H : Heap} {locs : List Loc} {ls : Array Slot} (hP : va_P D vwCl (wA cs ad Ls Hs T) H) (hS : va_S (Afr ad s.heap.size) s.heap H locs) (hl : lv_has ls 8 [(0, .ref (ad 0)), (1, .int x1), (2, .int x2), (4, .int x4), (5, .int x5)]) (h : f_L_areFit_b201 K13 Ls x1 x2 x4 x5 = some res) : W p l e rmL_areFit s m args below meth c H locs 0 0 (MQ below (va_Qi (fun r' (_ : Unit) => r' = res) (fun _ t => va_P D vwCl (wA cs ad Ls Hs T) t.heap) (Afr ad s.heap.size)) args s 1 6 (Afr ad s.heap.size)) (F0 m 201 ls []) := by
  unfold f_L_areFit_b201 at h
  refine lv_iload C.1 C.2.1 dL_areFit_201 (lv_at hl 3 rfl) ?_
  refine lv_iload_n C.1 C.2.1 dL_areFit_203 rfl (lv_at hl 1 rfl) ?_
  refine lv_iconst (v := 1) C.1 C.2.1 dL_areFit_204 (by decide) ?_
  obtain ⟨v1, ev1, h⟩ := lt_out h
  refine k_isub C ev1 dL_areFit_205 ?_
  refine lv_icmp_lt (tgt := 264) C.1 C.2.1 dL_areFit_206 (by decide) (fun c2 => ?_) (fun c2 => ?_)
  · have h := if_t c2 h
    refine W.widen (k := 0) (n := 0) (by omega) (by omega) ?_
    exact w_L_areFit_b264 C G X N Y hfl hK13 hP hS (lv_sub hl [0, 1, 2, 3, 4] rfl) h
  · have h := if_f c2 h
    refine lv_aload_n C.1 C.2.1 dL_areFit_209 rfl (lv_at hl 0 rfl) ?_
    refine lv_iload C.1 C.2.1 dL_areFit_210 (lv_at hl 3 rfl) ?_
    refine lv_iconst (v := 2) C.1 C.2.1 dL_areFit_212 (by decide) ?_
    obtain ⟨r4, c3, h⟩ := bd_out h
    refine k_callSWi C G X N Y hP hS (o_L_count l G.2.1 _ (okv_out c3)) (vx_cwSW 3 C.2.2.2.2.2.1 (lwG_cons wl_count) rfl rfl rfl (by decide +kernel) ⟨Nat.le_of_ble_eq_true rfl, Nat.le_of_ble_eq_true rfl⟩) (As := [.ref (ad 0), .int x4, .int 2]) rfl hl.1 rfl (Nat.le_of_ble_eq_true rfl) dL_areFit_213 ⟨Nat.le_of_ble_eq_true rfl, Nat.le_of_ble_eq_true rfl⟩ (fun H locs hP hS => ?_)
    refine lv_if_ne (tgt := 282) C.1 C.2.1 dL_areFit_216 (by decide) (fun c5 => ?_) (fun c5 => ?_)
    · have h := if_t c5 h
      refine W.widen (k := 0) (n := 0) (by omega) (by omega) ?_
      exact w_L_areFit_b282 C G X N Y hfl hK13 hP hS (lv_sub hl [0, 1, 2, 3, 4] rfl) h
    · have h := if_n c5 h
      refine lv_aload_n C.1 C.2.1 dL_areFit_219 rfl (lv_at hl 0 rfl) ?_
      refine lv_iload C.1 C.2.1 dL_areFit_220 (lv_at hl 3 rfl) ?_
      refine lv_iconst (v := 0) C.1 C.2.1 dL_areFit_222 (by decide) ?_
      obtain ⟨r7, c6, h⟩ := bd_out h
      refine k_callSWi C G X N Y hP hS (o_L_machine l G.2.1 _ (okv_out c6)) (vx_cwSW 3 C.2.2.2.2.2.1 (lwG_cons wl_machine) rfl rfl rfl (by decide +kernel) ⟨Nat.le_of_ble_eq_true rfl, Nat.le_of_ble_eq_true rfl⟩) (As := [.ref (ad 0), .int x4, .int 0]) rfl hl.1 rfl (Nat.le_of_ble_eq_true rfl) dL_areFit_223 ⟨Nat.le_of_ble_eq_true rfl, Nat.le_of_ble_eq_true rfl⟩ (fun H locs hP hS => ?_)
      refine lv_if_ne (tgt := 282) C.1 C.2.1 dL_areFit_226 (by decide) (fun c8 => ?_) (fun c8 => ?_)
      · have h := if_t c8 h
        refine W.widen (k := 0) (n := 0) (by omega) (by omega) ?_
        exact w_L_areFit_b282 C G X N Y hfl hK13 hP hS (lv_sub hl [0, 1, 2, 3, 4] rfl) h
      · have h := if_n c8 h
        refine lv_aload_n C.1 C.2.1 dL_areFit_229 rfl (lv_at hl 0 rfl) ?_
        refine lv_iload C.1 C.2.1 dL_areFit_230 (lv_at hl 3 rfl) ?_
        refine lv_iconst (v := 2) C.1 C.2.1 dL_areFit_232 (by decide) ?_
        obtain ⟨r10, c9, h⟩ := bd_out h
        refine k_callSWi C G X N Y hP hS (o_L_machine l G.2.1 _ (okv_out c9)) (vx_cwSW 3 C.2.2.2.2.2.1 (lwG_cons wl_machine) rfl rfl rfl (by decide +kernel) ⟨Nat.le_of_ble_eq_true rfl, Nat.le_of_ble_eq_true rfl⟩) (As := [.ref (ad 0), .int x4, .int 2]) rfl hl.1 rfl (Nat.le_of_ble_eq_true rfl) dL_areFit_233 ⟨Nat.le_of_ble_eq_true rfl, Nat.le_of_ble_eq_true rfl⟩ (fun H locs hP hS => ?_)
        refine lv_iconst (v := 1) C.1 C.2.1 dL_areFit_236 (by decide) ?_
        refine lv_icmp_ne (tgt := 282) C.1 C.2.1 dL_areFit_237 (by decide) (fun c11 => ?_) (fun c11 => ?_)
        · have h := if_t c11 h
          refine W.widen (k := 0) (n := 0) (by omega) (by omega) ?_
          exact w_L_areFit_b282 C G X N Y hfl hK13 hP hS (lv_sub hl [0, 1, 2, 3, 4] rfl) h
        · have h := if_n c11 h
          refine lv_aload_n C.1 C.2.1 dL_areFit_240 rfl (lv_at hl 0 rfl) ?_
          refine lv_iload C.1 C.2.1 dL_areFit_241 (lv_at hl 3 rfl) ?_
          refine lv_iconst (v := 5) C.1 C.2.1 dL_areFit_243 (by decide) ?_
          obtain ⟨r13, c12, h⟩ := bd_out h
          refine k_callSWi C G X N Y hP hS (o_L_count l G.2.1 _ (okv_out c12)) (vx_cwSW 3 C.2.2.2.2.2.1 (lwG_cons wl_count) rfl rfl rfl (by decide +kernel) ⟨Nat.le_of_ble_eq_true rfl, Nat.le_of_ble_eq_true rfl⟩) (As := [.ref (ad 0), .int x4, .int 5]) rfl hl.1 rfl (Nat.le_of_ble_eq_true rfl) dL_areFit_244 ⟨Nat.le_of_ble_eq_true rfl, Nat.le_of_ble_eq_true rfl⟩ (fun H locs hP hS => ?_)
          refine lv_if_ne (tgt := 282) C.1 C.2.1 dL_areFit_247 (by decide) (fun c14 => ?_) (fun c14 => ?_)
          · have h := if_t c14 h
            refine W.widen (k := 0) (n := 0) (by omega) (by omega) ?_
            exact w_L_areFit_b282 C G X N Y hfl hK13 hP hS (lv_sub hl [0, 1, 2, 3, 4] rfl) h
          · have h := if_n c14 h
            refine lv_aload_n C.1 C.2.1 dL_areFit_250 rfl (lv_at hl 0 rfl) ?_
            obtain ⟨r15, c16, h⟩ := bd_out h
            refine k_callVi C G hP hS (m_X5_output l G.2.1 _  c16) g_obj rfl (cwV 0 C.2.2.2.2.2.1 (lwG_cons wg_X5_output) rfl rfl rfl (by decide +kernel) ⟨Nat.le_of_ble_eq_true rfl, Nat.le_of_ble_eq_true rfl⟩) (As := []) rfl hl.1 rfl (Nat.le_of_ble_eq_true rfl) dL_areFit_251 ⟨Nat.le_of_ble_eq_true rfl, Nat.le_of_ble_eq_true rfl⟩ (fun H locs hP hS => ?_)
            refine lv_aload_n C.1 C.2.1 dL_areFit_254 rfl (lv_at hl 0 rfl) ?_
            refine lv_iload C.1 C.2.1 dL_areFit_255 (lv_at hl 3 rfl) ?_
            refine lv_iconst (v := 4) C.1 C.2.1 dL_areFit_257 (by decide) ?_
            obtain ⟨r18, c17, h⟩ := bd_out h
            refine k_callSWi C G X N Y hP hS (o_L_count l G.2.1 _ (okv_out c17)) (vx_cwSW 3 C.2.2.2.2.2.1 (lwG_cons wl_count) rfl rfl rfl (by decide +kernel) ⟨Nat.le_of_ble_eq_true rfl, Nat.le_of_ble_eq_true rfl⟩) (As := [.ref (ad 0), .int x4, .int 4]) rfl hl.1 rfl (Nat.le_of_ble_eq_true rfl) dL_areFit_258 ⟨Nat.le_of_ble_eq_true rfl, Nat.le_of_ble_eq_true rfl⟩ (fun H locs hP hS => ?_)
            refine lv_icmp_ne (tgt := 282) C.1 C.2.1 dL_areFit_261 (by decide) (fun c19 => ?_) (fun c19 => ?_)
            · have h := if_t c19 h
              refine W.widen (k := 0) (n := 0) (by omega) (by omega) ?_
              exact w_L_areFit_b282 C G X N Y hfl hK13 hP hS (lv_sub hl [0, 1, 2, 3, 4] rfl) h
            · have h := if_n c19 h
              refine W.widen (k := 0) (n := 0) (by omega) (by omega) ?_
              exact w_L_areFit_b264 C G X N Y hfl hK13 hP hS (lv_sub hl [0, 1, 2, 3, 4] rfl) h
set_option maxRecDepth 100000 in
set_option maxHeartbeats 4000000 in
theorem w_L_areFit_b181 {res : Int32} (C : Cx p s m args meth c cL_areFit 8 (some .boolean) RL wsW_areFit) (G : Gx D cs ad s) (X : XS ad s.heap.size s s.heap) (N : NC s) (Y : YC s) (hfl : l.stackTraces = false) {Hs : SL} {T : SL} {Ls : Nat → SL} {K13 : (Nat → SL) → Int32 → Int32 → Int32 → Int32 → Option (Int32)} (hK13 : ∀ {x1 : Int32} {x2 : Int32} {x3 : Int32} {x4 : Int32} {H : Heap} {locs : List Loc} {ls : Array Slot}, va_P D vwCl (wA cs ad Ls Hs T) H → va_S (Afr ad s.heap.size) s.heap H locs → lv_has ls 8 [(0, .ref (ad 0)), (1, .int x1), (2, .int x2), (3, .int x3), (4, .int x4)] → K13 Ls x1 x2 x3 x4 = some res → W p l e rmL_areFit s m args below meth c H locs 0 0 (MQ below (va_Qi (fun r' (_ : Unit) => r' = res) (fun _ t => va_P D vwCl (wA cs ad Ls Hs T) t.heap) (Afr ad s.heap.size)) args s 1 6 (Afr ad s.heap.size)) (F0 m 13 ls [])) {x1 : Int32} {x2 : Int32} {x4 : Int32} {x5 : Int32} {s0 : Int32} {H : Heap} {locs : List Loc} {ls : Array Slot} (hP : va_P D vwCl (wA cs ad Ls Hs T) H) (hS : va_S (Afr ad s.heap.size) s.heap H locs) (hl : lv_has ls 8 [(0, .ref (ad 0)), (1, .int x1), (2, .int x2), (4, .int x4), (5, .int x5)]) (h : f_L_areFit_b181 K13 Ls x1 x2 x4 x5 s0 = some res) : W p l e rmL_areFit s m args below meth c H locs 0 0 (MQ below (va_Qi (fun r' (_ : Unit) => r' = res) (fun _ t => va_P D vwCl (wA cs ad Ls Hs T) t.heap) (Afr ad s.heap.size)) args s 1 6 (Afr ad s.heap.size)) (F0 m 181 ls [.int s0]) := by
  unfold f_L_areFit_b181 at h
  refine lv_istore_n (lv' := [(3, .int s0), (0, .ref (ad 0)), (1, .int x1), (2, .int x2), (4, .int x4), (5, .int x5)]) C.1 C.2.1 dL_areFit_181 rfl hl (by decide) rfl (fun ls hl => ?_)
  refine lv_iload_n C.1 C.2.1 dL_areFit_182 rfl (lv_at hl 0 rfl) ?_
  refine lv_if_eq (tgt := 282) C.1 C.2.1 dL_areFit_183 (by decide) (fun c1 => ?_) (fun c1 => ?_)
  · have h := if_t c1 h
    refine W.widen (k := 0) (n := 0) (by omega) (by omega) ?_
    exact w_L_areFit_b282 C G X N Y hfl hK13 hP hS (lv_sub hl [1, 2, 3, 4, 5] rfl) h
  · have h := if_f c1 h
    refine lv_iload C.1 C.2.1 dL_areFit_186 (lv_at hl 4 rfl) ?_
    refine lv_if_gt (tgt := 201) C.1 C.2.1 dL_areFit_188 (by decide) (fun c2 => ?_) (fun c2 => ?_)
    · have h := if_t c2 h
      refine W.widen (k := 0) (n := 0) (by omega) (by omega) ?_
      exact w_L_areFit_b201 C G X N Y hfl hK13 hP hS (lv_sub hl [1, 2, 3, 4, 5] rfl) h
    · have h := if_f c2 h
      refine lv_aload_n C.1 C.2.1 dL_areFit_191 rfl (lv_at hl 1 rfl) ?_
      refine lv_iload C.1 C.2.1 dL_areFit_192 (lv_at hl 4 rfl) ?_
      refine lv_iconst (v := 1) C.1 C.2.1 dL_areFit_194 (by decide) ?_
      obtain ⟨r4, c3, h⟩ := bd_out h
      refine k_callSWi C G X N Y hP hS (o_L_count l G.2.1 _ (okv_out c3)) (vx_cwSW 3 C.2.2.2.2.2.1 (lwG_cons wl_count) rfl rfl rfl (by decide +kernel) ⟨Nat.le_of_ble_eq_true rfl, Nat.le_of_ble_eq_true rfl⟩) (As := [.ref (ad 0), .int x4, .int 1]) rfl hl.1 rfl (Nat.le_of_ble_eq_true rfl) dL_areFit_195 ⟨Nat.le_of_ble_eq_true rfl, Nat.le_of_ble_eq_true rfl⟩ (fun H locs hP hS => ?_)
      refine lv_if_ne (tgt := 282) C.1 C.2.1 dL_areFit_198 (by decide) (fun c5 => ?_) (fun c5 => ?_)
      · have h := if_t c5 h
        refine W.widen (k := 0) (n := 0) (by omega) (by omega) ?_
        exact w_L_areFit_b282 C G X N Y hfl hK13 hP hS (lv_sub hl [1, 2, 3, 4, 5] rfl) h
      · have h := if_n c5 h
        refine W.widen (k := 0) (n := 0) (by omega) (by omega) ?_
        exact w_L_areFit_b201 C G X N Y hfl hK13 hP hS (lv_sub hl [1, 2, 3, 4, 5] rfl) h
set_option maxRecDepth 100000 in
set_option maxHeartbeats 4000000 in
theorem w_L_areFit_b180 {res : Int32} (C : Cx p s m args meth c cL_areFit 8 (some .boolean) RL wsW_areFit) (G : Gx D cs ad s) (X : XS ad s.heap.size s s.heap) (N : NC s) (Y : YC s) (hfl : l.stackTraces = false) {Hs : SL} {T : SL} {Ls : Nat → SL} {K13 : (Nat → SL) → Int32 → Int32 → Int32 → Int32 → Option (Int32)} (hK13 : ∀ {x1 : Int32} {x2 : Int32} {x3 : Int32} {x4 : Int32} {H : Heap} {locs : List Loc} {ls : Array Slot}, va_P D vwCl (wA cs ad Ls Hs T) H → va_S (Afr ad s.heap.size) s.heap H locs → lv_has ls 8 [(0, .ref (ad 0)), (1, .int x1), (2, .int x2), (3, .int x3), (4, .int x4)] → K13 Ls x1 x2 x3 x4 = some res → W p l e rmL_areFit s m args below meth c H locs 0 0 (MQ below (va_Qi (fun r' (_ : Unit) => r' = res) (fun _ t => va_P D vwCl (wA cs ad Ls Hs T) t.heap) (Afr ad s.heap.size)) args s 1 6 (Afr ad s.heap.size)) (F0 m 13 ls [])) {x1 : Int32} {x2 : Int32} {x4 : Int32} {x5 : Int32} {H : Heap} {locs : List Loc} {ls : Array Slot} (hP : va_P D vwCl (wA cs ad Ls Hs T) H) (hS : va_S (Afr ad s.heap.size) s.heap H locs) (hl : lv_has ls 8 [(0, .ref (ad 0)), (1, .int x1), (2, .int x2), (4, .int x4), (5, .int x5)]) (h : f_L_areFit_b180 K13 Ls x1 x2 x4 x5 = some res) : W p l e rmL_areFit s m args below meth c H locs 0 0 (MQ below (va_Qi (fun r' (_ : Unit) => r' = res) (fun _ t => va_P D vwCl (wA cs ad Ls Hs T) t.heap) (Afr ad s.heap.size)) args s 1 6 (Afr ad s.heap.size)) (F0 m 180 ls []) := by
  unfold f_L_areFit_b180 at h
  refine lv_iconst (v := 0) C.1 C.2.1 dL_areFit_180 (by decide) ?_
  refine W.widen (k := 0) (n := 0) (by omega) (by omega) ?_
  exact w_L_areFit_b181 C G X N Y hfl hK13 hP hS (lv_sub hl [0, 1, 2, 3, 4] rfl) h
set_option maxRecDepth 100000 in
set_option maxHeartbeats 4000000 in
theorem w_L_areFit_b173 {res : Int32} (C : Cx p s m args meth c cL_areFit 8 (some .boolean) RL wsW_areFit) (G : Gx D cs ad s) (X : XS ad s.heap.size s s.heap) (N : NC s) (Y : YC s) (hfl : l.stackTraces = false) {Hs : SL} {T : SL} {Ls : Nat → SL} {K13 : (Nat → SL) → Int32 → Int32 → Int32 → Int32 → Option (Int32)} (hK13 : ∀ {x1 : Int32} {x2 : Int32} {x3 : Int32} {x4 : Int32} {H : Heap} {locs : List Loc} {ls : Array Slot}, va_P D vwCl (wA cs ad Ls Hs T) H → va_S (Afr ad s.heap.size) s.heap H locs → lv_has ls 8 [(0, .ref (ad 0)), (1, .int x1), (2, .int x2), (3, .int x3), (4, .int x4)] → K13 Ls x1 x2 x3 x4 = some res → W p l e rmL_areFit s m args below meth c H locs 0 0 (MQ below (va_Qi (fun r' (_ : Unit) => r' = res) (fun _ t => va_P D vwCl (wA cs ad Ls Hs T) t.heap) (Afr ad s.heap.size)) args s 1 6 (Afr ad s.heap.size)) (F0 m 13 ls [])) {x1 : Int32} {x2 : Int32} {x4 : Int32} {x5 : Int32} {s0 : Int32} {s1 : Int32} {H : Heap} {locs : List Loc} {ls : Array Slot} (hP : va_P D vwCl (wA cs ad Ls Hs T) H) (hS : va_S (Afr ad s.heap.size) s.heap H locs) (hl : lv_has ls 8 [(0, .ref (ad 0)), (1, .int x1), (2, .int x2), (4, .int x4), (5, .int x5)]) (h : f_L_areFit_b173 K13 Ls x1 x2 x4 x5 s0 s1 = some res) : W p l e rmL_areFit s m args below meth c H locs 0 0 (MQ below (va_Qi (fun r' (_ : Unit) => r' = res) (fun _ t => va_P D vwCl (wA cs ad Ls Hs T) t.heap) (Afr ad s.heap.size)) args s 1 6 (Afr ad s.heap.size)) (F0 m 173 ls [.int s1, .int s0]) := by
  unfold f_L_areFit_b173 at h
  refine lv_icmp_ne (tgt := 180) C.1 C.2.1 dL_areFit_173 (by decide) (fun c1 => ?_) (fun c1 => ?_)
  · have h := if_t c1 h
    refine W.widen (k := 0) (n := 0) (by omega) (by omega) ?_
    exact w_L_areFit_b180 C G X N Y hfl hK13 hP hS (lv_sub hl [0, 1, 2, 3, 4] rfl) h
  · have h := if_n c1 h
    refine lv_iconst (v := 1) C.1 C.2.1 dL_areFit_176 (by decide) ?_
    refine lv_goto (tgt := 181) C.1 C.2.1 dL_areFit_177 (by decide) ?_
    refine W.widen (k := 0) (n := 0) (by omega) (by omega) ?_
    exact w_L_areFit_b181 C G X N Y hfl hK13 hP hS (lv_sub hl [0, 1, 2, 3, 4] rfl) h
set_option maxRecDepth 100000 in
set_option maxHeartbeats 4000000 in
theorem w_L_areFit_b161 {res : Int32} (C : Cx p s m args meth c cL_areFit 8 (some .boolean) RL wsW_areFit) (G : Gx D cs ad s) (X : XS ad s.heap.size s s.heap) (N : NC s) (Y : YC s) (hfl : l.stackTraces = false) {Hs : SL} {T : SL} {Ls : Nat → SL} {K13 : (Nat → SL) → Int32 → Int32 → Int32 → Int32 → Option (Int32)} (hK13 : ∀ {x1 : Int32} {x2 : Int32} {x3 : Int32} {x4 : Int32} {H : Heap} {locs : List Loc} {ls : Array Slot}, va_P D vwCl (wA cs ad Ls Hs T) H → va_S (Afr ad s.heap.size) s.heap H locs → lv_has ls 8 [(0, .ref (ad 0)), (1, .int x1), (2, .int x2), (3, .int x3), (4, .int x4)] → K13 Ls x1 x2 x3 x4 = some res → W p l e rmL_areFit s m args below meth c H locs 0 0 (MQ below (va_Qi (fun r' (_ : Unit) => r' = res) (fun _ t => va_P D vwCl (wA cs ad Ls Hs T) t.heap) (Afr ad s.heap.size)) args s 1 6 (Afr ad s.heap.size)) (F0 m 13 ls [])) {x1 : Int32} {x2 : Int32} {x4 : Int32} {x5 : Int32} {s0 : Int32} {H : Heap} {locs : List Loc} {ls : Array Slot} (hP : va_P D vwCl (wA cs ad Ls Hs T) H) (hS : va_S (Afr ad s.heap.size) s.heap H locs) (hl : lv_has ls 8 [(0, .ref (ad 0)), (1, .int x1), (2, .int x2), (4, .int x4), (5, .int x5)]) (h : f_L_areFit_b161 K13 Ls x1 x2 x4 x5 s0 = some res) : W p l e rmL_areFit s m args below meth c H locs 0 0 (MQ below (va_Qi (fun r' (_ : Unit) => r' = res) (fun _ t => va_P D vwCl (wA cs ad Ls Hs T) t.heap) (Afr ad s.heap.size)) args s 1 6 (Afr ad s.heap.size)) (F0 m 161 ls [.int s0]) := by
  unfold f_L_areFit_b161 at h
  refine lv_aload_n C.1 C.2.1 dL_areFit_161 rfl (lv_at hl 0 rfl) ?_
  obtain ⟨r1, c2, h⟩ := bd_out h
  refine k_callVi C G hP hS (m_X5_now l G.2.1 _  c2) g_obj rfl (cwV 0 C.2.2.2.2.2.1 (lwG_cons wg_X5_now) rfl rfl rfl (by decide +kernel) ⟨Nat.le_of_ble_eq_true rfl, Nat.le_of_ble_eq_true rfl⟩) (As := []) rfl hl.1 rfl (Nat.le_of_ble_eq_true rfl) dL_areFit_162 ⟨Nat.le_of_ble_eq_true rfl, Nat.le_of_ble_eq_true rfl⟩ (fun H locs hP hS => ?_)
  refine lv_if_ne (tgt := 172) C.1 C.2.1 dL_areFit_165 (by decide) (fun c3 => ?_) (fun c3 => ?_)
  · have h := if_t c3 h
    refine lv_iconst (v := 0) C.1 C.2.1 dL_areFit_172 (by decide) ?_
    refine W.widen (k := 0) (n := 0) (by omega) (by omega) ?_
    exact w_L_areFit_b173 C G X N Y hfl hK13 hP hS (lv_sub hl [0, 1, 2, 3, 4] rfl) h
  · have h := if_n c3 h
    refine lv_iconst (v := 1) C.1 C.2.1 dL_areFit_168 (by decide) ?_
    refine lv_goto (tgt := 173) C.1 C.2.1 dL_areFit_169 (by decide) ?_
    refine W.widen (k := 0) (n := 0) (by omega) (by omega) ?_
    exact w_L_areFit_b173 C G X N Y hfl hK13 hP hS (lv_sub hl [0, 1, 2, 3, 4] rfl) h
set_option maxRecDepth 100000 in
set_option maxHeartbeats 4000000 in
theorem w_L_areFit_b55 {res : Int32} (C : Cx p s m args meth c cL_areFit 8 (some .boolean) RL wsW_areFit) (G : Gx D cs ad s) (X : XS ad s.heap.size s s.heap) (N : NC s) (Y : YC s) (hfl : l.stackTraces = false) {Hs : SL} {T : SL} {Ls : Nat → SL} {K13 : (Nat → SL) → Int32 → Int32 → Int32 → Int32 → Option (Int32)} (hK13 : ∀ {x1 : Int32} {x2 : Int32} {x3 : Int32} {x4 : Int32} {H : Heap} {locs : List Loc} {ls : Array Slot}, va_P D vwCl (wA cs ad Ls Hs T) H → va_S (Afr ad s.heap.size) s.heap H locs → lv_has ls 8 [(0, .ref (ad 0)), (1, .int x1), (2, .int x2), (3, .int x3), (4, .int x4)] → K13 Ls x1 x2 x3 x4 = some res → W p l e rmL_areFit s m args below meth c H locs 0 0 (MQ below (va_Qi (fun r' (_ : Unit) => r' = res) (fun _ t => va_P D vwCl (wA cs ad Ls Hs T) t.heap) (Afr ad s.heap.size)) args s 1 6 (Afr ad s.heap.size)) (F0 m 13 ls [])) {x1 : Int32} {x2 : Int32} {x4 : Int32} {x5 : Int32} {s0 : Int32} {H : Heap} {locs : List Loc} {ls : Array Slot} (hP : va_P D vwCl (wA cs ad Ls Hs T) H) (hS : va_S (Afr ad s.heap.size) s.heap H locs) (hl : lv_has ls 8 [(0, .ref (ad 0)), (1, .int x1), (2, .int x2), (4, .int x4), (5, .int x5)]) (h : f_L_areFit_b55 K13 Ls x1 x2 x4 x5 s0 = some res) : W p l e rmL_areFit s m args below meth c H locs 0 0 (MQ below (va_Qi (fun r' (_ : Unit) => r' = res) (fun _ t => va_P D vwCl (wA cs ad Ls Hs T) t.heap) (Afr ad s.heap.size)) args s 1 6 (Afr ad s.heap.size)) (F0 m 55 ls [.int s0]) := by
  unfold f_L_areFit_b55 at h
  refine lv_istore (lv' := [(6, .int s0), (0, .ref (ad 0)), (1, .int x1), (2, .int x2), (4, .int x4), (5, .int x5)]) C.1 C.2.1 dL_areFit_55 hl (by decide) rfl (fun ls hl => ?_)
  refine lv_iload_n C.1 C.2.1 dL_areFit_57 rfl (lv_at hl 3 rfl) ?_
  refine lv_iload C.1 C.2.1 dL_areFit_58 (lv_at hl 0 rfl) ?_
  refine lv_aload_n C.1 C.2.1 dL_areFit_60 rfl (lv_at hl 1 rfl) ?_
  refine lv_iload C.1 C.2.1 dL_areFit_61 (lv_at hl 4 rfl) ?_
  refine lv_iconst (v := 0) C.1 C.2.1 dL_areFit_63 (by decide) ?_
  obtain ⟨r2, c1, h⟩ := bd_out h
  refine k_callSWi C G X N Y hP hS (o_L_machine l G.2.1 _ (okv_out c1)) (vx_cwSW 3 C.2.2.2.2.2.1 (lwG_cons wl_machine) rfl rfl rfl (by decide +kernel) ⟨Nat.le_of_ble_eq_true rfl, Nat.le_of_ble_eq_true rfl⟩) (As := [.ref (ad 0), .int x4, .int 0]) rfl hl.1 rfl (Nat.le_of_ble_eq_true rfl) dL_areFit_64 ⟨Nat.le_of_ble_eq_true rfl, Nat.le_of_ble_eq_true rfl⟩ (fun H locs hP hS => ?_)
  obtain ⟨v3, ev3, h⟩ := lt_out h
  refine k_iadd C ev3 dL_areFit_67 ?_
  obtain ⟨v4, ev4, h⟩ := lt_out h
  refine k_iadd C ev4 dL_areFit_68 ?_
  refine lv_istore_n (lv' := [(2, .int v4), (6, .int s0), (0, .ref (ad 0)), (1, .int x1), (4, .int x4), (5, .int x5)]) C.1 C.2.1 dL_areFit_69 rfl hl (by decide) rfl (fun ls hl => ?_)
  refine lv_aload_n C.1 C.2.1 dL_areFit_70 rfl (lv_at hl 2 rfl) ?_
  refine lv_iload C.1 C.2.1 dL_areFit_71 (lv_at hl 4 rfl) ?_
  refine lv_iconst (v := 0) C.1 C.2.1 dL_areFit_73 (by decide) ?_
  obtain ⟨r6, c5, h⟩ := bd_out h
  refine k_callSWi C G X N Y hP hS (o_L_count l G.2.1 _ (okv_out c5)) (vx_cwSW 3 C.2.2.2.2.2.1 (lwG_cons wl_count) rfl rfl rfl (by decide +kernel) ⟨Nat.le_of_ble_eq_true rfl, Nat.le_of_ble_eq_true rfl⟩) (As := [.ref (ad 0), .int x4, .int 0]) rfl hl.1 rfl (Nat.le_of_ble_eq_true rfl) dL_areFit_74 ⟨Nat.le_of_ble_eq_true rfl, Nat.le_of_ble_eq_true rfl⟩ (fun H locs hP hS => ?_)
  refine lv_iload C.1 C.2.1 dL_areFit_77 (lv_at hl 5 rfl) ?_
  obtain ⟨v7, ev7, h⟩ := lt_out h
  refine k_iadd C ev7 dL_areFit_79 ?_
  refine lv_aload_n C.1 C.2.1 dL_areFit_80 rfl (lv_at hl 2 rfl) ?_
  refine lv_iload C.1 C.2.1 dL_areFit_81 (lv_at hl 4 rfl) ?_
  refine lv_iconst (v := 3) C.1 C.2.1 dL_areFit_83 (by decide) ?_
  obtain ⟨r9, c8, h⟩ := bd_out h
  refine k_callSWi C G X N Y hP hS (o_L_count l G.2.1 _ (okv_out c8)) (vx_cwSW 3 C.2.2.2.2.2.1 (lwG_cons wl_count) rfl rfl rfl (by decide +kernel) ⟨Nat.le_of_ble_eq_true rfl, Nat.le_of_ble_eq_true rfl⟩) (As := [.ref (ad 0), .int x4, .int 3]) rfl hl.1 rfl (Nat.le_of_ble_eq_true rfl) dL_areFit_84 ⟨Nat.le_of_ble_eq_true rfl, Nat.le_of_ble_eq_true rfl⟩ (fun H locs hP hS => ?_)
  obtain ⟨v10, ev10, h⟩ := lt_out h
  refine k_iadd C ev10 dL_areFit_87 ?_
  refine lv_aload_n C.1 C.2.1 dL_areFit_88 rfl (lv_at hl 2 rfl) ?_
  obtain ⟨r11, c12, h⟩ := bd_out h
  refine k_callVi C G hP hS (m_X5_now l G.2.1 _  c12) g_obj rfl (cwV 0 C.2.2.2.2.2.1 (lwG_cons wg_X5_now) rfl rfl rfl (by decide +kernel) ⟨Nat.le_of_ble_eq_true rfl, Nat.le_of_ble_eq_true rfl⟩) (As := []) rfl hl.1 rfl (Nat.le_of_ble_eq_true rfl) dL_areFit_89 ⟨Nat.le_of_ble_eq_true rfl, Nat.le_of_ble_eq_true rfl⟩ (fun H locs hP hS => ?_)
  refine lv_icmp_ne (tgt := 180) C.1 C.2.1 dL_areFit_92 (by decide) (fun c13 => ?_) (fun c13 => ?_)
  · have h := if_t c13 h
    refine W.widen (k := 0) (n := 0) (by omega) (by omega) ?_
    exact w_L_areFit_b180 C G X N Y hfl hK13 hP hS (lv_sub hl [2, 3, 0, 4, 5] rfl) h
  · have h := if_n c13 h
    refine lv_aload_n C.1 C.2.1 dL_areFit_95 rfl (lv_at hl 2 rfl) ?_
    refine lv_iload C.1 C.2.1 dL_areFit_96 (lv_at hl 4 rfl) ?_
    refine lv_iconst (v := 4) C.1 C.2.1 dL_areFit_98 (by decide) ?_
    obtain ⟨r15, c14, h⟩ := bd_out h
    refine k_callSWi C G X N Y hP hS (o_L_count l G.2.1 _ (okv_out c14)) (vx_cwSW 3 C.2.2.2.2.2.1 (lwG_cons wl_count) rfl rfl rfl (by decide +kernel) ⟨Nat.le_of_ble_eq_true rfl, Nat.le_of_ble_eq_true rfl⟩) (As := [.ref (ad 0), .int x4, .int 4]) rfl hl.1 rfl (Nat.le_of_ble_eq_true rfl) dL_areFit_99 ⟨Nat.le_of_ble_eq_true rfl, Nat.le_of_ble_eq_true rfl⟩ (fun H locs hP hS => ?_)
    refine lv_aload_n C.1 C.2.1 dL_areFit_102 rfl (lv_at hl 2 rfl) ?_
    refine lv_iload C.1 C.2.1 dL_areFit_103 (lv_at hl 4 rfl) ?_
    refine lv_iconst (v := 0) C.1 C.2.1 dL_areFit_105 (by decide) ?_
    obtain ⟨r17, c16, h⟩ := bd_out h
    refine k_callSWi C G X N Y hP hS (o_L_count l G.2.1 _ (okv_out c16)) (vx_cwSW 3 C.2.2.2.2.2.1 (lwG_cons wl_count) rfl rfl rfl (by decide +kernel) ⟨Nat.le_of_ble_eq_true rfl, Nat.le_of_ble_eq_true rfl⟩) (As := [.ref (ad 0), .int x4, .int 0]) rfl hl.1 rfl (Nat.le_of_ble_eq_true rfl) dL_areFit_106 ⟨Nat.le_of_ble_eq_true rfl, Nat.le_of_ble_eq_true rfl⟩ (fun H locs hP hS => ?_)
    refine lv_icmp_gt (tgt := 180) C.1 C.2.1 dL_areFit_109 (by decide) (fun c18 => ?_) (fun c18 => ?_)
    · have h := if_t c18 h
      refine W.widen (k := 0) (n := 0) (by omega) (by omega) ?_
      exact w_L_areFit_b180 C G X N Y hfl hK13 hP hS (lv_sub hl [2, 3, 0, 4, 5] rfl) h
    · have h := if_f c18 h
      refine lv_aload_n C.1 C.2.1 dL_areFit_112 rfl (lv_at hl 2 rfl) ?_
      refine lv_iload C.1 C.2.1 dL_areFit_113 (lv_at hl 4 rfl) ?_
      refine lv_iconst (v := 1) C.1 C.2.1 dL_areFit_115 (by decide) ?_
      obtain ⟨r20, c19, h⟩ := bd_out h
      refine k_callSWi C G X N Y hP hS (o_L_machine l G.2.1 _ (okv_out c19)) (vx_cwSW 3 C.2.2.2.2.2.1 (lwG_cons wl_machine) rfl rfl rfl (by decide +kernel) ⟨Nat.le_of_ble_eq_true rfl, Nat.le_of_ble_eq_true rfl⟩) (As := [.ref (ad 0), .int x4, .int 1]) rfl hl.1 rfl (Nat.le_of_ble_eq_true rfl) dL_areFit_116 ⟨Nat.le_of_ble_eq_true rfl, Nat.le_of_ble_eq_true rfl⟩ (fun H locs hP hS => ?_)
      refine lv_bipush (v := 20) C.1 C.2.1 dL_areFit_119 (by decide) ?_
      refine lv_icmp_ge (tgt := 180) C.1 C.2.1 dL_areFit_121 (by decide) (fun c21 => ?_) (fun c21 => ?_)
      · have h := if_t c21 h
        refine W.widen (k := 0) (n := 0) (by omega) (by omega) ?_
        exact w_L_areFit_b180 C G X N Y hfl hK13 hP hS (lv_sub hl [2, 3, 0, 4, 5] rfl) h
      · have h := if_f c21 h
        refine lv_aload_n C.1 C.2.1 dL_areFit_124 rfl (lv_at hl 2 rfl) ?_
        refine lv_iload C.1 C.2.1 dL_areFit_125 (lv_at hl 4 rfl) ?_
        refine lv_iconst (v := 0) C.1 C.2.1 dL_areFit_127 (by decide) ?_
        obtain ⟨r23, c22, h⟩ := bd_out h
        refine k_callSWi C G X N Y hP hS (o_L_machine l G.2.1 _ (okv_out c22)) (vx_cwSW 3 C.2.2.2.2.2.1 (lwG_cons wl_machine) rfl rfl rfl (by decide +kernel) ⟨Nat.le_of_ble_eq_true rfl, Nat.le_of_ble_eq_true rfl⟩) (As := [.ref (ad 0), .int x4, .int 0]) rfl hl.1 rfl (Nat.le_of_ble_eq_true rfl) dL_areFit_128 ⟨Nat.le_of_ble_eq_true rfl, Nat.le_of_ble_eq_true rfl⟩ (fun H locs hP hS => ?_)
        refine lv_if_lt (tgt := 180) C.1 C.2.1 dL_areFit_131 (by decide) (fun c24 => ?_) (fun c24 => ?_)
        · have h := if_t c24 h
          refine W.widen (k := 0) (n := 0) (by omega) (by omega) ?_
          exact w_L_areFit_b180 C G X N Y hfl hK13 hP hS (lv_sub hl [2, 3, 0, 4, 5] rfl) h
        · have h := if_f c24 h
          refine lv_aload_n C.1 C.2.1 dL_areFit_134 rfl (lv_at hl 2 rfl) ?_
          refine lv_iload C.1 C.2.1 dL_areFit_135 (lv_at hl 4 rfl) ?_
          refine lv_iconst (v := 0) C.1 C.2.1 dL_areFit_137 (by decide) ?_
          obtain ⟨r26, c25, h⟩ := bd_out h
          refine k_callSWi C G X N Y hP hS (o_L_machine l G.2.1 _ (okv_out c25)) (vx_cwSW 3 C.2.2.2.2.2.1 (lwG_cons wl_machine) rfl rfl rfl (by decide +kernel) ⟨Nat.le_of_ble_eq_true rfl, Nat.le_of_ble_eq_true rfl⟩) (As := [.ref (ad 0), .int x4, .int 0]) rfl hl.1 rfl (Nat.le_of_ble_eq_true rfl) dL_areFit_138 ⟨Nat.le_of_ble_eq_true rfl, Nat.le_of_ble_eq_true rfl⟩ (fun H locs hP hS => ?_)
          refine lv_bipush (v := 40) C.1 C.2.1 dL_areFit_141 (by decide) ?_
          refine lv_icmp_gt (tgt := 180) C.1 C.2.1 dL_areFit_143 (by decide) (fun c27 => ?_) (fun c27 => ?_)
          · have h := if_t c27 h
            refine W.widen (k := 0) (n := 0) (by omega) (by omega) ?_
            exact w_L_areFit_b180 C G X N Y hfl hK13 hP hS (lv_sub hl [2, 3, 0, 4, 5] rfl) h
          · have h := if_f c27 h
            refine lv_aload_n C.1 C.2.1 dL_areFit_146 rfl (lv_at hl 2 rfl) ?_
            refine lv_iload C.1 C.2.1 dL_areFit_147 (lv_at hl 4 rfl) ?_
            refine lv_iconst (v := 3) C.1 C.2.1 dL_areFit_149 (by decide) ?_
            obtain ⟨r29, c28, h⟩ := bd_out h
            refine k_callSWi C G X N Y hP hS (o_L_machine l G.2.1 _ (okv_out c28)) (vx_cwSW 3 C.2.2.2.2.2.1 (lwG_cons wl_machine) rfl rfl rfl (by decide +kernel) ⟨Nat.le_of_ble_eq_true rfl, Nat.le_of_ble_eq_true rfl⟩) (As := [.ref (ad 0), .int x4, .int 3]) rfl hl.1 rfl (Nat.le_of_ble_eq_true rfl) dL_areFit_150 ⟨Nat.le_of_ble_eq_true rfl, Nat.le_of_ble_eq_true rfl⟩ (fun H locs hP hS => ?_)
            refine lv_if_ne (tgt := 160) C.1 C.2.1 dL_areFit_153 (by decide) (fun c30 => ?_) (fun c30 => ?_)
            · have h := if_t c30 h
              refine lv_iconst (v := 0) C.1 C.2.1 dL_areFit_160 (by decide) ?_
              refine W.widen (k := 0) (n := 0) (by omega) (by omega) ?_
              exact w_L_areFit_b161 C G X N Y hfl hK13 hP hS (lv_sub hl [2, 3, 0, 4, 5] rfl) h
            · have h := if_n c30 h
              refine lv_iconst (v := 1) C.1 C.2.1 dL_areFit_156 (by decide) ?_
              refine lv_goto (tgt := 161) C.1 C.2.1 dL_areFit_157 (by decide) ?_
              refine W.widen (k := 0) (n := 0) (by omega) (by omega) ?_
              exact w_L_areFit_b161 C G X N Y hfl hK13 hP hS (lv_sub hl [2, 3, 0, 4, 5] rfl) h
set_option maxRecDepth 100000 in
set_option maxHeartbeats 4000000 in
theorem w_L_areFit_b421 {res : Int32} (C : Cx p s m args meth c cL_areFit 8 (some .boolean) RL wsW_areFit) (G : Gx D cs ad s) (X : XS ad s.heap.size s s.heap) (N : NC s) (Y : YC s) (hfl : l.stackTraces = false) {Hs : SL} {T : SL} {Ls : Nat → SL} {H : Heap} {locs : List Loc} {ls : Array Slot} (hP : va_P D vwCl (wA cs ad Ls Hs T) H) (hS : va_S (Afr ad s.heap.size) s.heap H locs) (hl : lv_has ls 8 []) (h : f_L_areFit_b421 Ls = some res) : W p l e rmL_areFit s m args below meth c H locs 1 6 (MQ below (va_Qi (fun r' (_ : Unit) => r' = res) (fun _ t => va_P D vwCl (wA cs ad Ls Hs T) t.heap) (Afr ad s.heap.size)) args s 1 6 (Afr ad s.heap.size)) (F0 m 421 ls []) := by
  unfold f_L_areFit_b421 at h
  refine lv_iconst (v := 1) C.1 C.2.1 dL_areFit_421 (by decide) ?_
  refine lv_goto (tgt := 426) C.1 C.2.1 dL_areFit_422 (by decide) ?_
  cases h
  refine W.widen (k := 1) (n := 6) (by omega) (by omega) ?_
  exact k_zret C hP hS nar_1 dL_areFit_426
set_option maxRecDepth 100000 in
set_option maxHeartbeats 4000000 in
theorem w_L_areFit_b425 {res : Int32} (C : Cx p s m args meth c cL_areFit 8 (some .boolean) RL wsW_areFit) (G : Gx D cs ad s) (X : XS ad s.heap.size s s.heap) (N : NC s) (Y : YC s) (hfl : l.stackTraces = false) {Hs : SL} {T : SL} {Ls : Nat → SL} {H : Heap} {locs : List Loc} {ls : Array Slot} (hP : va_P D vwCl (wA cs ad Ls Hs T) H) (hS : va_S (Afr ad s.heap.size) s.heap H locs) (hl : lv_has ls 8 []) (h : f_L_areFit_b425 Ls = some res) : W p l e rmL_areFit s m args below meth c H locs 1 6 (MQ below (va_Qi (fun r' (_ : Unit) => r' = res) (fun _ t => va_P D vwCl (wA cs ad Ls Hs T) t.heap) (Afr ad s.heap.size)) args s 1 6 (Afr ad s.heap.size)) (F0 m 425 ls []) := by
  unfold f_L_areFit_b425 at h
  refine lv_iconst (v := 0) C.1 C.2.1 dL_areFit_425 (by decide) ?_
  cases h
  refine W.widen (k := 1) (n := 6) (by omega) (by omega) ?_
  exact k_zret C hP hS nar_0 dL_areFit_426
set_option maxRecDepth 100000 in
set_option maxHeartbeats 4000000 in
theorem w_L_areFit_b389 {res : Int32} (C : Cx p s m args meth c cL_areFit 8 (some .boolean) RL wsW_areFit) (G : Gx D cs ad s) (X : XS ad s.heap.size s s.heap) (N : NC s) (Y : YC s) (hfl : l.stackTraces = false) {Hs : SL} {T : SL} {Ls : Nat → SL} {x1 : Int32} {x2 : Int32} {x3 : Int32} {H : Heap} {locs : List Loc} {ls : Array Slot} (hP : va_P D vwCl (wA cs ad Ls Hs T) H) (hS : va_S (Afr ad s.heap.size) s.heap H locs) (hl : lv_has ls 8 [(0, .ref (ad 0)), (1, .int x1), (2, .int x2), (3, .int x3)]) (h : f_L_areFit_b389 Ls x1 x2 x3 = some res) : W p l e rmL_areFit s m args below meth c H locs 0 0 (MQ below (va_Qi (fun r' (_ : Unit) => r' = res) (fun _ t => va_P D vwCl (wA cs ad Ls Hs T) t.heap) (Afr ad s.heap.size)) args s 1 6 (Afr ad s.heap.size)) (F0 m 389 ls []) := by
  unfold f_L_areFit_b389 at h
  refine lv_iload_n C.1 C.2.1 dL_areFit_389 rfl (lv_at hl 3 rfl) ?_
  refine lv_if_eq (tgt := 425) C.1 C.2.1 dL_areFit_390 (by decide) (fun c1 => ?_) (fun c1 => ?_)
  · have h := if_t c1 h
    refine W.widen (k := 1) (n := 6) (by omega) (by omega) ?_
    exact w_L_areFit_b425 C G X N Y hfl hP hS (lv_sub hl [] rfl) h
  · have h := if_f c1 h
    refine lv_aload_n C.1 C.2.1 dL_areFit_393 rfl (lv_at hl 0 rfl) ?_
    obtain ⟨r2, c3, h⟩ := bd_out h
    refine k_callVi C G hP hS (m_X5_inside l G.2.1 _  c3) g_obj rfl (cwV 0 C.2.2.2.2.2.1 (lwG_cons wg_X5_inside) rfl rfl rfl (by decide +kernel) ⟨Nat.le_of_ble_eq_true rfl, Nat.le_of_ble_eq_true rfl⟩) (As := []) rfl hl.1 rfl (Nat.le_of_ble_eq_true rfl) dL_areFit_394 ⟨Nat.le_of_ble_eq_true rfl, Nat.le_of_ble_eq_true rfl⟩ (fun H locs hP hS => ?_)
    refine lv_iload_n C.1 C.2.1 dL_areFit_397 rfl (lv_at hl 2 rfl) ?_
    refine lv_icmp_ne (tgt := 425) C.1 C.2.1 dL_areFit_398 (by decide) (fun c4 => ?_) (fun c4 => ?_)
    · have h := if_t c4 h
      refine W.widen (k := 1) (n := 6) (by omega) (by omega) ?_
      exact w_L_areFit_b425 C G X N Y hfl hP hS (lv_sub hl [] rfl) h
    · have h := if_n c4 h
      refine lv_iload_n C.1 C.2.1 dL_areFit_401 rfl (lv_at hl 1 rfl) ?_
      refine lv_if_gt (tgt := 421) C.1 C.2.1 dL_areFit_402 (by decide) (fun c5 => ?_) (fun c5 => ?_)
      · have h := if_t c5 h
        refine W.widen (k := 1) (n := 6) (by omega) (by omega) ?_
        exact w_L_areFit_b421 C G X N Y hfl hP hS (lv_sub hl [] rfl) h
      · have h := if_f c5 h
        refine lv_aload_n C.1 C.2.1 dL_areFit_405 rfl (lv_at hl 0 rfl) ?_
        obtain ⟨r6, c7, h⟩ := bd_out h
        refine k_callVi C G hP hS (m_X5_output l G.2.1 _  c7) g_obj rfl (cwV 0 C.2.2.2.2.2.1 (lwG_cons wg_X5_output) rfl rfl rfl (by decide +kernel) ⟨Nat.le_of_ble_eq_true rfl, Nat.le_of_ble_eq_true rfl⟩) (As := []) rfl hl.1 rfl (Nat.le_of_ble_eq_true rfl) dL_areFit_406 ⟨Nat.le_of_ble_eq_true rfl, Nat.le_of_ble_eq_true rfl⟩ (fun H locs hP hS => ?_)
        refine lv_if_ne (tgt := 425) C.1 C.2.1 dL_areFit_409 (by decide) (fun c8 => ?_) (fun c8 => ?_)
        · have h := if_t c8 h
          refine W.widen (k := 1) (n := 6) (by omega) (by omega) ?_
          exact w_L_areFit_b425 C G X N Y hfl hP hS (lv_sub hl [] rfl) h
        · have h := if_n c8 h
          refine lv_aload_n C.1 C.2.1 dL_areFit_412 rfl (lv_at hl 0 rfl) ?_
          obtain ⟨r10, c9, h⟩ := bd_out h
          refine k_callSWi C G X N Y hP hS (m_L_limiting l hfl G.2.1 _ c9) (vx_cwSW 1 C.2.2.2.2.2.1 (lwG_cons wl_limiting) rfl rfl rfl (by decide +kernel) ⟨Nat.le_of_ble_eq_true rfl, Nat.le_of_ble_eq_true rfl⟩) (As := [.ref (ad 0)]) rfl hl.1 rfl (Nat.le_of_ble_eq_true rfl) dL_areFit_413 ⟨Nat.le_of_ble_eq_true rfl, Nat.le_of_ble_eq_true rfl⟩ (fun H locs hP hS => ?_)
          refine k_ldci C G (List.mem_cons_of_mem _ lk_20) dL_areFit_416 ?_
          refine lv_icmp_ne (tgt := 425) C.1 C.2.1 dL_areFit_418 (by decide) (fun c11 => ?_) (fun c11 => ?_)
          · have h := if_t c11 h
            refine W.widen (k := 1) (n := 6) (by omega) (by omega) ?_
            exact w_L_areFit_b425 C G X N Y hfl hP hS (lv_sub hl [] rfl) h
          · have h := if_n c11 h
            refine W.widen (k := 1) (n := 6) (by omega) (by omega) ?_
            exact w_L_areFit_b421 C G X N Y hfl hP hS (lv_sub hl [] rfl) h
set_option maxRecDepth 100000 in
set_option maxHeartbeats 4000000 in
theorem w_L_areFit_b13 {res : Int32} (C : Cx p s m args meth c cL_areFit 8 (some .boolean) RL wsW_areFit) (G : Gx D cs ad s) (X : XS ad s.heap.size s s.heap) (N : NC s) (Y : YC s) (hfl : l.stackTraces = false) {Hs : SL} {T : SL} {Ls : Nat → SL} {K13 : (Nat → SL) → Int32 → Int32 → Int32 → Int32 → Option (Int32)} (hK13 : ∀ {x1 : Int32} {x2 : Int32} {x3 : Int32} {x4 : Int32} {H : Heap} {locs : List Loc} {ls : Array Slot}, va_P D vwCl (wA cs ad Ls Hs T) H → va_S (Afr ad s.heap.size) s.heap H locs → lv_has ls 8 [(0, .ref (ad 0)), (1, .int x1), (2, .int x2), (3, .int x3), (4, .int x4)] → K13 Ls x1 x2 x3 x4 = some res → W p l e rmL_areFit s m args below meth c H locs 0 0 (MQ below (va_Qi (fun r' (_ : Unit) => r' = res) (fun _ t => va_P D vwCl (wA cs ad Ls Hs T) t.heap) (Afr ad s.heap.size)) args s 1 6 (Afr ad s.heap.size)) (F0 m 13 ls [])) {x1 : Int32} {x2 : Int32} {x3 : Int32} {x4 : Int32} {H : Heap} {locs : List Loc} {ls : Array Slot} (hP : va_P D vwCl (wA cs ad Ls Hs T) H) (hS : va_S (Afr ad s.heap.size) s.heap H locs) (hl : lv_has ls 8 [(0, .ref (ad 0)), (1, .int x1), (2, .int x2), (3, .int x3), (4, .int x4)]) (h : f_L_areFit_b13 K13 Ls x1 x2 x3 x4 = some res) : W p l e rmL_areFit s m args below meth c H locs 0 0 (MQ below (va_Qi (fun r' (_ : Unit) => r' = res) (fun _ t => va_P D vwCl (wA cs ad Ls Hs T) t.heap) (Afr ad s.heap.size)) args s 1 6 (Afr ad s.heap.size)) (F0 m 13 ls []) := by
  unfold f_L_areFit_b13 at h
  refine lv_iload C.1 C.2.1 dL_areFit_13 (lv_at hl 4 rfl) ?_
  refine lv_iload_n C.1 C.2.1 dL_areFit_15 rfl (lv_at hl 1 rfl) ?_
  refine lv_icmp_ge (tgt := 389) C.1 C.2.1 dL_areFit_16 (by decide) (fun c1 => ?_) (fun c1 => ?_)
  · have h := if_t c1 h
    refine W.widen (k := 0) (n := 0) (by omega) (by omega) ?_
    exact w_L_areFit_b389 C G X N Y hfl hP hS (lv_sub hl [0, 1, 2, 3] rfl) h
  · have h := if_f c1 h
    refine lv_iload_n C.1 C.2.1 dL_areFit_19 rfl (lv_at hl 3 rfl) ?_
    refine lv_if_eq (tgt := 389) C.1 C.2.1 dL_areFit_20 (by decide) (fun c2 => ?_) (fun c2 => ?_)
    · have h := if_t c2 h
      refine W.widen (k := 0) (n := 0) (by omega) (by omega) ?_
      exact w_L_areFit_b389 C G X N Y hfl hP hS (lv_sub hl [0, 1, 2, 3] rfl) h
    · have h := if_f c2 h
      refine lv_aload_n C.1 C.2.1 dL_areFit_23 rfl (lv_at hl 0 rfl) ?_
      refine lv_iload C.1 C.2.1 dL_areFit_24 (lv_at hl 4 rfl) ?_
      refine lv_iconst (v := 1) C.1 C.2.1 dL_areFit_26 (by decide) ?_
      obtain ⟨r4, c3, h⟩ := bd_out h
      refine k_callSWi C G X N Y hP hS (o_L_count l G.2.1 _ (okv_out c3)) (vx_cwSW 3 C.2.2.2.2.2.1 (lwG_cons wl_count) rfl rfl rfl (by decide +kernel) ⟨Nat.le_of_ble_eq_true rfl, Nat.le_of_ble_eq_true rfl⟩) (As := [.ref (ad 0), .int x4, .int 1]) rfl hl.1 rfl (Nat.le_of_ble_eq_true rfl) dL_areFit_27 ⟨Nat.le_of_ble_eq_true rfl, Nat.le_of_ble_eq_true rfl⟩ (fun H locs hP hS => ?_)
      refine lv_aload_n C.1 C.2.1 dL_areFit_30 rfl (lv_at hl 0 rfl) ?_
      refine lv_iload C.1 C.2.1 dL_areFit_31 (lv_at hl 4 rfl) ?_
      refine lv_iconst (v := 2) C.1 C.2.1 dL_areFit_33 (by decide) ?_
      obtain ⟨r6, c5, h⟩ := bd_out h
      refine k_callSWi C G X N Y hP hS (o_L_count l G.2.1 _ (okv_out c5)) (vx_cwSW 3 C.2.2.2.2.2.1 (lwG_cons wl_count) rfl rfl rfl (by decide +kernel) ⟨Nat.le_of_ble_eq_true rfl, Nat.le_of_ble_eq_true rfl⟩) (As := [.ref (ad 0), .int x4, .int 2]) rfl hl.1 rfl (Nat.le_of_ble_eq_true rfl) dL_areFit_34 ⟨Nat.le_of_ble_eq_true rfl, Nat.le_of_ble_eq_true rfl⟩ (fun H locs hP hS => ?_)
      obtain ⟨v7, ev7, h⟩ := lt_out h
      refine k_iadd C ev7 dL_areFit_37 ?_
      refine lv_istore (lv' := [(5, .int v7), (0, .ref (ad 0)), (1, .int x1), (2, .int x2), (3, .int x3), (4, .int x4)]) C.1 C.2.1 dL_areFit_38 hl (by decide) rfl (fun ls hl => ?_)
      refine lv_aload_n C.1 C.2.1 dL_areFit_40 rfl (lv_at hl 1 rfl) ?_
      refine lv_iload C.1 C.2.1 dL_areFit_41 (lv_at hl 5 rfl) ?_
      refine lv_iconst (v := 1) C.1 C.2.1 dL_areFit_43 (by decide) ?_
      obtain ⟨r9, c8, h⟩ := bd_out h
      refine k_callSWi C G X N Y hP hS (o_L_machine l G.2.1 _ (okv_out c8)) (vx_cwSW 3 C.2.2.2.2.2.1 (lwG_cons wl_machine) rfl rfl rfl (by decide +kernel) ⟨Nat.le_of_ble_eq_true rfl, Nat.le_of_ble_eq_true rfl⟩) (As := [.ref (ad 0), .int x4, .int 1]) rfl hl.1 rfl (Nat.le_of_ble_eq_true rfl) dL_areFit_44 ⟨Nat.le_of_ble_eq_true rfl, Nat.le_of_ble_eq_true rfl⟩ (fun H locs hP hS => ?_)
      refine lv_if_lt (tgt := 54) C.1 C.2.1 dL_areFit_47 (by decide) (fun c10 => ?_) (fun c10 => ?_)
      · have h := if_t c10 h
        refine lv_iconst (v := 0) C.1 C.2.1 dL_areFit_54 (by decide) ?_
        refine W.widen (k := 0) (n := 0) (by omega) (by omega) ?_
        exact w_L_areFit_b55 C G X N Y hfl hK13 hP hS (lv_sub hl [1, 2, 3, 5, 0] rfl) h
      · have h := if_f c10 h
        refine lv_iconst (v := 1) C.1 C.2.1 dL_areFit_50 (by decide) ?_
        refine lv_goto (tgt := 55) C.1 C.2.1 dL_areFit_51 (by decide) ?_
        refine W.widen (k := 0) (n := 0) (by omega) (by omega) ?_
        exact w_L_areFit_b55 C G X N Y hfl hK13 hP hS (lv_sub hl [1, 2, 3, 5, 0] rfl) h
set_option maxRecDepth 100000 in
set_option maxHeartbeats 4000000 in
theorem w_L_areFit_h13 {res : Int32} (C : Cx p s m args meth c cL_areFit 8 (some .boolean) RL wsW_areFit) (G : Gx D cs ad s) (X : XS ad s.heap.size s s.heap) (N : NC s) (Y : YC s) (hfl : l.stackTraces = false) {Hs : SL} {T : SL} {Ls : Nat → SL} : ∀ (n : Nat) {x1 : Int32} {x2 : Int32} {x3 : Int32} {x4 : Int32} {H : Heap} {locs : List Loc} {ls : Array Slot}, va_P D vwCl (wA cs ad Ls Hs T) H → va_S (Afr ad s.heap.size) s.heap H locs → lv_has ls 8 [(0, .ref (ad 0)), (1, .int x1), (2, .int x2), (3, .int x3), (4, .int x4)] → f_L_areFit_h13 n Ls x1 x2 x3 x4 = some res → W p l e rmL_areFit s m args below meth c H locs 0 0 (MQ below (va_Qi (fun r' (_ : Unit) => r' = res) (fun _ t => va_P D vwCl (wA cs ad Ls Hs T) t.heap) (Afr ad s.heap.size)) args s 1 6 (Afr ad s.heap.size)) (F0 m 13 ls []) := by
  intro n
  induction n with
  | zero => intro  x1 x2 x3 x4 H locs ls hP hS hl  h; cases h
  | succ n ih => intro  x1 x2 x3 x4 H locs ls hP hS hl  h; exact w_L_areFit_b13 C G X N Y hfl   ih hP hS hl  h
set_option maxRecDepth 100000 in
set_option maxHeartbeats 4000000 in
theorem w_L_areFit_e {res : Int32} (C : Cx p s m args meth c cL_areFit 8 (some .boolean) RL wsW_areFit) (G : Gx D cs ad s) (X : XS ad s.heap.size s s.heap) (N : NC s) (Y : YC s) (hfl : l.stackTraces = false) {Hs : SL} {T : SL} {Ls : Nat → SL} {H : Heap} {locs : List Loc} {ls : Array Slot} (hP : va_P D vwCl (wA cs ad Ls Hs T) H) (hS : va_S (Afr ad s.heap.size) s.heap H locs) (hl : lv_has ls 8 [(0, .ref (ad 0))]) (h : f_L_areFit Ls = some res) : W p l e rmL_areFit s m args below meth c H locs 0 0 (MQ below (va_Qi (fun r' (_ : Unit) => r' = res) (fun _ t => va_P D vwCl (wA cs ad Ls Hs T) t.heap) (Afr ad s.heap.size)) args s 1 6 (Afr ad s.heap.size)) (F0 m 0 ls []) := by
  unfold f_L_areFit at h
  refine lv_aload_n C.1 C.2.1 dL_areFit_0 rfl (lv_at hl 0 rfl) ?_
  refine lv_iconst (v := 0) C.1 C.2.1 dL_areFit_1 (by decide) ?_
  obtain ⟨r1, c2, h⟩ := bd_out h
  refine k_callVi C G hP hS (m_X5_size l G.2.1 _  c2) g_obj rfl (cwV 1 C.2.2.2.2.2.1 (lwG_cons wg_X5_size) rfl rfl rfl (by decide +kernel) ⟨Nat.le_of_ble_eq_true rfl, Nat.le_of_ble_eq_true rfl⟩) (As := [.int 0]) rfl hl.1 rfl (Nat.le_of_ble_eq_true rfl) dL_areFit_2 ⟨Nat.le_of_ble_eq_true rfl, Nat.le_of_ble_eq_true rfl⟩ (fun H locs hP hS => ?_)
  refine lv_istore_n (lv' := [(1, .int r1), (0, .ref (ad 0))]) C.1 C.2.1 dL_areFit_5 rfl hl (by decide) rfl (fun ls hl => ?_)
  refine lv_iconst (v := 0) C.1 C.2.1 dL_areFit_6 (by decide) ?_
  refine lv_istore_n (lv' := [(2, .int 0), (1, .int r1), (0, .ref (ad 0))]) C.1 C.2.1 dL_areFit_7 rfl hl (by decide) rfl (fun ls hl => ?_)
  refine lv_iconst (v := 1) C.1 C.2.1 dL_areFit_8 (by decide) ?_
  refine lv_istore_n (lv' := [(3, .int 1), (2, .int 0), (1, .int r1), (0, .ref (ad 0))]) C.1 C.2.1 dL_areFit_9 rfl hl (by decide) rfl (fun ls hl => ?_)
  refine lv_iconst (v := 0) C.1 C.2.1 dL_areFit_10 (by decide) ?_
  refine lv_istore (lv' := [(4, .int 0), (3, .int 1), (2, .int 0), (1, .int r1), (0, .ref (ad 0))]) C.1 C.2.1 dL_areFit_11 hl (by decide) rfl (fun ls hl => ?_)
  refine W.widen (k := 0) (n := 0) (by omega) (by omega) ?_
  exact w_L_areFit_h13 C G X N Y hfl fuel hP hS (lv_sub hl [4, 3, 2, 1, 0] rfl) h
set_option maxRecDepth 100000 in
set_option maxHeartbeats 4000000 in
theorem m_L_areFit (l : Launch) (hfl : l.stackTraces = false) {D : va_G} {cs : Nat → ClassId} {ad : Nat → Nat} (hAd : adOK ad) (sz : Nat) {Ls : Nat → SL} {Hs : SL} {T : SL} {res : Int32} (h : f_L_areFit Ls = some res) : Met l yL_areFit wsW_areFit rmL_areFit (PW D cs ad sz (wA cs ad Ls Hs T) [.ref (ad 0)]) (va_Qi (fun r' (_ : Unit) => r' = res) (fun _ t => va_P D vwCl (wA cs ad Ls Hs T) t.heap) (Afr ad sz)) 1 6 (Afr ad sz) :=
  k_metP (by decide) rfl (Nat.le_of_ble_eq_true rfl) hAd (fun p e s m below meth c ls C G X N Y hP hsz hl hS => by
    subst hsz
    exact w_L_areFit_e C G X N Y hfl hP hS hl h)
/-! L isAnew -/
abbrev rmL_isAnew : Room := { frames := 10, cells := 21, slots := 126, locals := 187 }
set_option maxRecDepth 100000 in
set_option maxHeartbeats 4000000 in
theorem w_L_isAnew_b41 {res : Int32 × (Nat → SL) × SL} (C : Cx p s m args meth c cL_isAnew 9 (some .boolean) RL wsW_isAnew) (G : Gx D cs ad s) (X : XS ad s.heap.size s s.heap) (N : NC s) (Y : YC s) (hfl : l.stackTraces = false) {T : SL} {Ls : Nat → SL} {Hs : SL} {H : Heap} {locs : List Loc} {ls : Array Slot} (hP : va_P D vwCl (wA cs ad Ls Hs T) H) (hS : va_S (Afr ad s.heap.size) s.heap H locs) (hl : lv_has ls 9 []) (h : f_L_isAnew_b41 Ls Hs = some res) : W p l e rmL_isAnew s m args below meth c H locs 21 126 (MQ below (va_Qi (fun r' (_ : Unit) => r' = res.1) (fun _ t => va_P D vwCl (wA cs ad res.2.1 res.2.2 T) t.heap) (Afr ad s.heap.size)) args s 21 126 (Afr ad s.heap.size)) (F0 m 41 ls []) := by
  unfold f_L_isAnew_b41 at h
  refine lv_iconst (v := 0) C.1 C.2.1 dL_isAnew_41 (by decide) ?_
  cases h
  refine W.widen (k := 21) (n := 126) (by omega) (by omega) ?_
  exact k_zret C hP hS nar_0 dL_isAnew_42
set_option maxRecDepth 100000 in
set_option maxHeartbeats 4000000 in
theorem w_L_isAnew_b251 {res : Int32 × (Nat → SL) × SL} (C : Cx p s m args meth c cL_isAnew 9 (some .boolean) RL wsW_isAnew) (G : Gx D cs ad s) (X : XS ad s.heap.size s s.heap) (N : NC s) (Y : YC s) (hfl : l.stackTraces = false) {T : SL} {Ls : Nat → SL} {Hs : SL} {H : Heap} {locs : List Loc} {ls : Array Slot} (hP : va_P D vwCl (wA cs ad Ls Hs T) H) (hS : va_S (Afr ad s.heap.size) s.heap H locs) (hl : lv_has ls 9 []) (h : f_L_isAnew_b251 Ls Hs = some res) : W p l e rmL_isAnew s m args below meth c H locs 21 126 (MQ below (va_Qi (fun r' (_ : Unit) => r' = res.1) (fun _ t => va_P D vwCl (wA cs ad res.2.1 res.2.2 T) t.heap) (Afr ad s.heap.size)) args s 21 126 (Afr ad s.heap.size)) (F0 m 251 ls []) := by
  unfold f_L_isAnew_b251 at h
  refine lv_iconst (v := 0) C.1 C.2.1 dL_isAnew_251 (by decide) ?_
  cases h
  refine W.widen (k := 21) (n := 126) (by omega) (by omega) ?_
  exact k_zret C hP hS nar_0 dL_isAnew_252
set_option maxRecDepth 100000 in
set_option maxHeartbeats 4000000 in
theorem w_L_isAnew_b217 {res : Int32 × (Nat → SL) × SL} (C : Cx p s m args meth c cL_isAnew 9 (some .boolean) RL wsW_isAnew) (G : Gx D cs ad s) (X : XS ad s.heap.size s s.heap) (N : NC s) (Y : YC s) (hfl : l.stackTraces = false) {T : SL} {Ls : Nat → SL} {Hs : SL} {y2 : Int64} {s0 : Int32} {H : Heap} {locs : List Loc} {ls : Array Slot} (hP : va_P D vwCl (wA cs ad Ls Hs T) H) (hS : va_S (Afr ad s.heap.size) s.heap H locs) (hl : lv_has ls 9 [(0, .ref (ad 0)), (2, .long y2)]) (h : f_L_isAnew_b217 Ls Hs y2 s0 = some res) : W p l e rmL_isAnew s m args below meth c H locs 19 114 (MQ below (va_Qi (fun r' (_ : Unit) => r' = res.1) (fun _ t => va_P D vwCl (wA cs ad res.2.1 res.2.2 T) t.heap) (Afr ad s.heap.size)) args s 21 126 (Afr ad s.heap.size)) (F0 m 217 ls [.int s0]) := by
  unfold f_L_isAnew_b217 at h
  refine lv_istore (lv' := [(8, .int s0), (0, .ref (ad 0)), (2, .long y2)]) C.1 C.2.1 dL_isAnew_217 hl (by decide) rfl (fun ls hl => ?_)
  refine lv_iload C.1 C.2.1 dL_isAnew_219 (lv_at hl 0 rfl) ?_
  refine lv_if_eq (tgt := 251) C.1 C.2.1 dL_isAnew_221 (by decide) (fun c1 => ?_) (fun c1 => ?_)
  · have h := if_t c1 h
    refine W.widen (k := 21) (n := 126) (by omega) (by omega) ?_
    exact w_L_isAnew_b251 C G X N Y hfl hP hS (lv_sub hl [] rfl) h
  · have h := if_f c1 h
    refine lv_aload_n C.1 C.2.1 dL_isAnew_224 rfl (lv_at hl 1 rfl) ?_
    obtain ⟨r3, Ls4, Hs5, c2, h⟩ := bd3_out h
    refine k_callSWi C G X N Y hP hS (m_L_undo l hfl G.2.1 _ c2) (vx_cwSW 1 C.2.2.2.2.2.1 (lwG_cons wl_undo) rfl rfl rfl (by decide +kernel) ⟨Nat.le_of_ble_eq_true rfl, Nat.le_of_ble_eq_true rfl⟩) (As := [.ref (ad 0)]) rfl hl.1 rfl (Nat.le_of_ble_eq_true rfl) dL_isAnew_225 ⟨Nat.le_of_ble_eq_true rfl, Nat.le_of_ble_eq_true rfl⟩ (fun H locs hP hS => ?_)
    refine lv_if_lt (tgt := 251) C.1 C.2.1 dL_isAnew_228 (by decide) (fun c6 => ?_) (fun c6 => ?_)
    · have h := if_t c6 h
      refine W.widen (k := 21) (n := 126) (by omega) (by omega) ?_
      exact w_L_isAnew_b251 C G X N Y hfl hP hS (lv_sub hl [] rfl) h
    · have h := if_f c6 h
      refine lv_aload_n C.1 C.2.1 dL_isAnew_231 rfl (lv_at hl 1 rfl) ?_
      obtain ⟨r8, Ls9, Hs10, c7, h⟩ := bd3_out h
      refine k_callSWi C G X N Y hP hS (m_L_undo l hfl G.2.1 _ c7) (vx_cwSW 1 C.2.2.2.2.2.1 (lwG_cons wl_undo) rfl rfl rfl (by decide +kernel) ⟨Nat.le_of_ble_eq_true rfl, Nat.le_of_ble_eq_true rfl⟩) (As := [.ref (ad 0)]) rfl hl.1 rfl (Nat.le_of_ble_eq_true rfl) dL_isAnew_232 ⟨Nat.le_of_ble_eq_true rfl, Nat.le_of_ble_eq_true rfl⟩ (fun H locs hP hS => ?_)
      refine lv_if_lt (tgt := 251) C.1 C.2.1 dL_isAnew_235 (by decide) (fun c11 => ?_) (fun c11 => ?_)
      · have h := if_t c11 h
        refine W.widen (k := 21) (n := 126) (by omega) (by omega) ?_
        exact w_L_isAnew_b251 C G X N Y hfl hP hS (lv_sub hl [] rfl) h
      · have h := if_f c11 h
        refine lv_aload_n C.1 C.2.1 dL_isAnew_238 rfl (lv_at hl 1 rfl) ?_
        obtain ⟨w12, c13, h⟩ := bd_out h
        refine k_callSPl C G X N Y hP hS (m_L_print l hfl G.2.1 _ c13) (va_cwS 1 C.2.2.2.2.2.1 (lwG_cons wl_print) rfl rfl rfl (by decide +kernel) ⟨Nat.le_of_ble_eq_true rfl, Nat.le_of_ble_eq_true rfl⟩) (As := [.ref (ad 0)]) rfl hl.1 rfl (Nat.le_of_ble_eq_true rfl) dL_isAnew_239 ⟨Nat.le_of_ble_eq_true rfl, Nat.le_of_ble_eq_true rfl⟩ (fun H locs hP hS => ?_)
        refine lv_lload_n C.1 C.2.1 dL_isAnew_242 rfl (lv_at hl 2 rfl) ?_
        obtain ⟨v14, ev14, h⟩ := lt_out h
        refine k_lcmp C ev14 dL_isAnew_243 ?_
        refine lv_if_ne (tgt := 251) C.1 C.2.1 dL_isAnew_244 (by decide) (fun c15 => ?_) (fun c15 => ?_)
        · have h := if_t c15 h
          refine W.widen (k := 21) (n := 126) (by omega) (by omega) ?_
          exact w_L_isAnew_b251 C G X N Y hfl hP hS (lv_sub hl [] rfl) h
        · have h := if_n c15 h
          refine lv_iconst (v := 1) C.1 C.2.1 dL_isAnew_247 (by decide) ?_
          refine lv_goto (tgt := 252) C.1 C.2.1 dL_isAnew_248 (by decide) ?_
          cases h
          refine W.widen (k := 21) (n := 126) (by omega) (by omega) ?_
          exact k_zret C hP hS nar_1 dL_isAnew_252
set_option maxRecDepth 100000 in
set_option maxHeartbeats 4000000 in
theorem w_L_isAnew_b216 {res : Int32 × (Nat → SL) × SL} (C : Cx p s m args meth c cL_isAnew 9 (some .boolean) RL wsW_isAnew) (G : Gx D cs ad s) (X : XS ad s.heap.size s s.heap) (N : NC s) (Y : YC s) (hfl : l.stackTraces = false) {T : SL} {Ls : Nat → SL} {Hs : SL} {y2 : Int64} {H : Heap} {locs : List Loc} {ls : Array Slot} (hP : va_P D vwCl (wA cs ad Ls Hs T) H) (hS : va_S (Afr ad s.heap.size) s.heap H locs) (hl : lv_has ls 9 [(0, .ref (ad 0)), (2, .long y2)]) (h : f_L_isAnew_b216 Ls Hs y2 = some res) : W p l e rmL_isAnew s m args below meth c H locs 19 114 (MQ below (va_Qi (fun r' (_ : Unit) => r' = res.1) (fun _ t => va_P D vwCl (wA cs ad res.2.1 res.2.2 T) t.heap) (Afr ad s.heap.size)) args s 21 126 (Afr ad s.heap.size)) (F0 m 216 ls []) := by
  unfold f_L_isAnew_b216 at h
  refine lv_iconst (v := 0) C.1 C.2.1 dL_isAnew_216 (by decide) ?_
  refine W.widen (k := 19) (n := 114) (by omega) (by omega) ?_
  exact w_L_isAnew_b217 C G X N Y hfl hP hS (lv_sub hl [0, 1] rfl) h
set_option maxRecDepth 100000 in
set_option maxHeartbeats 4000000 in
theorem w_L_isAnew_b178 {res : Int32 × (Nat → SL) × SL} (C : Cx p s m args meth c cL_isAnew 9 (some .boolean) RL wsW_isAnew) (G : Gx D cs ad s) (X : XS ad s.heap.size s s.heap) (N : NC s) (Y : YC s) (hfl : l.stackTraces = false) {T : SL} {Ls : Nat → SL} {Hs : SL} {x1 : Int32} {y2 : Int64} {x5 : Int32} {s0 : Int32} {H : Heap} {locs : List Loc} {ls : Array Slot} (hP : va_P D vwCl (wA cs ad Ls Hs T) H) (hS : va_S (Afr ad s.heap.size) s.heap H locs) (hl : lv_has ls 9 [(0, .ref (ad 0)), (1, .int x1), (2, .long y2), (5, .int x5)]) (h : f_L_isAnew_b178 Ls Hs x1 y2 x5 s0 = some res) : W p l e rmL_isAnew s m args below meth c H locs 17 102 (MQ below (va_Qi (fun r' (_ : Unit) => r' = res.1) (fun _ t => va_P D vwCl (wA cs ad res.2.1 res.2.2 T) t.heap) (Afr ad s.heap.size)) args s 21 126 (Afr ad s.heap.size)) (F0 m 178 ls [.int s0]) := by
  unfold f_L_isAnew_b178 at h
  refine lv_istore (lv' := [(8, .int s0), (0, .ref (ad 0)), (1, .int x1), (2, .long y2), (5, .int x5)]) C.1 C.2.1 dL_isAnew_178 hl (by decide) rfl (fun ls hl => ?_)
  refine lv_iload C.1 C.2.1 dL_isAnew_180 (lv_at hl 0 rfl) ?_
  refine lv_if_eq (tgt := 216) C.1 C.2.1 dL_isAnew_182 (by decide) (fun c1 => ?_) (fun c1 => ?_)
  · have h := if_t c1 h
    refine W.widen (k := 19) (n := 114) (by omega) (by omega) ?_
    exact w_L_isAnew_b216 C G X N Y hfl hP hS (lv_sub hl [1, 3] rfl) h
  · have h := if_f c1 h
    refine lv_aload_n C.1 C.2.1 dL_isAnew_185 rfl (lv_at hl 1 rfl) ?_
    refine lv_iload_n C.1 C.2.1 dL_isAnew_186 rfl (lv_at hl 2 rfl) ?_
    obtain ⟨r3, Ls4, Hs5, c2, h⟩ := bd3_out h
    refine k_callSWi C G X N Y hP hS (m_L_run l hfl G.2.1 _ c2) (vx_cwSW 2 C.2.2.2.2.2.1 (lwG_cons wl_run) rfl rfl rfl (by decide +kernel) ⟨Nat.le_of_ble_eq_true rfl, Nat.le_of_ble_eq_true rfl⟩) (As := [.ref (ad 0), .int x1]) rfl hl.1 rfl (Nat.le_of_ble_eq_true rfl) dL_isAnew_187 ⟨Nat.le_of_ble_eq_true rfl, Nat.le_of_ble_eq_true rfl⟩ (fun H locs hP hS => ?_)
    refine lv_iload C.1 C.2.1 dL_isAnew_190 (lv_at hl 4 rfl) ?_
    refine lv_icmp_ne (tgt := 216) C.1 C.2.1 dL_isAnew_192 (by decide) (fun c6 => ?_) (fun c6 => ?_)
    · have h := if_t c6 h
      refine W.widen (k := 19) (n := 114) (by omega) (by omega) ?_
      exact w_L_isAnew_b216 C G X N Y hfl hP hS (lv_sub hl [1, 3] rfl) h
    · have h := if_n c6 h
      refine lv_aload_n C.1 C.2.1 dL_isAnew_195 rfl (lv_at hl 1 rfl) ?_
      obtain ⟨r7, c8, h⟩ := bd_out h
      refine k_callVi C G hP hS (m_X5_output l G.2.1 _  c8) g_obj rfl (cwV 0 C.2.2.2.2.2.1 (lwG_cons wg_X5_output) rfl rfl rfl (by decide +kernel) ⟨Nat.le_of_ble_eq_true rfl, Nat.le_of_ble_eq_true rfl⟩) (As := []) rfl hl.1 rfl (Nat.le_of_ble_eq_true rfl) dL_isAnew_196 ⟨Nat.le_of_ble_eq_true rfl, Nat.le_of_ble_eq_true rfl⟩ (fun H locs hP hS => ?_)
      refine lv_iload C.1 C.2.1 dL_isAnew_199 (lv_at hl 4 rfl) ?_
      refine lv_icmp_ne (tgt := 216) C.1 C.2.1 dL_isAnew_201 (by decide) (fun c9 => ?_) (fun c9 => ?_)
      · have h := if_t c9 h
        refine W.widen (k := 19) (n := 114) (by omega) (by omega) ?_
        exact w_L_isAnew_b216 C G X N Y hfl hP hS (lv_sub hl [1, 3] rfl) h
      · have h := if_n c9 h
        refine lv_aload_n C.1 C.2.1 dL_isAnew_204 rfl (lv_at hl 1 rfl) ?_
        obtain ⟨r10, c11, h⟩ := bd_out h
        refine k_callVi C G hP hS (m_X5_now l G.2.1 _  c11) g_obj rfl (cwV 0 C.2.2.2.2.2.1 (lwG_cons wg_X5_now) rfl rfl rfl (by decide +kernel) ⟨Nat.le_of_ble_eq_true rfl, Nat.le_of_ble_eq_true rfl⟩) (As := []) rfl hl.1 rfl (Nat.le_of_ble_eq_true rfl) dL_isAnew_205 ⟨Nat.le_of_ble_eq_true rfl, Nat.le_of_ble_eq_true rfl⟩ (fun H locs hP hS => ?_)
        refine lv_iload_n C.1 C.2.1 dL_isAnew_208 rfl (lv_at hl 2 rfl) ?_
        refine lv_icmp_ne (tgt := 216) C.1 C.2.1 dL_isAnew_209 (by decide) (fun c12 => ?_) (fun c12 => ?_)
        · have h := if_t c12 h
          refine W.widen (k := 19) (n := 114) (by omega) (by omega) ?_
          exact w_L_isAnew_b216 C G X N Y hfl hP hS (lv_sub hl [1, 3] rfl) h
        · have h := if_n c12 h
          refine lv_iconst (v := 1) C.1 C.2.1 dL_isAnew_212 (by decide) ?_
          refine lv_goto (tgt := 217) C.1 C.2.1 dL_isAnew_213 (by decide) ?_
          refine W.widen (k := 19) (n := 114) (by omega) (by omega) ?_
          exact w_L_isAnew_b217 C G X N Y hfl hP hS (lv_sub hl [1, 3] rfl) h
set_option maxRecDepth 100000 in
set_option maxHeartbeats 4000000 in
theorem w_L_isAnew_b177 {res : Int32 × (Nat → SL) × SL} (C : Cx p s m args meth c cL_isAnew 9 (some .boolean) RL wsW_isAnew) (G : Gx D cs ad s) (X : XS ad s.heap.size s s.heap) (N : NC s) (Y : YC s) (hfl : l.stackTraces = false) {T : SL} {Ls : Nat → SL} {Hs : SL} {x1 : Int32} {y2 : Int64} {x5 : Int32} {H : Heap} {locs : List Loc} {ls : Array Slot} (hP : va_P D vwCl (wA cs ad Ls Hs T) H) (hS : va_S (Afr ad s.heap.size) s.heap H locs) (hl : lv_has ls 9 [(0, .ref (ad 0)), (1, .int x1), (2, .long y2), (5, .int x5)]) (h : f_L_isAnew_b177 Ls Hs x1 y2 x5 = some res) : W p l e rmL_isAnew s m args below meth c H locs 17 102 (MQ below (va_Qi (fun r' (_ : Unit) => r' = res.1) (fun _ t => va_P D vwCl (wA cs ad res.2.1 res.2.2 T) t.heap) (Afr ad s.heap.size)) args s 21 126 (Afr ad s.heap.size)) (F0 m 177 ls []) := by
  unfold f_L_isAnew_b177 at h
  refine lv_iconst (v := 0) C.1 C.2.1 dL_isAnew_177 (by decide) ?_
  refine W.widen (k := 17) (n := 102) (by omega) (by omega) ?_
  exact w_L_isAnew_b178 C G X N Y hfl hP hS (lv_sub hl [0, 1, 2, 3] rfl) h
set_option maxRecDepth 100000 in
set_option maxHeartbeats 4000000 in
theorem w_L_isAnew_e {res : Int32 × (Nat → SL) × SL} (C : Cx p s m args meth c cL_isAnew 9 (some .boolean) RL wsW_isAnew) (G : Gx D cs ad s) (X : XS ad s.heap.size s s.heap) (N : NC s) (Y : YC s) (hfl : l.stackTraces = false) {T : SL} {Ls : Nat → SL} {Hs : SL} {x1 : Int32} {H : Heap} {locs : List Loc} {ls : Array Slot} (hP : va_P D vwCl (wA cs ad Ls Hs T) H) (hS : va_S (Afr ad s.heap.size) s.heap H locs) (hl : lv_has ls 9 [(0, .ref (ad 0)), (1, .int x1)]) (h : f_L_isAnew Ls Hs x1 = some res) : W p l e rmL_isAnew s m args below meth c H locs 0 0 (MQ below (va_Qi (fun r' (_ : Unit) => r' = res.1) (fun _ t => va_P D vwCl (wA cs ad res.2.1 res.2.2 T) t.heap) (Afr ad s.heap.size)) args s 21 126 (Afr ad s.heap.size)) (F0 m 0 ls []) := by
  unfold f_L_isAnew at h
  refine lv_aload_n C.1 C.2.1 dL_isAnew_0 rfl (lv_at hl 0 rfl) ?_
  obtain ⟨w1, c2, h⟩ := bd_out h
  refine k_callSPl C G X N Y hP hS (m_L_print l hfl G.2.1 _ c2) (va_cwS 1 C.2.2.2.2.2.1 (lwG_cons wl_print) rfl rfl rfl (by decide +kernel) ⟨Nat.le_of_ble_eq_true rfl, Nat.le_of_ble_eq_true rfl⟩) (As := [.ref (ad 0)]) rfl hl.1 rfl (Nat.le_of_ble_eq_true rfl) dL_isAnew_1 ⟨Nat.le_of_ble_eq_true rfl, Nat.le_of_ble_eq_true rfl⟩ (fun H locs hP hS => ?_)
  refine lv_lstore_n (lv' := [(2, .long w1), (0, .ref (ad 0)), (1, .int x1)]) C.1 C.2.1 dL_isAnew_4 rfl hl (by decide) rfl (fun ls hl => ?_)
  refine lv_aload_n C.1 C.2.1 dL_isAnew_5 rfl (lv_at hl 1 rfl) ?_
  refine lv_iconst (v := 0) C.1 C.2.1 dL_isAnew_6 (by decide) ?_
  obtain ⟨r3, c4, h⟩ := bd_out h
  refine k_callVi C G hP hS (m_X5_size l G.2.1 _  c4) g_obj rfl (cwV 1 C.2.2.2.2.2.1 (lwG_cons wg_X5_size) rfl rfl rfl (by decide +kernel) ⟨Nat.le_of_ble_eq_true rfl, Nat.le_of_ble_eq_true rfl⟩) (As := [.int 0]) rfl hl.1 rfl (Nat.le_of_ble_eq_true rfl) dL_isAnew_7 ⟨Nat.le_of_ble_eq_true rfl, Nat.le_of_ble_eq_true rfl⟩ (fun H locs hP hS => ?_)
  refine lv_istore (lv' := [(4, .int r3), (2, .long w1), (0, .ref (ad 0)), (1, .int x1)]) C.1 C.2.1 dL_isAnew_10 hl (by decide) rfl (fun ls hl => ?_)
  refine lv_iload C.1 C.2.1 dL_isAnew_12 (lv_at hl 0 rfl) ?_
  refine lv_if_ne (tgt := 43) C.1 C.2.1 dL_isAnew_14 (by decide) (fun c5 => ?_) (fun c5 => ?_)
  · have h := if_t c5 h
    refine lv_aload_n C.1 C.2.1 dL_isAnew_43 rfl (lv_at hl 2 rfl) ?_
    refine lv_iload C.1 C.2.1 dL_isAnew_44 (lv_at hl 0 rfl) ?_
    refine lv_iconst (v := 1) C.1 C.2.1 dL_isAnew_46 (by decide) ?_
    obtain ⟨v6, ev6, h⟩ := lt_out h
    refine k_isub C ev6 dL_isAnew_47 ?_
    refine lv_iconst (v := 5) C.1 C.2.1 dL_isAnew_48 (by decide) ?_
    refine lv_iload_n C.1 C.2.1 dL_isAnew_49 rfl (lv_at hl 3 rfl) ?_
    obtain ⟨r8, Ls9, c7, h⟩ := bd2_out h
    refine k_callSWi C G X N Y hP hS (m_L_outputWith l hfl G.2.1 _ c7) (vx_cwSW 4 C.2.2.2.2.2.1 (lwG_cons wl_outputWith) rfl rfl rfl (by decide +kernel) ⟨Nat.le_of_ble_eq_true rfl, Nat.le_of_ble_eq_true rfl⟩) (As := [.ref (ad 0), .int v6, .int 5, .int x1]) rfl hl.1 rfl (Nat.le_of_ble_eq_true rfl) dL_isAnew_50 ⟨Nat.le_of_ble_eq_true rfl, Nat.le_of_ble_eq_true rfl⟩ (fun H locs hP hS => ?_)
    refine lv_istore (lv' := [(5, .int r8), (4, .int r3), (2, .long w1), (0, .ref (ad 0)), (1, .int x1)]) C.1 C.2.1 dL_isAnew_53 hl (by decide) rfl (fun ls hl => ?_)
    refine lv_aload_n C.1 C.2.1 dL_isAnew_55 rfl (lv_at hl 3 rfl) ?_
    refine lv_iload_n C.1 C.2.1 dL_isAnew_56 rfl (lv_at hl 4 rfl) ?_
    obtain ⟨r11, Ls12, c10, h⟩ := bd2_out h
    refine k_callSWi C G X N Y hP hS (m_L_bound l hfl G.2.1 _ c10) (vx_cwSW 2 C.2.2.2.2.2.1 (lwG_cons wl_bound) rfl rfl rfl (by decide +kernel) ⟨Nat.le_of_ble_eq_true rfl, Nat.le_of_ble_eq_true rfl⟩) (As := [.ref (ad 0), .int x1]) rfl hl.1 rfl (Nat.le_of_ble_eq_true rfl) dL_isAnew_57 ⟨Nat.le_of_ble_eq_true rfl, Nat.le_of_ble_eq_true rfl⟩ (fun H locs hP hS => ?_)
    refine lv_istore (lv' := [(6, .int r11), (5, .int r8), (4, .int r3), (2, .long w1), (0, .ref (ad 0)), (1, .int x1)]) C.1 C.2.1 dL_isAnew_60 hl (by decide) rfl (fun ls hl => ?_)
    refine lv_aload_n C.1 C.2.1 dL_isAnew_62 rfl (lv_at hl 4 rfl) ?_
    refine lv_iload_n C.1 C.2.1 dL_isAnew_63 rfl (lv_at hl 5 rfl) ?_
    obtain ⟨r14, Ls15, c13, h⟩ := bd2_out h
    refine k_callSWi C G X N Y hP hS (m_L_slowest l hfl G.2.1 _ c13) (vx_cwSW 2 C.2.2.2.2.2.1 (lwG_cons wl_slowest) rfl rfl rfl (by decide +kernel) ⟨Nat.le_of_ble_eq_true rfl, Nat.le_of_ble_eq_true rfl⟩) (As := [.ref (ad 0), .int x1]) rfl hl.1 rfl (Nat.le_of_ble_eq_true rfl) dL_isAnew_64 ⟨Nat.le_of_ble_eq_true rfl, Nat.le_of_ble_eq_true rfl⟩ (fun H locs hP hS => ?_)
    refine lv_istore (lv' := [(7, .int r14), (6, .int r11), (5, .int r8), (4, .int r3), (2, .long w1), (0, .ref (ad 0)), (1, .int x1)]) C.1 C.2.1 dL_isAnew_67 hl (by decide) rfl (fun ls hl => ?_)
    refine lv_aload_n C.1 C.2.1 dL_isAnew_69 rfl (lv_at hl 5 rfl) ?_
    obtain ⟨w16, c17, h⟩ := bd_out h
    refine k_callSPl C G X N Y hP hS (m_L_print l hfl G.2.1 _ c17) (va_cwS 1 C.2.2.2.2.2.1 (lwG_cons wl_print) rfl rfl rfl (by decide +kernel) ⟨Nat.le_of_ble_eq_true rfl, Nat.le_of_ble_eq_true rfl⟩) (As := [.ref (ad 0)]) rfl hl.1 rfl (Nat.le_of_ble_eq_true rfl) dL_isAnew_70 ⟨Nat.le_of_ble_eq_true rfl, Nat.le_of_ble_eq_true rfl⟩ (fun H locs hP hS => ?_)
    refine lv_lload_n C.1 C.2.1 dL_isAnew_73 rfl (lv_at hl 4 rfl) ?_
    obtain ⟨v18, ev18, h⟩ := lt_out h
    refine k_lcmp C ev18 dL_isAnew_74 ?_
    refine lv_if_ne (tgt := 177) C.1 C.2.1 dL_isAnew_75 (by decide) (fun c19 => ?_) (fun c19 => ?_)
    · have h := if_t c19 h
      refine W.widen (k := 17) (n := 102) (by omega) (by omega) ?_
      exact w_L_isAnew_b177 C G X N Y hfl hP hS (lv_sub hl [5, 6, 4, 2] rfl) h
    · have h := if_n c19 h
      refine lv_iload C.1 C.2.1 dL_isAnew_78 (lv_at hl 2 rfl) ?_
      refine lv_if_lt (tgt := 177) C.1 C.2.1 dL_isAnew_80 (by decide) (fun c20 => ?_) (fun c20 => ?_)
      · have h := if_t c20 h
        refine W.widen (k := 17) (n := 102) (by omega) (by omega) ?_
        exact w_L_isAnew_b177 C G X N Y hfl hP hS (lv_sub hl [5, 6, 4, 2] rfl) h
      · have h := if_f c20 h
        refine lv_iload C.1 C.2.1 dL_isAnew_83 (lv_at hl 2 rfl) ?_
        refine lv_iload C.1 C.2.1 dL_isAnew_85 (lv_at hl 1 rfl) ?_
        refine lv_icmp_gt (tgt := 177) C.1 C.2.1 dL_isAnew_87 (by decide) (fun c21 => ?_) (fun c21 => ?_)
        · have h := if_t c21 h
          refine W.widen (k := 17) (n := 102) (by omega) (by omega) ?_
          exact w_L_isAnew_b177 C G X N Y hfl hP hS (lv_sub hl [5, 6, 4, 2] rfl) h
        · have h := if_f c21 h
          refine lv_iload C.1 C.2.1 dL_isAnew_90 (lv_at hl 0 rfl) ?_
          refine lv_if_lt (tgt := 177) C.1 C.2.1 dL_isAnew_92 (by decide) (fun c22 => ?_) (fun c22 => ?_)
          · have h := if_t c22 h
            refine W.widen (k := 17) (n := 102) (by omega) (by omega) ?_
            exact w_L_isAnew_b177 C G X N Y hfl hP hS (lv_sub hl [5, 6, 4, 2] rfl) h
          · have h := if_f c22 h
            refine lv_iload C.1 C.2.1 dL_isAnew_95 (lv_at hl 0 rfl) ?_
            refine lv_iload C.1 C.2.1 dL_isAnew_97 (lv_at hl 3 rfl) ?_
            refine lv_icmp_ge (tgt := 177) C.1 C.2.1 dL_isAnew_99 (by decide) (fun c23 => ?_) (fun c23 => ?_)
            · have h := if_t c23 h
              refine W.widen (k := 17) (n := 102) (by omega) (by omega) ?_
              exact w_L_isAnew_b177 C G X N Y hfl hP hS (lv_sub hl [5, 6, 4, 2] rfl) h
            · have h := if_f c23 h
              refine lv_iload C.1 C.2.1 dL_isAnew_102 (lv_at hl 1 rfl) ?_
              refine lv_iload_n C.1 C.2.1 dL_isAnew_104 rfl (lv_at hl 6 rfl) ?_
              refine lv_aload_n C.1 C.2.1 dL_isAnew_105 rfl (lv_at hl 5 rfl) ?_
              refine lv_iload C.1 C.2.1 dL_isAnew_106 (lv_at hl 0 rfl) ?_
              refine lv_iconst (v := 1) C.1 C.2.1 dL_isAnew_108 (by decide) ?_
              obtain ⟨r25, c24, h⟩ := bd_out h
              refine k_callSWi C G X N Y hP hS (m_L_setting l hfl G.2.1 _ c24) (vx_cwSW 3 C.2.2.2.2.2.1 (lwG_cons wl_setting) rfl rfl rfl (by decide +kernel) ⟨Nat.le_of_ble_eq_true rfl, Nat.le_of_ble_eq_true rfl⟩) (As := [.ref (ad 0), .int r14, .int 1]) rfl hl.1 rfl (Nat.le_of_ble_eq_true rfl) dL_isAnew_109 ⟨Nat.le_of_ble_eq_true rfl, Nat.le_of_ble_eq_true rfl⟩ (fun H locs hP hS => ?_)
              obtain ⟨g26, h⟩ := gd_out h
              have g26 := nz_ne g26
              obtain ⟨v27, ev27, h⟩ := lt_out h
              refine k_idiv C g26 ev27 dL_isAnew_112 ?_
              refine lv_icmp_gt (tgt := 177) C.1 C.2.1 dL_isAnew_113 (by decide) (fun c28 => ?_) (fun c28 => ?_)
              · have h := if_t c28 h
                refine W.widen (k := 17) (n := 102) (by omega) (by omega) ?_
                exact w_L_isAnew_b177 C G X N Y hfl hP hS (lv_sub hl [5, 6, 4, 2] rfl) h
              · have h := if_f c28 h
                refine lv_aload_n C.1 C.2.1 dL_isAnew_116 rfl (lv_at hl 5 rfl) ?_
                refine lv_iload_n C.1 C.2.1 dL_isAnew_117 rfl (lv_at hl 6 rfl) ?_
                refine lv_iconst (v := 1) C.1 C.2.1 dL_isAnew_118 (by decide) ?_
                obtain ⟨v29, ev29, h⟩ := lt_out h
                refine k_iadd C ev29 dL_isAnew_119 ?_
                obtain ⟨r31, Ls32, c30, h⟩ := bd2_out h
                refine k_callSWi C G X N Y hP hS (m_L_bound l hfl G.2.1 _ c30) (vx_cwSW 2 C.2.2.2.2.2.1 (lwG_cons wl_bound) rfl rfl rfl (by decide +kernel) ⟨Nat.le_of_ble_eq_true rfl, Nat.le_of_ble_eq_true rfl⟩) (As := [.ref (ad 0), .int v29]) rfl hl.1 rfl (Nat.le_of_ble_eq_true rfl) dL_isAnew_120 ⟨Nat.le_of_ble_eq_true rfl, Nat.le_of_ble_eq_true rfl⟩ (fun H locs hP hS => ?_)
                refine lv_iload C.1 C.2.1 dL_isAnew_123 (lv_at hl 1 rfl) ?_
                refine lv_icmp_lt (tgt := 177) C.1 C.2.1 dL_isAnew_125 (by decide) (fun c33 => ?_) (fun c33 => ?_)
                · have h := if_t c33 h
                  refine W.widen (k := 17) (n := 102) (by omega) (by omega) ?_
                  exact w_L_isAnew_b177 C G X N Y hfl hP hS (lv_sub hl [5, 6, 4, 2] rfl) h
                · have h := if_f c33 h
                  refine lv_aload_n C.1 C.2.1 dL_isAnew_128 rfl (lv_at hl 5 rfl) ?_
                  refine lv_iconst (v := 0) C.1 C.2.1 dL_isAnew_129 (by decide) ?_
                  refine lv_aload_n C.1 C.2.1 dL_isAnew_130 rfl (lv_at hl 5 rfl) ?_
                  refine lv_iconst (v := 0) C.1 C.2.1 dL_isAnew_131 (by decide) ?_
                  refine lv_iconst (v := 4) C.1 C.2.1 dL_isAnew_132 (by decide) ?_
                  obtain ⟨r35, c34, h⟩ := bd_out h
                  refine k_callSWi C G X N Y hP hS (m_L_setting l hfl G.2.1 _ c34) (vx_cwSW 3 C.2.2.2.2.2.1 (lwG_cons wl_setting) rfl rfl rfl (by decide +kernel) ⟨Nat.le_of_ble_eq_true rfl, Nat.le_of_ble_eq_true rfl⟩) (As := [.ref (ad 0), .int 0, .int 4]) rfl hl.1 rfl (Nat.le_of_ble_eq_true rfl) dL_isAnew_133 ⟨Nat.le_of_ble_eq_true rfl, Nat.le_of_ble_eq_true rfl⟩ (fun H locs hP hS => ?_)
                  refine lv_iload_n C.1 C.2.1 dL_isAnew_136 rfl (lv_at hl 6 rfl) ?_
                  obtain ⟨r37, Ls38, c36, h⟩ := bd2_out h
                  refine k_callSWi C G X N Y hP hS (m_L_outputWith l hfl G.2.1 _ c36) (vx_cwSW 4 C.2.2.2.2.2.1 (lwG_cons wl_outputWith) rfl rfl rfl (by decide +kernel) ⟨Nat.le_of_ble_eq_true rfl, Nat.le_of_ble_eq_true rfl⟩) (As := [.ref (ad 0), .int 0, .int r35, .int x1]) rfl hl.1 rfl (Nat.le_of_ble_eq_true rfl) dL_isAnew_137 ⟨Nat.le_of_ble_eq_true rfl, Nat.le_of_ble_eq_true rfl⟩ (fun H locs hP hS => ?_)
                  refine lv_iload C.1 C.2.1 dL_isAnew_140 (lv_at hl 2 rfl) ?_
                  refine lv_icmp_ne (tgt := 177) C.1 C.2.1 dL_isAnew_142 (by decide) (fun c39 => ?_) (fun c39 => ?_)
                  · have h := if_t c39 h
                    refine W.widen (k := 17) (n := 102) (by omega) (by omega) ?_
                    exact w_L_isAnew_b177 C G X N Y hfl hP hS (lv_sub hl [5, 6, 4, 2] rfl) h
                  · have h := if_n c39 h
                    refine lv_aload_n C.1 C.2.1 dL_isAnew_145 rfl (lv_at hl 5 rfl) ?_
                    refine lv_iload C.1 C.2.1 dL_isAnew_146 (lv_at hl 3 rfl) ?_
                    refine lv_iconst (v := 1) C.1 C.2.1 dL_isAnew_148 (by decide) ?_
                    obtain ⟨v40, ev40, h⟩ := lt_out h
                    refine k_isub C ev40 dL_isAnew_149 ?_
                    refine lv_iload_n C.1 C.2.1 dL_isAnew_150 rfl (lv_at hl 6 rfl) ?_
                    refine lv_iload C.1 C.2.1 dL_isAnew_151 (lv_at hl 2 rfl) ?_
                    obtain ⟨r42, Ls43, c41, h⟩ := bd2_out h
                    refine k_callSWi C G X N Y hP hS (m_L_capacityFor l hfl G.2.1 _ c41) (vx_cwSW 4 C.2.2.2.2.2.1 (lwG_cons wl_capacityFor) rfl rfl rfl (by decide +kernel) ⟨Nat.le_of_ble_eq_true rfl, Nat.le_of_ble_eq_true rfl⟩) (As := [.ref (ad 0), .int v40, .int x1, .int r8]) rfl hl.1 rfl (Nat.le_of_ble_eq_true rfl) dL_isAnew_153 ⟨Nat.le_of_ble_eq_true rfl, Nat.le_of_ble_eq_true rfl⟩ (fun H locs hP hS => ?_)
                    refine lv_if_ne (tgt := 177) C.1 C.2.1 dL_isAnew_156 (by decide) (fun c44 => ?_) (fun c44 => ?_)
                    · have h := if_t c44 h
                      refine W.widen (k := 17) (n := 102) (by omega) (by omega) ?_
                      exact w_L_isAnew_b177 C G X N Y hfl hP hS (lv_sub hl [5, 6, 4, 2] rfl) h
                    · have h := if_n c44 h
                      refine lv_aload_n C.1 C.2.1 dL_isAnew_159 rfl (lv_at hl 5 rfl) ?_
                      obtain ⟨r45, Ls46, Hs47, c48, h⟩ := bd3_out h
                      refine k_callVi C G hP hS (m_X5_restart l G.2.1 _  c48) g_obj rfl (cwV 0 C.2.2.2.2.2.1 (lwG_cons wg_X5_restart) rfl rfl rfl (by decide +kernel) ⟨Nat.le_of_ble_eq_true rfl, Nat.le_of_ble_eq_true rfl⟩) (As := []) rfl hl.1 rfl (Nat.le_of_ble_eq_true rfl) dL_isAnew_160 ⟨Nat.le_of_ble_eq_true rfl, Nat.le_of_ble_eq_true rfl⟩ (fun H locs hP hS => ?_)
                      refine lv_if_lt (tgt := 177) C.1 C.2.1 dL_isAnew_163 (by decide) (fun c49 => ?_) (fun c49 => ?_)
                      · have h := if_t c49 h
                        refine W.widen (k := 17) (n := 102) (by omega) (by omega) ?_
                        exact w_L_isAnew_b177 C G X N Y hfl hP hS (lv_sub hl [5, 6, 4, 2] rfl) h
                      · have h := if_f c49 h
                        refine lv_aload_n C.1 C.2.1 dL_isAnew_166 rfl (lv_at hl 5 rfl) ?_
                        obtain ⟨r50, c51, h⟩ := bd_out h
                        refine k_callVi C G hP hS (m_X5_inside l G.2.1 _  c51) g_obj rfl (cwV 0 C.2.2.2.2.2.1 (lwG_cons wg_X5_inside) rfl rfl rfl (by decide +kernel) ⟨Nat.le_of_ble_eq_true rfl, Nat.le_of_ble_eq_true rfl⟩) (As := []) rfl hl.1 rfl (Nat.le_of_ble_eq_true rfl) dL_isAnew_167 ⟨Nat.le_of_ble_eq_true rfl, Nat.le_of_ble_eq_true rfl⟩ (fun H locs hP hS => ?_)
                        refine lv_if_ne (tgt := 177) C.1 C.2.1 dL_isAnew_170 (by decide) (fun c52 => ?_) (fun c52 => ?_)
                        · have h := if_t c52 h
                          refine W.widen (k := 17) (n := 102) (by omega) (by omega) ?_
                          exact w_L_isAnew_b177 C G X N Y hfl hP hS (lv_sub hl [5, 6, 4, 2] rfl) h
                        · have h := if_n c52 h
                          refine lv_iconst (v := 1) C.1 C.2.1 dL_isAnew_173 (by decide) ?_
                          refine lv_goto (tgt := 178) C.1 C.2.1 dL_isAnew_174 (by decide) ?_
                          refine W.widen (k := 17) (n := 102) (by omega) (by omega) ?_
                          exact w_L_isAnew_b178 C G X N Y hfl hP hS (lv_sub hl [5, 6, 4, 2] rfl) h
  · have h := if_n c5 h
    refine lv_aload_n C.1 C.2.1 dL_isAnew_17 rfl (lv_at hl 2 rfl) ?_
    refine lv_iload_n C.1 C.2.1 dL_isAnew_18 rfl (lv_at hl 3 rfl) ?_
    obtain ⟨r54, Ls55, Hs56, c53, h⟩ := bd3_out h
    refine k_callSWi C G X N Y hP hS (m_L_run l hfl G.2.1 _ c53) (vx_cwSW 2 C.2.2.2.2.2.1 (lwG_cons wl_run) rfl rfl rfl (by decide +kernel) ⟨Nat.le_of_ble_eq_true rfl, Nat.le_of_ble_eq_true rfl⟩) (As := [.ref (ad 0), .int x1]) rfl hl.1 rfl (Nat.le_of_ble_eq_true rfl) dL_isAnew_19 ⟨Nat.le_of_ble_eq_true rfl, Nat.le_of_ble_eq_true rfl⟩ (fun H locs hP hS => ?_)
    refine k_ldci C G (List.mem_cons_of_mem _ lk_20) dL_isAnew_22 ?_
    refine lv_icmp_ne (tgt := 41) C.1 C.2.1 dL_isAnew_24 (by decide) (fun c57 => ?_) (fun c57 => ?_)
    · have h := if_t c57 h
      refine W.widen (k := 21) (n := 126) (by omega) (by omega) ?_
      exact w_L_isAnew_b41 C G X N Y hfl hP hS (lv_sub hl [] rfl) h
    · have h := if_n c57 h
      refine lv_aload_n C.1 C.2.1 dL_isAnew_27 rfl (lv_at hl 2 rfl) ?_
      refine lv_iload_n C.1 C.2.1 dL_isAnew_28 rfl (lv_at hl 3 rfl) ?_
      obtain ⟨r59, Ls60, c58, h⟩ := bd2_out h
      refine k_callSWi C G X N Y hP hS (m_L_bound l hfl G.2.1 _ c58) (vx_cwSW 2 C.2.2.2.2.2.1 (lwG_cons wl_bound) rfl rfl rfl (by decide +kernel) ⟨Nat.le_of_ble_eq_true rfl, Nat.le_of_ble_eq_true rfl⟩) (As := [.ref (ad 0), .int x1]) rfl hl.1 rfl (Nat.le_of_ble_eq_true rfl) dL_isAnew_29 ⟨Nat.le_of_ble_eq_true rfl, Nat.le_of_ble_eq_true rfl⟩ (fun H locs hP hS => ?_)
      refine k_ldci C G (List.mem_cons_of_mem _ lk_20) dL_isAnew_32 ?_
      refine lv_icmp_ne (tgt := 41) C.1 C.2.1 dL_isAnew_34 (by decide) (fun c61 => ?_) (fun c61 => ?_)
      · have h := if_t c61 h
        refine W.widen (k := 21) (n := 126) (by omega) (by omega) ?_
        exact w_L_isAnew_b41 C G X N Y hfl hP hS (lv_sub hl [] rfl) h
      · have h := if_n c61 h
        refine lv_iconst (v := 1) C.1 C.2.1 dL_isAnew_37 (by decide) ?_
        refine lv_goto (tgt := 42) C.1 C.2.1 dL_isAnew_38 (by decide) ?_
        cases h
        refine W.widen (k := 21) (n := 126) (by omega) (by omega) ?_
        exact k_zret C hP hS nar_1 dL_isAnew_42
set_option maxRecDepth 100000 in
set_option maxHeartbeats 4000000 in
theorem m_L_isAnew (l : Launch) (hfl : l.stackTraces = false) {D : va_G} {cs : Nat → ClassId} {ad : Nat → Nat} (hAd : adOK ad) (sz : Nat) {Ls : Nat → SL} {Hs : SL} {T : SL} {x1 : Int32} {res : Int32 × (Nat → SL) × SL} (h : f_L_isAnew Ls Hs x1 = some res) : Met l yL_isAnew wsW_isAnew rmL_isAnew (PW D cs ad sz (wA cs ad Ls Hs T) [.ref (ad 0), .int x1]) (va_Qi (fun r' (_ : Unit) => r' = res.1) (fun _ t => va_P D vwCl (wA cs ad res.2.1 res.2.2 T) t.heap) (Afr ad sz)) 21 126 (Afr ad sz) :=
  k_metP (by decide) rfl (Nat.le_of_ble_eq_true rfl) hAd (fun p e s m below meth c ls C G X N Y hP hsz hl hS => by
    subst hsz
    exact w_L_isAnew_e C G X N Y hfl hP hS hl h)
/-! L acts -/
abbrev rmL_acts : Room := { frames := 9, cells := 2, slots := 12, locals := 174 }
set_option maxRecDepth 100000 in
set_option maxHeartbeats 4000000 in
theorem w_L_acts_b271 {res : Int32 × (Nat → SL) × SL} (C : Cx p s m args meth c cL_acts 7 (some .int) RL wsW_acts) (G : Gx D cs ad s) (X : XS ad s.heap.size s s.heap) (N : NC s) (Y : YC s) (hfl : l.stackTraces = false) {T : SL} {Ls : Nat → SL} {Hs : SL} {s1 : Int32} {H : Heap} {locs : List Loc} {ls : Array Slot} (hP : va_P D vwCl (wA cs ad Ls Hs T) H) (hS : va_S (Afr ad s.heap.size) s.heap H locs) (hl : lv_has ls 7 []) (h : f_L_acts_b271 Ls Hs s1 = some res) : W p l e rmL_acts s m args below meth c H locs 0 0 (MQ below (va_Qi (fun r' (_ : Unit) => r' = res.1) (fun _ t => va_P D vwCl (wA cs ad res.2.1 res.2.2 T) t.heap) (Afr ad s.heap.size)) args s 2 12 (Afr ad s.heap.size)) (F0 m 271 ls [.int s1, .ref (ad 0)]) := by
  unfold f_L_acts_b271 at h
  obtain ⟨r2, Ls3, Hs4, c1, h⟩ := bd3_out h
  refine k_callSWi C G X N Y hP hS (m_L_run l hfl G.2.1 _ c1) (vx_cwSW 2 C.2.2.2.2.2.1 (lwG_cons wl_run) rfl rfl rfl (by decide +kernel) ⟨Nat.le_of_ble_eq_true rfl, Nat.le_of_ble_eq_true rfl⟩) (As := [.ref (ad 0), .int s1]) rfl hl.1 rfl (Nat.le_of_ble_eq_true rfl) dL_acts_271 ⟨Nat.le_of_ble_eq_true rfl, Nat.le_of_ble_eq_true rfl⟩ (fun H locs hP hS => ?_)
  cases h
  refine W.widen (k := 2) (n := 12) (by omega) (by omega) ?_
  exact k_iret C hP hS dL_acts_274
set_option maxRecDepth 100000 in
set_option maxHeartbeats 4000000 in
theorem w_L_acts_b17 {res : Int32 × (Nat → SL) × SL} (C : Cx p s m args meth c cL_acts 7 (some .int) RL wsW_acts) (G : Gx D cs ad s) (X : XS ad s.heap.size s s.heap) (N : NC s) (Y : YC s) (hfl : l.stackTraces = false) {T : SL} {Ls : Nat → SL} {Hs : SL} {x1 : Int32} {x2 : Int32} {s0 : Int32} {H : Heap} {locs : List Loc} {ls : Array Slot} (hP : va_P D vwCl (wA cs ad Ls Hs T) H) (hS : va_S (Afr ad s.heap.size) s.heap H locs) (hl : lv_has ls 7 [(0, .ref (ad 0)), (1, .int x1), (2, .int x2)]) (h : f_L_acts_b17 Ls Hs x1 x2 s0 = some res) : W p l e rmL_acts s m args below meth c H locs 0 0 (MQ below (va_Qi (fun r' (_ : Unit) => r' = res.1) (fun _ t => va_P D vwCl (wA cs ad res.2.1 res.2.2 T) t.heap) (Afr ad s.heap.size)) args s 2 12 (Afr ad s.heap.size)) (F0 m 17 ls [.int s0]) := by
  unfold f_L_acts_b17 at h
  refine lv_istore (lv' := [(4, .int s0), (0, .ref (ad 0)), (1, .int x1), (2, .int x2)]) C.1 C.2.1 dL_acts_17 hl (by decide) rfl (fun ls hl => ?_)
  refine lv_iload_n C.1 C.2.1 dL_acts_19 rfl (lv_at hl 2 rfl) ?_
  refine lv_bipush (v := 14) C.1 C.2.1 dL_acts_20 (by decide) ?_
  obtain ⟨r1, c2, h⟩ := bd_out h
  refine k_callSPi C G X N Y hP hS (m_L_low l hfl G.2.1 _ c2) (va_cwS 2 C.2.2.2.2.2.1 (lwG_cons wl_low) rfl rfl rfl (by decide +kernel) ⟨Nat.le_of_ble_eq_true rfl, Nat.le_of_ble_eq_true rfl⟩) (As := [.int x1, .int 14]) rfl hl.1 rfl (Nat.le_of_ble_eq_true rfl) dL_acts_22 ⟨Nat.le_of_ble_eq_true rfl, Nat.le_of_ble_eq_true rfl⟩ (fun H locs hP hS => ?_)
  by_cases c15 : r1 = 0
  · have h := if_t c15 h
    refine lv_tableIn (tgt := 68) (off := 43) C.1 C.2.1 dL_acts_25 (by rw [c15]; decide) (by rw [c15]; decide) (by rw [c15]; rfl) (by decide) ?_
    refine lv_iconst (v := 1) C.1 C.2.1 dL_acts_68 (by decide) ?_
    refine lv_iload_n C.1 C.2.1 dL_acts_69 rfl (lv_at hl 3 rfl) ?_
    refine lv_bipush (v := 9) C.1 C.2.1 dL_acts_70 (by decide) ?_
    obtain ⟨v3, ev3, h⟩ := lt_out h
    refine k_irem C (by decide) ev3 dL_acts_72 ?_
    obtain ⟨v4, ev4, h⟩ := lt_out h
    refine k_iadd C ev4 dL_acts_73 ?_
    refine lv_istore (lv' := [(5, .int v4), (4, .int s0), (0, .ref (ad 0)), (1, .int x1), (2, .int x2)]) C.1 C.2.1 dL_acts_74 hl (by decide) rfl (fun ls hl => ?_)
    refine lv_aload_n C.1 C.2.1 dL_acts_76 rfl (lv_at hl 2 rfl) ?_
    refine lv_iload C.1 C.2.1 dL_acts_77 (lv_at hl 0 rfl) ?_
    refine lv_iconst (v := 1) C.1 C.2.1 dL_acts_79 (by decide) ?_
    refine lv_iload_n C.1 C.2.1 dL_acts_80 rfl (lv_at hl 4 rfl) ?_
    refine lv_bipush (v := 9) C.1 C.2.1 dL_acts_81 (by decide) ?_
    obtain ⟨v5, ev5, h⟩ := lt_out h
    refine k_idiv C (by decide) ev5 dL_acts_83 ?_
    refine lv_iload C.1 C.2.1 dL_acts_84 (lv_at hl 0 rfl) ?_
    obtain ⟨g6, h⟩ := gd_out h
    have g6 := nz_ne g6
    obtain ⟨v7, ev7, h⟩ := lt_out h
    refine k_irem C g6 ev7 dL_acts_86 ?_
    obtain ⟨v8, ev8, h⟩ := lt_out h
    refine k_iadd C ev8 dL_acts_87 ?_
    refine lv_iload_n C.1 C.2.1 dL_acts_88 rfl (lv_at hl 4 rfl) ?_
    refine lv_bipush (v := 81) C.1 C.2.1 dL_acts_89 (by decide) ?_
    obtain ⟨v9, ev9, h⟩ := lt_out h
    refine k_idiv C (by decide) ev9 dL_acts_91 ?_
    refine lv_bipush (v := 6) C.1 C.2.1 dL_acts_92 (by decide) ?_
    obtain ⟨v10, ev10, h⟩ := lt_out h
    refine k_irem C (by decide) ev10 dL_acts_94 ?_
    obtain ⟨r12, Ls13, Hs14, c11, h⟩ := bd3_out h
    refine k_callSWi C G X N Y hP hS (m_L_addMachine l hfl G.2.1 _ c11) (vx_cwSW 4 C.2.2.2.2.2.1 (lwG_cons wl_addMachine) rfl rfl rfl (by decide +kernel) ⟨Nat.le_of_ble_eq_true rfl, Nat.le_of_ble_eq_true rfl⟩) (As := [.ref (ad 0), .int v4, .int v8, .int v10]) rfl hl.1 rfl (Nat.le_of_ble_eq_true rfl) dL_acts_95 ⟨Nat.le_of_ble_eq_true rfl, Nat.le_of_ble_eq_true rfl⟩ (fun H locs hP hS => ?_)
    cases h
    refine W.widen (k := 2) (n := 12) (by omega) (by omega) ?_
    exact k_iret C hP hS dL_acts_98
  have h := if_f c15 h
  by_cases c33 : r1 = 1
  · have h := if_t c33 h
    refine lv_tableIn (tgt := 99) (off := 74) C.1 C.2.1 dL_acts_25 (by rw [c33]; decide) (by rw [c33]; decide) (by rw [c33]; rfl) (by decide) ?_
    refine lv_iconst (v := 1) C.1 C.2.1 dL_acts_99 (by decide) ?_
    refine lv_iload_n C.1 C.2.1 dL_acts_100 rfl (lv_at hl 3 rfl) ?_
    refine lv_bipush (v := 8) C.1 C.2.1 dL_acts_101 (by decide) ?_
    obtain ⟨v16, ev16, h⟩ := lt_out h
    refine k_idiv C (by decide) ev16 dL_acts_103 ?_
    refine lv_bipush (v := 9) C.1 C.2.1 dL_acts_104 (by decide) ?_
    obtain ⟨v17, ev17, h⟩ := lt_out h
    refine k_irem C (by decide) ev17 dL_acts_106 ?_
    obtain ⟨v18, ev18, h⟩ := lt_out h
    refine k_iadd C ev18 dL_acts_107 ?_
    refine lv_istore (lv' := [(5, .int v18), (4, .int s0), (0, .ref (ad 0)), (1, .int x1), (2, .int x2)]) C.1 C.2.1 dL_acts_108 hl (by decide) rfl (fun ls hl => ?_)
    refine lv_iload_n C.1 C.2.1 dL_acts_110 rfl (lv_at hl 4 rfl) ?_
    refine lv_bipush (v := 72) C.1 C.2.1 dL_acts_111 (by decide) ?_
    obtain ⟨v19, ev19, h⟩ := lt_out h
    refine k_idiv C (by decide) ev19 dL_acts_113 ?_
    refine lv_bipush (v := 9) C.1 C.2.1 dL_acts_114 (by decide) ?_
    obtain ⟨v20, ev20, h⟩ := lt_out h
    refine k_irem C (by decide) ev20 dL_acts_116 ?_
    refine lv_istore (lv' := [(6, .int v20), (5, .int v18), (4, .int s0), (0, .ref (ad 0)), (1, .int x1), (2, .int x2)]) C.1 C.2.1 dL_acts_117 hl (by decide) rfl (fun ls hl => ?_)
    refine lv_aload_n C.1 C.2.1 dL_acts_119 rfl (lv_at hl 3 rfl) ?_
    refine lv_iload C.1 C.2.1 dL_acts_120 (lv_at hl 2 rfl) ?_
    refine lv_iload C.1 C.2.1 dL_acts_122 (lv_at hl 1 rfl) ?_
    refine lv_iconst (v := 1) C.1 C.2.1 dL_acts_124 (by decide) ?_
    refine lv_iload_n C.1 C.2.1 dL_acts_125 rfl (lv_at hl 5 rfl) ?_
    refine lv_sipush (v := 648) C.1 C.2.1 dL_acts_126 (by decide) ?_
    obtain ⟨v21, ev21, h⟩ := lt_out h
    refine k_idiv C (by decide) ev21 dL_acts_129 ?_
    refine lv_iload C.1 C.2.1 dL_acts_130 (lv_at hl 1 rfl) ?_
    obtain ⟨g22, h⟩ := gd_out h
    have g22 := nz_ne g22
    obtain ⟨v23, ev23, h⟩ := lt_out h
    refine k_irem C g22 ev23 dL_acts_132 ?_
    obtain ⟨v24, ev24, h⟩ := lt_out h
    refine k_iadd C ev24 dL_acts_133 ?_
    refine lv_iload_n C.1 C.2.1 dL_acts_134 rfl (lv_at hl 5 rfl) ?_
    refine lv_sipush (v := 5000) C.1 C.2.1 dL_acts_135 (by decide) ?_
    obtain ⟨v25, ev25, h⟩ := lt_out h
    refine k_idiv C (by decide) ev25 dL_acts_138 ?_
    refine lv_iload C.1 C.2.1 dL_acts_139 (lv_at hl 0 rfl) ?_
    refine lv_iconst (v := 1) C.1 C.2.1 dL_acts_141 (by decide) ?_
    obtain ⟨v26, ev26, h⟩ := lt_out h
    refine k_iadd C ev26 dL_acts_142 ?_
    obtain ⟨g27, h⟩ := gd_out h
    have g27 := nz_ne g27
    obtain ⟨v28, ev28, h⟩ := lt_out h
    refine k_irem C g27 ev28 dL_acts_143 ?_
    refine lv_iload C.1 C.2.1 dL_acts_144 (lv_at hl 0 rfl) ?_
    obtain ⟨r30, Ls31, Hs32, c29, h⟩ := bd3_out h
    refine k_callSWi C G X N Y hP hS (m_L_setMachine l hfl G.2.1 _ c29) (vx_cwSW 6 C.2.2.2.2.2.1 (lwG_cons wl_setMachine) rfl rfl rfl (by decide +kernel) ⟨Nat.le_of_ble_eq_true rfl, Nat.le_of_ble_eq_true rfl⟩) (As := [.ref (ad 0), .int s0, .int v18, .int v24, .int v28, .int v20]) rfl hl.1 rfl (Nat.le_of_ble_eq_true rfl) dL_acts_146 ⟨Nat.le_of_ble_eq_true rfl, Nat.le_of_ble_eq_true rfl⟩ (fun H locs hP hS => ?_)
    cases h
    refine W.widen (k := 2) (n := 12) (by omega) (by omega) ?_
    exact k_iret C hP hS dL_acts_149
  have h := if_f c33 h
  by_cases c40 : r1 = 2
  · have h := if_t c40 h
    refine lv_tableIn (tgt := 150) (off := 125) C.1 C.2.1 dL_acts_25 (by rw [c40]; decide) (by rw [c40]; decide) (by rw [c40]; rfl) (by decide) ?_
    refine lv_aload_n C.1 C.2.1 dL_acts_150 rfl (lv_at hl 1 rfl) ?_
    refine lv_iload C.1 C.2.1 dL_acts_151 (lv_at hl 0 rfl) ?_
    refine lv_iload_n C.1 C.2.1 dL_acts_153 rfl (lv_at hl 3 rfl) ?_
    refine lv_bipush (v := 8) C.1 C.2.1 dL_acts_154 (by decide) ?_
    obtain ⟨v34, ev34, h⟩ := lt_out h
    refine k_idiv C (by decide) ev34 dL_acts_156 ?_
    refine lv_bipush (v := 9) C.1 C.2.1 dL_acts_157 (by decide) ?_
    obtain ⟨v35, ev35, h⟩ := lt_out h
    refine k_irem C (by decide) ev35 dL_acts_159 ?_
    obtain ⟨r37, Ls38, Hs39, c36, h⟩ := bd3_out h
    refine k_callSWi C G X N Y hP hS (m_L_setCapacity l hfl G.2.1 _ c36) (vx_cwSW 3 C.2.2.2.2.2.1 (lwG_cons wl_setCapacity) rfl rfl rfl (by decide +kernel) ⟨Nat.le_of_ble_eq_true rfl, Nat.le_of_ble_eq_true rfl⟩) (As := [.ref (ad 0), .int s0, .int v35]) rfl hl.1 rfl (Nat.le_of_ble_eq_true rfl) dL_acts_160 ⟨Nat.le_of_ble_eq_true rfl, Nat.le_of_ble_eq_true rfl⟩ (fun H locs hP hS => ?_)
    cases h
    refine W.widen (k := 2) (n := 12) (by omega) (by omega) ?_
    exact k_iret C hP hS dL_acts_163
  have h := if_f c40 h
  by_cases c54 : r1 = 3
  · have h := if_t c54 h
    refine lv_tableIn (tgt := 164) (off := 139) C.1 C.2.1 dL_acts_25 (by rw [c54]; decide) (by rw [c54]; decide) (by rw [c54]; rfl) (by decide) ?_
    refine lv_aload_n C.1 C.2.1 dL_acts_164 rfl (lv_at hl 1 rfl) ?_
    refine lv_iload C.1 C.2.1 dL_acts_165 (lv_at hl 0 rfl) ?_
    refine lv_aload_n C.1 C.2.1 dL_acts_167 rfl (lv_at hl 1 rfl) ?_
    obtain ⟨r41, c42, h⟩ := bd_out h
    refine k_callVi C G hP hS (m_X5_now l G.2.1 _  c42) g_obj rfl (cwV 0 C.2.2.2.2.2.1 (lwG_cons wg_X5_now) rfl rfl rfl (by decide +kernel) ⟨Nat.le_of_ble_eq_true rfl, Nat.le_of_ble_eq_true rfl⟩) (As := []) rfl hl.1 rfl (Nat.le_of_ble_eq_true rfl) dL_acts_168 ⟨Nat.le_of_ble_eq_true rfl, Nat.le_of_ble_eq_true rfl⟩ (fun H locs hP hS => ?_)
    refine lv_iconst (v := 1) C.1 C.2.1 dL_acts_171 (by decide) ?_
    obtain ⟨v43, ev43, h⟩ := lt_out h
    refine k_iadd C ev43 dL_acts_172 ?_
    refine lv_iload_n C.1 C.2.1 dL_acts_173 rfl (lv_at hl 3 rfl) ?_
    refine lv_bipush (v := 8) C.1 C.2.1 dL_acts_174 (by decide) ?_
    obtain ⟨v44, ev44, h⟩ := lt_out h
    refine k_idiv C (by decide) ev44 dL_acts_176 ?_
    refine lv_bipush (v := 50) C.1 C.2.1 dL_acts_177 (by decide) ?_
    obtain ⟨v45, ev45, h⟩ := lt_out h
    refine k_irem C (by decide) ev45 dL_acts_179 ?_
    obtain ⟨v46, ev46, h⟩ := lt_out h
    refine k_iadd C ev46 dL_acts_180 ?_
    refine lv_iconst (v := 1) C.1 C.2.1 dL_acts_181 (by decide) ?_
    refine lv_iload_n C.1 C.2.1 dL_acts_182 rfl (lv_at hl 3 rfl) ?_
    refine lv_sipush (v := 400) C.1 C.2.1 dL_acts_183 (by decide) ?_
    obtain ⟨v47, ev47, h⟩ := lt_out h
    refine k_idiv C (by decide) ev47 dL_acts_186 ?_
    refine lv_bipush (v := 30) C.1 C.2.1 dL_acts_187 (by decide) ?_
    obtain ⟨v48, ev48, h⟩ := lt_out h
    refine k_irem C (by decide) ev48 dL_acts_189 ?_
    obtain ⟨v49, ev49, h⟩ := lt_out h
    refine k_iadd C ev49 dL_acts_190 ?_
    obtain ⟨r51, Ls52, Hs53, c50, h⟩ := bd3_out h
    refine k_callSWi C G X N Y hP hS (m_L_addStop l hfl G.2.1 _ c50) (vx_cwSW 4 C.2.2.2.2.2.1 (lwG_cons wl_addStop) rfl rfl rfl (by decide +kernel) ⟨Nat.le_of_ble_eq_true rfl, Nat.le_of_ble_eq_true rfl⟩) (As := [.ref (ad 0), .int s0, .int v46, .int v49]) rfl hl.1 rfl (Nat.le_of_ble_eq_true rfl) dL_acts_191 ⟨Nat.le_of_ble_eq_true rfl, Nat.le_of_ble_eq_true rfl⟩ (fun H locs hP hS => ?_)
    cases h
    refine W.widen (k := 2) (n := 12) (by omega) (by omega) ?_
    exact k_iret C hP hS dL_acts_194
  have h := if_f c54 h
  by_cases c66 : r1 = 4
  · have h := if_t c66 h
    refine lv_tableIn (tgt := 195) (off := 170) C.1 C.2.1 dL_acts_25 (by rw [c66]; decide) (by rw [c66]; decide) (by rw [c66]; rfl) (by decide) ?_
    refine lv_aload_n C.1 C.2.1 dL_acts_195 rfl (lv_at hl 1 rfl) ?_
    refine lv_iload C.1 C.2.1 dL_acts_196 (lv_at hl 0 rfl) ?_
    refine lv_iload_n C.1 C.2.1 dL_acts_198 rfl (lv_at hl 3 rfl) ?_
    refine k_ldci C G (List.mem_cons_of_mem _ lk_147) dL_acts_199 ?_
    obtain ⟨v55, ev55, h⟩ := lt_out h
    refine k_irem C (by decide) ev55 dL_acts_201 ?_
    refine lv_iconst (v := 1) C.1 C.2.1 dL_acts_202 (by decide) ?_
    refine lv_iload_n C.1 C.2.1 dL_acts_203 rfl (lv_at hl 3 rfl) ?_
    refine lv_bipush (v := 60) C.1 C.2.1 dL_acts_204 (by decide) ?_
    obtain ⟨v56, ev56, h⟩ := lt_out h
    refine k_irem C (by decide) ev56 dL_acts_206 ?_
    obtain ⟨v57, ev57, h⟩ := lt_out h
    refine k_iadd C ev57 dL_acts_207 ?_
    refine lv_iconst (v := 1) C.1 C.2.1 dL_acts_208 (by decide) ?_
    refine lv_iload_n C.1 C.2.1 dL_acts_209 rfl (lv_at hl 3 rfl) ?_
    refine lv_bipush (v := 17) C.1 C.2.1 dL_acts_210 (by decide) ?_
    obtain ⟨v58, ev58, h⟩ := lt_out h
    refine k_irem C (by decide) ev58 dL_acts_212 ?_
    obtain ⟨v59, ev59, h⟩ := lt_out h
    refine k_iadd C ev59 dL_acts_213 ?_
    refine lv_iconst (v := 1) C.1 C.2.1 dL_acts_214 (by decide) ?_
    refine lv_iload_n C.1 C.2.1 dL_acts_215 rfl (lv_at hl 3 rfl) ?_
    refine lv_iconst (v := 5) C.1 C.2.1 dL_acts_216 (by decide) ?_
    obtain ⟨v60, ev60, h⟩ := lt_out h
    refine k_irem C (by decide) ev60 dL_acts_217 ?_
    obtain ⟨v61, ev61, h⟩ := lt_out h
    refine k_iadd C ev61 dL_acts_218 ?_
    obtain ⟨r63, Ls64, Hs65, c62, h⟩ := bd3_out h
    refine k_callSWi C G X N Y hP hS (m_L_addRandomStops l hfl G.2.1 _ c62) (vx_cwSW 6 C.2.2.2.2.2.1 (lwG_cons wl_addRandomStops) rfl rfl rfl (by decide +kernel) ⟨Nat.le_of_ble_eq_true rfl, Nat.le_of_ble_eq_true rfl⟩) (As := [.ref (ad 0), .int s0, .int v55, .int v57, .int v59, .int v61]) rfl hl.1 rfl (Nat.le_of_ble_eq_true rfl) dL_acts_219 ⟨Nat.le_of_ble_eq_true rfl, Nat.le_of_ble_eq_true rfl⟩ (fun H locs hP hS => ?_)
    cases h
    refine W.widen (k := 2) (n := 12) (by omega) (by omega) ?_
    exact k_iret C hP hS dL_acts_222
  have h := if_f c66 h
  by_cases c71 : r1 = 5
  · have h := if_t c71 h
    refine lv_tableIn (tgt := 223) (off := 198) C.1 C.2.1 dL_acts_25 (by rw [c71]; decide) (by rw [c71]; decide) (by rw [c71]; rfl) (by decide) ?_
    refine lv_aload_n C.1 C.2.1 dL_acts_223 rfl (lv_at hl 1 rfl) ?_
    obtain ⟨r67, Ls68, Hs69, c70, h⟩ := bd3_out h
    refine k_callVi C G hP hS (m_X5_clearStops l G.2.1 _  c70) g_obj rfl (cwV 0 C.2.2.2.2.2.1 (lwG_cons wg_X5_clearStops) rfl rfl rfl (by decide +kernel) ⟨Nat.le_of_ble_eq_true rfl, Nat.le_of_ble_eq_true rfl⟩) (As := []) rfl hl.1 rfl (Nat.le_of_ble_eq_true rfl) dL_acts_224 ⟨Nat.le_of_ble_eq_true rfl, Nat.le_of_ble_eq_true rfl⟩ (fun H locs hP hS => ?_)
    cases h
    refine W.widen (k := 2) (n := 12) (by omega) (by omega) ?_
    exact k_iret C hP hS dL_acts_227
  have h := if_f c71 h
  by_cases c83 : r1 = 6
  · have h := if_t c83 h
    refine lv_tableIn (tgt := 228) (off := 203) C.1 C.2.1 dL_acts_25 (by rw [c83]; decide) (by rw [c83]; decide) (by rw [c83]; rfl) (by decide) ?_
    refine lv_iload_n C.1 C.2.1 dL_acts_228 rfl (lv_at hl 3 rfl) ?_
    refine lv_iconst (v := 3) C.1 C.2.1 dL_acts_229 (by decide) ?_
    obtain ⟨v72, ev72, h⟩ := lt_out h
    refine k_irem C (by decide) ev72 dL_acts_230 ?_
    refine lv_if_ne (tgt := 241) C.1 C.2.1 dL_acts_231 (by decide) (fun c73 => ?_) (fun c73 => ?_)
    · have h := if_t c73 h
      refine lv_aload_n C.1 C.2.1 dL_acts_241 rfl (lv_at hl 1 rfl) ?_
      refine lv_iload_n C.1 C.2.1 dL_acts_242 rfl (lv_at hl 3 rfl) ?_
      refine lv_iconst (v := 3) C.1 C.2.1 dL_acts_243 (by decide) ?_
      obtain ⟨v74, ev74, h⟩ := lt_out h
      refine k_irem C (by decide) ev74 dL_acts_244 ?_
      obtain ⟨r76, Ls77, Hs78, c75, h⟩ := bd3_out h
      refine k_callSWi C G X N Y hP hS (m_L_run l hfl G.2.1 _ c75) (vx_cwSW 2 C.2.2.2.2.2.1 (lwG_cons wl_run) rfl rfl rfl (by decide +kernel) ⟨Nat.le_of_ble_eq_true rfl, Nat.le_of_ble_eq_true rfl⟩) (As := [.ref (ad 0), .int v74]) rfl hl.1 rfl (Nat.le_of_ble_eq_true rfl) dL_acts_245 ⟨Nat.le_of_ble_eq_true rfl, Nat.le_of_ble_eq_true rfl⟩ (fun H locs hP hS => ?_)
      cases h
      refine W.widen (k := 2) (n := 12) (by omega) (by omega) ?_
      exact k_iret C hP hS dL_acts_248
    · have h := if_n c73 h
      refine lv_aload_n C.1 C.2.1 dL_acts_234 rfl (lv_at hl 1 rfl) ?_
      obtain ⟨r79, Ls80, Hs81, c82, h⟩ := bd3_out h
      refine k_callVi C G hP hS (m_X5_restart l G.2.1 _  c82) g_obj rfl (cwV 0 C.2.2.2.2.2.1 (lwG_cons wg_X5_restart) rfl rfl rfl (by decide +kernel) ⟨Nat.le_of_ble_eq_true rfl, Nat.le_of_ble_eq_true rfl⟩) (As := []) rfl hl.1 rfl (Nat.le_of_ble_eq_true rfl) dL_acts_235 ⟨Nat.le_of_ble_eq_true rfl, Nat.le_of_ble_eq_true rfl⟩ (fun H locs hP hS => ?_)
      refine lv_goto (tgt := 248) C.1 C.2.1 dL_acts_238 (by decide) ?_
      cases h
      refine W.widen (k := 2) (n := 12) (by omega) (by omega) ?_
      exact k_iret C hP hS dL_acts_248
  have h := if_f c83 h
  refine lv_tableOut (tgt := 249) C.1 C.2.1 dL_acts_25 (tb_out7 c15 c33 c40 c54 c66 c71 c83) (by decide) ?_
  refine lv_aload_n C.1 C.2.1 dL_acts_249 rfl (lv_at hl 1 rfl) ?_
  refine lv_iload_n C.1 C.2.1 dL_acts_250 rfl (lv_at hl 3 rfl) ?_
  refine lv_iconst (v := 5) C.1 C.2.1 dL_acts_251 (by decide) ?_
  obtain ⟨v84, ev84, h⟩ := lt_out h
  refine k_irem C (by decide) ev84 dL_acts_252 ?_
  refine lv_if_ne (tgt := 265) C.1 C.2.1 dL_acts_253 (by decide) (fun c85 => ?_) (fun c85 => ?_)
  · have h := if_t c85 h
    refine lv_iload_n C.1 C.2.1 dL_acts_265 rfl (lv_at hl 3 rfl) ?_
    refine lv_iconst (v := 5) C.1 C.2.1 dL_acts_266 (by decide) ?_
    obtain ⟨v86, ev86, h⟩ := lt_out h
    refine k_idiv C (by decide) ev86 dL_acts_267 ?_
    refine lv_bipush (v := 7) C.1 C.2.1 dL_acts_268 (by decide) ?_
    obtain ⟨v87, ev87, h⟩ := lt_out h
    refine k_irem C (by decide) ev87 dL_acts_270 ?_
    refine W.widen (k := 0) (n := 0) (by omega) (by omega) ?_
    exact w_L_acts_b271 C G X N Y hfl hP hS (lv_sub hl [] rfl) h
  · have h := if_n c85 h
    refine lv_iload_n C.1 C.2.1 dL_acts_256 rfl (lv_at hl 3 rfl) ?_
    refine lv_iconst (v := 5) C.1 C.2.1 dL_acts_257 (by decide) ?_
    obtain ⟨v88, ev88, h⟩ := lt_out h
    refine k_idiv C (by decide) ev88 dL_acts_258 ?_
    refine lv_bipush (v := 90) C.1 C.2.1 dL_acts_259 (by decide) ?_
    obtain ⟨v89, ev89, h⟩ := lt_out h
    refine k_irem C (by decide) ev89 dL_acts_261 ?_
    refine lv_goto (tgt := 271) C.1 C.2.1 dL_acts_262 (by decide) ?_
    refine W.widen (k := 0) (n := 0) (by omega) (by omega) ?_
    exact w_L_acts_b271 C G X N Y hfl hP hS (lv_sub hl [] rfl) h
set_option maxRecDepth 100000 in
set_option maxHeartbeats 4000000 in
theorem w_L_acts_e {res : Int32 × (Nat → SL) × SL} (C : Cx p s m args meth c cL_acts 7 (some .int) RL wsW_acts) (G : Gx D cs ad s) (X : XS ad s.heap.size s s.heap) (N : NC s) (Y : YC s) (hfl : l.stackTraces = false) {T : SL} {Ls : Nat → SL} {Hs : SL} {x1 : Int32} {x2 : Int32} {H : Heap} {locs : List Loc} {ls : Array Slot} (hP : va_P D vwCl (wA cs ad Ls Hs T) H) (hS : va_S (Afr ad s.heap.size) s.heap H locs) (hl : lv_has ls 7 [(0, .ref (ad 0)), (1, .int x1), (2, .int x2)]) (h : f_L_acts Ls Hs x1 x2 = some res) : W p l e rmL_acts s m args below meth c H locs 0 0 (MQ below (va_Qi (fun r' (_ : Unit) => r' = res.1) (fun _ t => va_P D vwCl (wA cs ad res.2.1 res.2.2 T) t.heap) (Afr ad s.heap.size)) args s 2 12 (Afr ad s.heap.size)) (F0 m 0 ls []) := by
  unfold f_L_acts at h
  refine lv_aload_n C.1 C.2.1 dL_acts_0 rfl (lv_at hl 0 rfl) ?_
  refine lv_iconst (v := 0) C.1 C.2.1 dL_acts_1 (by decide) ?_
  obtain ⟨r1, c2, h⟩ := bd_out h
  refine k_callVi C G hP hS (m_X5_size l G.2.1 _  c2) g_obj rfl (cwV 1 C.2.2.2.2.2.1 (lwG_cons wg_X5_size) rfl rfl rfl (by decide +kernel) ⟨Nat.le_of_ble_eq_true rfl, Nat.le_of_ble_eq_true rfl⟩) (As := [.int 0]) rfl hl.1 rfl (Nat.le_of_ble_eq_true rfl) dL_acts_2 ⟨Nat.le_of_ble_eq_true rfl, Nat.le_of_ble_eq_true rfl⟩ (fun H locs hP hS => ?_)
  refine lv_istore_n (lv' := [(3, .int r1), (0, .ref (ad 0)), (1, .int x1), (2, .int x2)]) C.1 C.2.1 dL_acts_5 rfl hl (by decide) rfl (fun ls hl => ?_)
  refine lv_iload_n C.1 C.2.1 dL_acts_6 rfl (lv_at hl 0 rfl) ?_
  refine lv_if_ne (tgt := 14) C.1 C.2.1 dL_acts_7 (by decide) (fun c3 => ?_) (fun c3 => ?_)
  · have h := if_t c3 h
    refine lv_iload_n C.1 C.2.1 dL_acts_14 rfl (lv_at hl 3 rfl) ?_
    refine lv_iload_n C.1 C.2.1 dL_acts_15 rfl (lv_at hl 0 rfl) ?_
    obtain ⟨g4, h⟩ := gd_out h
    have g4 := nz_ne g4
    obtain ⟨v5, ev5, h⟩ := lt_out h
    refine k_irem C g4 ev5 dL_acts_16 ?_
    refine W.widen (k := 0) (n := 0) (by omega) (by omega) ?_
    exact w_L_acts_b17 C G X N Y hfl hP hS (lv_sub hl [1, 2, 3] rfl) h
  · have h := if_n c3 h
    refine lv_iconst (v := 0) C.1 C.2.1 dL_acts_10 (by decide) ?_
    refine lv_goto (tgt := 17) C.1 C.2.1 dL_acts_11 (by decide) ?_
    refine W.widen (k := 0) (n := 0) (by omega) (by omega) ?_
    exact w_L_acts_b17 C G X N Y hfl hP hS (lv_sub hl [1, 2, 3] rfl) h
set_option maxRecDepth 100000 in
set_option maxHeartbeats 4000000 in
theorem m_L_acts (l : Launch) (hfl : l.stackTraces = false) {D : va_G} {cs : Nat → ClassId} {ad : Nat → Nat} (hAd : adOK ad) (sz : Nat) {Ls : Nat → SL} {Hs : SL} {T : SL} {x1 : Int32} {x2 : Int32} {res : Int32 × (Nat → SL) × SL} (h : f_L_acts Ls Hs x1 x2 = some res) : Met l yL_acts wsW_acts rmL_acts (PW D cs ad sz (wA cs ad Ls Hs T) [.ref (ad 0), .int x1, .int x2]) (va_Qi (fun r' (_ : Unit) => r' = res.1) (fun _ t => va_P D vwCl (wA cs ad res.2.1 res.2.2 T) t.heap) (Afr ad sz)) 2 12 (Afr ad sz) :=
  k_metP (by decide) rfl (Nat.le_of_ble_eq_true rfl) hAd (fun p e s m below meth c ls C G X N Y hP hsz hl hS => by
    subst hsz
    exact w_L_acts_e C G X N Y hfl hP hS hl h)
end GEN
