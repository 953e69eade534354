/-! THE LAW: its loop -/
theorem dL_law_0 : decode cL_law 0 = .ok (.new 8, 3) := by decide +kernel
theorem dL_law_3 : decode cL_law 3 = .ok (.dup, 1) := by decide +kernel
theorem dL_law_4 : decode cL_law 4 = .ok (.invokespecial 78, 3) := by decide +kernel
theorem dL_law_7 : decode cL_law 7 = .ok (.astore_n 1, 1) := by decide +kernel
theorem dL_law_8 : decode cL_law 8 = .ok (.new 79, 3) := by decide +kernel
theorem dL_law_11 : decode cL_law 11 = .ok (.dup, 1) := by decide +kernel
theorem dL_law_12 : decode cL_law 12 = .ok (.invokespecial 81, 3) := by decide +kernel
theorem dL_law_15 : decode cL_law 15 = .ok (.astore_n 2, 1) := by decide +kernel
theorem dL_law_16 : decode cL_law 16 = .ok (.iconst 1, 1) := by decide +kernel
theorem dL_law_17 : decode cL_law 17 = .ok (.newarray .long, 2) := by decide +kernel
theorem dL_law_19 : decode cL_law 19 = .ok (.astore_n 3, 1) := by decide +kernel
theorem dL_law_20 : decode cL_law 20 = .ok (.iconst 1, 1) := by decide +kernel
theorem dL_law_21 : decode cL_law 21 = .ok (.newarray .double, 2) := by decide +kernel
theorem dL_law_23 : decode cL_law 23 = .ok (.astore 4, 2) := by decide +kernel
theorem dL_law_25 : decode cL_law 25 = .ok (.iconst 0, 1) := by decide +kernel
theorem dL_law_26 : decode cL_law 26 = .ok (.istore 5, 2) := by decide +kernel
theorem dL_law_28 : decode cL_law 28 = .ok (.iload 5, 2) := by decide +kernel
theorem dL_law_30 : decode cL_law 30 = .ok (.aload_n 0, 1) := by decide +kernel
theorem dL_law_31 : decode cL_law 31 = .ok (.arraylength, 1) := by decide +kernel
theorem dL_law_32 : decode cL_law 32 = .ok (.bipush 6, 2) := by decide +kernel
theorem dL_law_34 : decode cL_law 34 = .ok (.isub, 1) := by decide +kernel
theorem dL_law_35 : decode cL_law 35 = .ok (.if_icmp .gt 1614, 3) := by decide +kernel
theorem dL_law_38 : decode cL_law 38 = .ok (.aload_n 0, 1) := by decide +kernel
theorem dL_law_39 : decode cL_law 39 = .ok (.iload 5, 2) := by decide +kernel
theorem dL_law_41 : decode cL_law 41 = .ok (.iaload, 1) := by decide +kernel
theorem dL_law_42 : decode cL_law 42 = .ok (.bipush 31, 2) := by decide +kernel
theorem dL_law_44 : decode cL_law 44 = .ok (.iand, 1) := by decide +kernel
theorem dL_law_45 : decode cL_law 45 = .ok (.tableswitch 1598 0 27 #[127, 207, 311, 379, 459, 563, 576, 617, 685, 741, 754, 767, 780, 848, 916, 984, 1061, 1074, 1130, 1174, 1230, 1310, 1390, 1458, 1514, 1527, 1540, 1584], 127) := by decide +kernel
theorem dL_law_1643 : decode cL_law 1643 = .ok (.iinc 5 6, 3) := by decide +kernel
theorem dL_law_1646 : decode cL_law 1646 = .ok (.goto (-1618), 3) := by decide +kernel
theorem dL_law_1649 : decode cL_law 1649 = .ok (.iconst 1, 1) := by decide +kernel
theorem dL_law_1650 : decode cL_law 1650 = .ok (.ireturn, 1) := by decide +kernel
theorem and31 (x : Int32) : ∃ j : Nat, j ≤ 31 ∧ x &&& 31 = nI j := by
  refine ⟨x.toBitVec.toNat &&& 31, Nat.and_le_right, ?_⟩
  apply Int32.toBitVec_inj.mp
  apply BitVec.eq_of_toNat_eq
  have h : x.toBitVec.toNat &&& 31 ≤ 31 := Nat.and_le_right
  have e1 : (x &&& 31).toBitVec.toNat = x.toBitVec.toNat &&& 31 := by
    rw [Int32.toBitVec_and, BitVec.toNat_and]
    rfl
  have e2 : (nI (x.toBitVec.toNat &&& 31)).toBitVec.toNat = x.toBitVec.toNat &&& 31 := by
    show (BitVec.ofNat 32 (x.toBitVec.toNat &&& 31)).toNat = _
    rw [BitVec.toNat_ofNat]
    omega
  rw [e1, e2]
theorem len_go {i L : Nat} (hi : i ≤ 3072) (hL : L ≤ 3072) (h : ¬ (Int32.ofNat L - 6 < nI i)) : i + 6 ≤ L := by
  rw [Int32.lt_iff_toInt_lt] at h
  have e : (Int32.ofNat L).toInt = (L : Int) := nI_toInt (n := L) (by omega)
  have e6 : (6 : Int32).toInt = 6 := rfl
  rw [i_sub (by rw [e, e6]; omega) (by rw [e, e6]; omega), e, e6, nI_toInt (by omega)] at h
  omega
set_option maxRecDepth 100000 in
set_option maxHeartbeats 8000000 in
/-- the switch -/
theorem law_sw {p : Program} {l : Launch} {e : Env} {s : State} {m : MethodId} {below : List Frame} {meth : Method} {c : Code} {bs L : Nat} {xs : Nat → Int32} {D : va_G} {cs : Nat → ClassId} {ad : Nat → Nat} {Q : State → Prop} {i cells slots : Nat} {Ls : Nat → SL} {Hs T M : SL} {dr hs o : Int64} {od : UInt64} {H : Heap} {locs : List Loc} {ls : Array Slot} (E : LX p l s m meth c bs L xs D cs ad) (hi : i + 6 ≤ L) (hc : cells + 3 ≤ room_1.cells ∧ slots + 18 ≤ room_1.slots) (hSS : SS Ls Hs T M) (hP : va_P D vwCl (wA cs ad Ls Hs T M dr hs o od) H) (hS : va_S (Afr ad s.heap.size) s.heap H locs) (hl : lv_has ls 9 (lvL bs ad (nI i))) (K : LK p l e s m bs below meth c D cs ad i cells slots Q) {j : Nat} (hj : j ≤ 31) : W p l e room_1 s m #[.ref bs] below meth c H locs cells slots Q (F0 m 45 ls [.int (nI j)]) := by
  have C := E.1
  have q : ∀ k : Nat, k ≤ 27 → ¬ (nI k).toInt < 0 ∧ ¬ 27 < (nI k).toInt ∧ ((nI k).toInt - 0).toNat = k := fun k hk => by
    rw [nI_toInt (by omega)]
    omega
  rcases Nat.lt_or_ge 27 j with h | h
  · refine lv_tableOut (tgt := 1643) C.1 C.2.1 dL_law_45 (Or.inr (by rw [nI_toInt (by omega)]; omega)) (by decide) ?_
    exact W.widen (k := cells + 3) (n := slots + 18) (by omega) (by omega) (K _ _ _ _ _ _ _ _ _ _ _ hSS hP hS hl)
  · obtain ⟨q1, q2, q3⟩ := q j h
    match j, h with
    | 0, _ => exact lv_tableIn (tgt := 172) (off := 127) C.1 C.2.1 dL_law_45 q1 q2 (by rw [q3]; rfl) (by decide) (cs_addMachine E hi hc hSS hP hS hl K)
    | 1, _ => exact lv_tableIn (tgt := 252) (off := 207) C.1 C.2.1 dL_law_45 q1 q2 (by rw [q3]; rfl) (by decide) (cs_setMachine E hi hc hSS hP hS hl K)
    | 2, _ => exact lv_tableIn (tgt := 356) (off := 311) C.1 C.2.1 dL_law_45 q1 q2 (by rw [q3]; rfl) (by decide) (cs_setCapacity E hi hc hSS hP hS hl K)
    | 3, _ => exact lv_tableIn (tgt := 424) (off := 379) C.1 C.2.1 dL_law_45 q1 q2 (by rw [q3]; rfl) (by decide) (cs_addStop E hi hc hSS hP hS hl K)
    | 4, _ => exact lv_tableIn (tgt := 504) (off := 459) C.1 C.2.1 dL_law_45 q1 q2 (by rw [q3]; rfl) (by decide) (cs_addRandomStops E hi hc hSS hP hS hl K)
    | 5, _ => exact lv_tableIn (tgt := 608) (off := 563) C.1 C.2.1 dL_law_45 q1 q2 (by rw [q3]; rfl) (by decide) (cs_clearStops E hi hc hSS hP hS hl K)
    | 6, _ => exact lv_tableIn (tgt := 621) (off := 576) C.1 C.2.1 dL_law_45 q1 q2 (by rw [q3]; rfl) (by decide) (cs_size E hi hc hSS hP hS hl K)
    | 7, _ => exact lv_tableIn (tgt := 662) (off := 617) C.1 C.2.1 dL_law_45 q1 q2 (by rw [q3]; rfl) (by decide) (cs_stop E hi hc hSS hP hS hl K)
    | 8, _ => exact lv_tableIn (tgt := 730) (off := 685) C.1 C.2.1 dL_law_45 q1 q2 (by rw [q3]; rfl) (by decide) (cs_run E hi hc hSS hP hS hl K)
    | 9, _ => exact lv_tableIn (tgt := 786) (off := 741) C.1 C.2.1 dL_law_45 q1 q2 (by rw [q3]; rfl) (by decide) (cs_restart E hi hc hSS hP hS hl K)
    | 10, _ => exact lv_tableIn (tgt := 799) (off := 754) C.1 C.2.1 dL_law_45 q1 q2 (by rw [q3]; rfl) (by decide) (cs_now E hi hc hSS hP hS hl K)
    | 11, _ => exact lv_tableIn (tgt := 812) (off := 767) C.1 C.2.1 dL_law_45 q1 q2 (by rw [q3]; rfl) (by decide) (cs_output E hi hc hSS hP hS hl K)
    | 12, _ => exact lv_tableIn (tgt := 825) (off := 780) C.1 C.2.1 dL_law_45 q1 q2 (by rw [q3]; rfl) (by decide) (cs_setting E hi hc hSS hP hS hl K)
    | 13, _ => exact lv_tableIn (tgt := 893) (off := 848) C.1 C.2.1 dL_law_45 q1 q2 (by rw [q3]; rfl) (by decide) (cs_machine E hi hc hSS hP hS hl K)
    | 14, _ => exact lv_tableIn (tgt := 961) (off := 916) C.1 C.2.1 dL_law_45 q1 q2 (by rw [q3]; rfl) (by decide) (cs_count E hi hc hSS hP hS hl K)
    | 15, _ => exact lv_tableIn (tgt := 1029) (off := 984) C.1 C.2.1 dL_law_45 q1 q2 (by rw [q3]; rfl) (by decide) (cs_meanFill E hi hc hSS hP hS hl K)
    | 16, _ => exact lv_tableIn (tgt := 1106) (off := 1061) C.1 C.2.1 dL_law_45 q1 q2 (by rw [q3]; rfl) (by decide) (cs_inside E hi hc hSS hP hS hl K)
    | 17, _ => exact lv_tableIn (tgt := 1119) (off := 1074) C.1 C.2.1 dL_law_45 q1 q2 (by rw [q3]; rfl) (by decide) (cs_bound E hi hc hSS hP hS hl K)
    | 18, _ => exact lv_tableIn (tgt := 1175) (off := 1130) C.1 C.2.1 dL_law_45 q1 q2 (by rw [q3]; rfl) (by decide) (cs_limiting E hi hc hSS hP hS hl K)
    | 19, _ => exact lv_tableIn (tgt := 1219) (off := 1174) C.1 C.2.1 dL_law_45 q1 q2 (by rw [q3]; rfl) (by decide) (cs_slowest E hi hc hSS hP hS hl K)
    | 20, _ => exact lv_tableIn (tgt := 1275) (off := 1230) C.1 C.2.1 dL_law_45 q1 q2 (by rw [q3]; rfl) (by decide) (cs_outputWith E hi hc hSS hP hS hl K)
    | 21, _ => exact lv_tableIn (tgt := 1355) (off := 1310) C.1 C.2.1 dL_law_45 q1 q2 (by rw [q3]; rfl) (by decide) (cs_capacityFor E hi hc hSS hP hS hl K)
    | 22, _ => exact lv_tableIn (tgt := 1435) (off := 1390) C.1 C.2.1 dL_law_45 q1 q2 (by rw [q3]; rfl) (by decide) (cs_bestBuffer E hi hc hSS hP hS hl K)
    | 23, _ => exact lv_tableIn (tgt := 1503) (off := 1458) C.1 C.2.1 dL_law_45 q1 q2 (by rw [q3]; rfl) (by decide) (cs_append E hi hc hSS hP hS hl K)
    | 24, _ => exact lv_tableIn (tgt := 1559) (off := 1514) C.1 C.2.1 dL_law_45 q1 q2 (by rw [q3]; rfl) (by decide) (cs_clearText E hi hc hSS hP hS hl K)
    | 25, _ => exact lv_tableIn (tgt := 1572) (off := 1527) C.1 C.2.1 dL_law_45 q1 q2 (by rw [q3]; rfl) (by decide) (cs_parse E hi hc hSS hP hS hl K)
    | 26, _ => exact lv_tableIn (tgt := 1585) (off := 1540) C.1 C.2.1 dL_law_45 q1 q2 (by rw [q3]; rfl) (by decide) (cs_undo E hi hc hSS hP hS hl K)
    | 27, _ => exact lv_tableIn (tgt := 1629) (off := 1584) C.1 C.2.1 dL_law_45 q1 q2 (by rw [q3]; rfl) (by decide) (cs_digest E hi hc hSS hP hS hl K)
    | j + 28, h => exact absurd h (by omega)
set_option maxRecDepth 100000 in
set_option maxHeartbeats 8000000 in
/-- the loop: n turns more at most -/
theorem law_loop {p : Program} {l : Launch} {e : Env} {s : State} {m : MethodId} {below : List Frame} {meth : Method} {c : Code} {bs L : Nat} {xs : Nat → Int32} {D : va_G} {cs : Nat → ClassId} {ad : Nat → Nat} {Q : State → Prop} {c0 s0 : Nat} (E : LX p l s m meth c bs L xs D cs ad) (hc0 : c0 + 2000 ≤ room_1.cells ∧ s0 + 10000 ≤ room_1.slots)
    (fin : ∀ (k n : Nat) (H : Heap) (locs : List Loc) (ls : Array Slot), k ≤ c0 + 2000 → n ≤ s0 + 10000 → va_S (Afr ad s.heap.size) s.heap H locs → W p l e room_1 s m #[.ref bs] below meth c H locs k n Q (F0 m 1650 ls [.int 1])) :
    ∀ (n t : Nat) (Ls : Nat → SL) (Hs T M : SL) (dr hs o : Int64) (od : UInt64) (H : Heap) (locs : List Loc) (ls : Array Slot), L < 6 * t + 6 * n + 6 → 6 * t ≤ L → SS Ls Hs T M → va_P D vwCl (wA cs ad Ls Hs T M dr hs o od) H → va_S (Afr ad s.heap.size) s.heap H locs → lv_has ls 9 (lvL bs ad (nI (6 * t))) → W p l e room_1 s m #[.ref bs] below meth c H locs (c0 + 3 * t) (s0 + 18 * t) Q (F0 m 28 ls []) := by
  obtain ⟨C, G, X, N, Y, sX, sL, sA, hL, hfl⟩ := id E
  intro n
  induction n with
  | zero =>
    intro t Ls Hs T M dr hs o od H locs ls h1 h2 hSS hP hS hl
    refine lv_iload C.1 C.2.1 dL_law_28 (lv_at hl 5 rfl) ?_
    refine lv_aload_n C.1 C.2.1 dL_law_30 rfl (lv_at hl 0 rfl) ?_
    refine va_slen C.1 C.2.1 sX sL sA hS dL_law_31 ?_
    refine lv_bipush (v := 6) C.1 C.2.1 dL_law_32 (by decide) ?_
    refine lv_isub C.1 C.2.1 dL_law_34 ?_
    refine lv_icmp_gt (tgt := 1649) C.1 C.2.1 dL_law_35 (by decide) (fun z => ?_) (fun z => absurd (len_go (by omega) hL z) (by omega))
    refine lv_iconst (v := 1) C.1 C.2.1 dL_law_1649 (by decide) ?_
    exact fin _ _ _ _ _ (by omega) (by omega) hS
  | succ n ih =>
    intro t Ls Hs T M dr hs o od H locs ls h1 h2 hSS hP hS hl
    refine lv_iload C.1 C.2.1 dL_law_28 (lv_at hl 5 rfl) ?_
    refine lv_aload_n C.1 C.2.1 dL_law_30 rfl (lv_at hl 0 rfl) ?_
    refine va_slen C.1 C.2.1 sX sL sA hS dL_law_31 ?_
    refine lv_bipush (v := 6) C.1 C.2.1 dL_law_32 (by decide) ?_
    refine lv_isub C.1 C.2.1 dL_law_34 ?_
    refine lv_icmp_gt (tgt := 1649) C.1 C.2.1 dL_law_35 (by decide) (fun z => ?_) (fun z => ?_)
    · refine lv_iconst (v := 1) C.1 C.2.1 dL_law_1649 (by decide) ?_
      exact fin _ _ _ _ _ (by omega) (by omega) hS
    · have hi : 6 * t + 6 ≤ L := len_go (by omega) hL z
      refine lv_aload_n C.1 C.2.1 dL_law_38 rfl (lv_at hl 0 rfl) ?_
      refine lv_iload C.1 C.2.1 dL_law_39 (lv_at hl 5 rfl) ?_
      refine k_sld C sX sL sA hL hS (show 6 * t < L by omega) dL_law_41 ?_
      refine lv_bipush (v := 31) C.1 C.2.1 dL_law_42 (by decide) ?_
      obtain ⟨j, hj, ej⟩ := and31 (xs (6 * t))
      refine k_iand C ej.symm dL_law_44 ?_
      refine law_sw E hi ⟨by omega, by omega⟩ hSS hP hS hl ?_ hj
      intro Ls Hs T M dr hs o od H locs ls hSS hP hS hl
      refine lv_iinc (v := nI (6 * t + 6)) (lv' := [(5, .int (nI (6 * t + 6))), (0, .ref bs), (1, .ref (ad 0)), (2, .ref (ad 89)), (3, .ref (ad 95)), (4, .ref (ad 96))]) C.1 C.2.1 dL_law_1643 hl (k := 5) rfl (by rw [np6]; rfl) (by decide) rfl (fun ls hl => ?_)
      refine lv_goto (tgt := 28) C.1 C.2.1 dL_law_1646 (by decide) ?_
      have hl : lv_has ls 9 (lvL bs ad (nI (6 * (t + 1)))) := lv_sub hl [1, 2, 3, 4, 5, 0] rfl
      exact ih (t + 1) Ls Hs T M dr hs o od H locs ls (by omega) (by omega) hSS hP hS hl
