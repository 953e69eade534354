/-! THE LAW: calls clearStops, size, stop, run, restart, now -/
theorem dL_law_608 : decode cL_law 608 = .ok (.aload_n 1, 1) := by decide +kernel
theorem dL_law_609 : decode cL_law 609 = .ok (.invokevirtual 105, 3) := by decide +kernel
theorem dL_law_612 : decode cL_law 612 = .ok (.aload_n 2, 1) := by decide +kernel
theorem dL_law_613 : decode cL_law 613 = .ok (.invokevirtual 108, 3) := by decide +kernel
theorem dL_law_616 : decode cL_law 616 = .ok (.if_icmp .eq 1027, 3) := by decide +kernel
theorem dL_law_619 : decode cL_law 619 = .ok (.iconst 0, 1) := by decide +kernel
theorem dL_law_620 : decode cL_law 620 = .ok (.ireturn, 1) := by decide +kernel
set_option maxRecDepth 100000 in
set_option maxHeartbeats 4000000 in
theorem cs_clearStops {p : Program} {l : Launch} {e : Env} {s : State} {m : MethodId} {below : List Frame} {meth : Method} {c : Code} {bs L : Nat} {xs : Nat → Int32} {D : va_G} {cs : Nat → ClassId} {ad : Nat → Nat} {Q : State → Prop} {i cells slots : Nat} {Ls : Nat → SL} {Hs T M : SL} {dr hs o : Int64} {od : UInt64} {H : Heap} {locs : List Loc} {ls : Array Slot} (E : LX p l s m meth c bs L xs D cs ad) (hi : i + 6 ≤ L) (hc : cells + 3 ≤ room_1.cells ∧ slots + 18 ≤ room_1.slots) (hSS : SS Ls Hs T M) (hP : va_P D vwCl (wA cs ad Ls Hs T M dr hs o od) H) (hS : va_S (Afr ad s.heap.size) s.heap H locs) (hl : lv_has ls 9 (lvL bs ad (nI i))) (K : LK p l e s m bs below meth c D cs ad i cells slots Q) : W p l e room_1 s m #[.ref bs] below meth c H locs cells slots Q (F0 m 608 ls []) := by
  obtain ⟨C, G, X, N, Y, sX, sL, sA, hL, hfl⟩ := E
  obtain ⟨bv, M', Ls', Hs', eM, eC, hSS'⟩ := s_clearStops hSS
  refine lv_aload_n C.1 C.2.1 dL_law_608 rfl (lv_at hl 1 rfl) ?_
  refine k_callVi C G hP hS (m_X5_clearStops l G.2.1 _ eC) g_obj rfl (cwV 0 C.2.2.2.2.2.1 (lwG_up wg_X5_clearStops) rfl rfl rfl (by decide +kernel) ⟨Nat.le_of_ble_eq_true rfl, Nat.le_of_ble_eq_true rfl⟩) (As := []) rfl hl.1 rfl (Nat.le_of_ble_eq_true rfl) dL_law_609 ⟨by omega, by omega⟩ (fun H locs hP hS => ?_)
  have hP : va_P D vwCl (wA cs ad Ls' Hs' T M dr hs o od) H := hP
  refine lv_aload_n C.1 C.2.1 dL_law_612 rfl (lv_at hl 2 rfl) ?_
  refine k_callVi C G hP hS (m_X6_clearStops l G.2.1 _ eM) r_obj rfl (cwV 0 C.2.2.2.2.2.1 (lwG_up wg_X6_clearStops) rfl rfl rfl (by decide +kernel) ⟨Nat.le_of_ble_eq_true rfl, Nat.le_of_ble_eq_true rfl⟩) (As := []) rfl hl.1 rfl (Nat.le_of_ble_eq_true rfl) dL_law_613 ⟨by omega, by omega⟩ (fun H locs hP hS => ?_)
  have hP : va_P D vwCl (wA cs ad Ls' Hs' T M' dr hs o od) H := hP
  refine lv_icmp_eq (tgt := 1643) C.1 C.2.1 dL_law_616 (by decide) (fun _ => ?_) (fun q => absurd rfl q)
  have hSS := hSS'
  refine W.widen (k := cells + 3) (n := slots + 18) (by omega) (by omega) ?_
  exact K _ _ _ _ _ _ _ _ _ _ _ hSS hP hS (lv_sub hl [0, 1, 2, 3, 4, 5] rfl)
theorem dL_law_621 : decode cL_law 621 = .ok (.aload_n 1, 1) := by decide +kernel
theorem dL_law_622 : decode cL_law 622 = .ok (.aload_n 0, 1) := by decide +kernel
theorem dL_law_623 : decode cL_law 623 = .ok (.iload 5, 2) := by decide +kernel
theorem dL_law_625 : decode cL_law 625 = .ok (.iconst 1, 1) := by decide +kernel
theorem dL_law_626 : decode cL_law 626 = .ok (.iadd, 1) := by decide +kernel
theorem dL_law_627 : decode cL_law 627 = .ok (.iaload, 1) := by decide +kernel
theorem dL_law_628 : decode cL_law 628 = .ok (.ifCond .eq 7, 3) := by decide +kernel
theorem dL_law_631 : decode cL_law 631 = .ok (.iconst 1, 1) := by decide +kernel
theorem dL_law_632 : decode cL_law 632 = .ok (.goto 4, 3) := by decide +kernel
theorem dL_law_635 : decode cL_law 635 = .ok (.iconst 0, 1) := by decide +kernel
theorem dL_law_636 : decode cL_law 636 = .ok (.invokevirtual 109, 3) := by decide +kernel
theorem dL_law_639 : decode cL_law 639 = .ok (.aload_n 2, 1) := by decide +kernel
theorem dL_law_640 : decode cL_law 640 = .ok (.aload_n 0, 1) := by decide +kernel
theorem dL_law_641 : decode cL_law 641 = .ok (.iload 5, 2) := by decide +kernel
theorem dL_law_643 : decode cL_law 643 = .ok (.iconst 1, 1) := by decide +kernel
theorem dL_law_644 : decode cL_law 644 = .ok (.iadd, 1) := by decide +kernel
theorem dL_law_645 : decode cL_law 645 = .ok (.iaload, 1) := by decide +kernel
theorem dL_law_646 : decode cL_law 646 = .ok (.ifCond .eq 7, 3) := by decide +kernel
theorem dL_law_649 : decode cL_law 649 = .ok (.iconst 1, 1) := by decide +kernel
theorem dL_law_650 : decode cL_law 650 = .ok (.goto 4, 3) := by decide +kernel
theorem dL_law_653 : decode cL_law 653 = .ok (.iconst 0, 1) := by decide +kernel
theorem dL_law_654 : decode cL_law 654 = .ok (.invokevirtual 113, 3) := by decide +kernel
theorem dL_law_657 : decode cL_law 657 = .ok (.if_icmp .eq 986, 3) := by decide +kernel
theorem dL_law_660 : decode cL_law 660 = .ok (.iconst 0, 1) := by decide +kernel
theorem dL_law_661 : decode cL_law 661 = .ok (.ireturn, 1) := by decide +kernel
set_option maxRecDepth 100000 in
set_option maxHeartbeats 4000000 in
theorem cs_size {p : Program} {l : Launch} {e : Env} {s : State} {m : MethodId} {below : List Frame} {meth : Method} {c : Code} {bs L : Nat} {xs : Nat → Int32} {D : va_G} {cs : Nat → ClassId} {ad : Nat → Nat} {Q : State → Prop} {i cells slots : Nat} {Ls : Nat → SL} {Hs T M : SL} {dr hs o : Int64} {od : UInt64} {H : Heap} {locs : List Loc} {ls : Array Slot} (E : LX p l s m meth c bs L xs D cs ad) (hi : i + 6 ≤ L) (hc : cells + 3 ≤ room_1.cells ∧ slots + 18 ≤ room_1.slots) (hSS : SS Ls Hs T M) (hP : va_P D vwCl (wA cs ad Ls Hs T M dr hs o od) H) (hS : va_S (Afr ad s.heap.size) s.heap H locs) (hl : lv_has ls 9 (lvL bs ad (nI i))) (K : LK p l e s m bs below meth c D cs ad i cells slots Q) : W p l e room_1 s m #[.ref bs] below meth c H locs cells slots Q (F0 m 621 ls []) := by
  obtain ⟨C, G, X, N, Y, sX, sL, sA, hL, hfl⟩ := E
  refine lv_aload_n C.1 C.2.1 dL_law_621 rfl (lv_at hl 1 rfl) ?_
  refine lv_aload_n C.1 C.2.1 dL_law_622 rfl (lv_at hl 0 rfl) ?_
  refine lv_iload C.1 C.2.1 dL_law_623 (lv_at hl 5 rfl) ?_
  refine lv_iconst (v := 1) C.1 C.2.1 dL_law_625 (by decide) ?_
  refine k_iadd C (np1 i) dL_law_626 ?_
  refine k_sld C sX sL sA hL hS (show i + 1 < L by omega) dL_law_627 ?_
  refine lv_if_eq (tgt := 635) C.1 C.2.1 dL_law_628 (by decide) (fun z => ?_) (fun z => ?_)
  · obtain ⟨bv, M', eM, eC, hSS'⟩ := s_size hSS 0
    refine lv_iconst (v := 0) C.1 C.2.1 dL_law_635 (by decide) ?_
    refine k_callVi C G hP hS (m_X5_size l G.2.1 _ eC) g_obj rfl (cwV 1 C.2.2.2.2.2.1 (lwG_up wg_X5_size) rfl rfl rfl (by decide +kernel) ⟨Nat.le_of_ble_eq_true rfl, Nat.le_of_ble_eq_true rfl⟩) (As := [.int 0]) rfl hl.1 rfl (Nat.le_of_ble_eq_true rfl) dL_law_636 ⟨by omega, by omega⟩ (fun H locs hP hS => ?_)
    have hP : va_P D vwCl (wA cs ad Ls Hs T M dr hs o od) H := hP
    refine lv_aload_n C.1 C.2.1 dL_law_639 rfl (lv_at hl 2 rfl) ?_
    refine lv_aload_n C.1 C.2.1 dL_law_640 rfl (lv_at hl 0 rfl) ?_
    refine lv_iload C.1 C.2.1 dL_law_641 (lv_at hl 5 rfl) ?_
    refine lv_iconst (v := 1) C.1 C.2.1 dL_law_643 (by decide) ?_
    refine k_iadd C (np1 i) dL_law_644 ?_
    refine k_sld C sX sL sA hL hS (show i + 1 < L by omega) dL_law_645 ?_
    refine lv_if_eq (tgt := 653) C.1 C.2.1 dL_law_646 (by decide) (fun _ => ?_) (fun q => absurd z q)
    refine lv_iconst (v := 0) C.1 C.2.1 dL_law_653 (by decide) ?_
    refine k_callVi C G hP hS (m_X6_size l G.2.1 _ eM) r_obj rfl (cwV 1 C.2.2.2.2.2.1 (lwG_up wg_X6_size) rfl rfl rfl (by decide +kernel) ⟨Nat.le_of_ble_eq_true rfl, Nat.le_of_ble_eq_true rfl⟩) (As := [.int 0]) rfl hl.1 rfl (Nat.le_of_ble_eq_true rfl) dL_law_654 ⟨by omega, by omega⟩ (fun H locs hP hS => ?_)
    have hP : va_P D vwCl (wA cs ad Ls Hs T M' dr hs o od) H := hP
    refine lv_icmp_eq (tgt := 1643) C.1 C.2.1 dL_law_657 (by decide) (fun _ => ?_) (fun q => absurd rfl q)
    have hSS := hSS'
    refine W.widen (k := cells + 3) (n := slots + 18) (by omega) (by omega) ?_
    exact K _ _ _ _ _ _ _ _ _ _ _ hSS hP hS (lv_sub hl [0, 1, 2, 3, 4, 5] rfl)
  · obtain ⟨bv, M', eM, eC, hSS'⟩ := s_size hSS 1
    refine lv_iconst (v := 1) C.1 C.2.1 dL_law_631 (by decide) ?_
    refine lv_goto (tgt := 636) C.1 C.2.1 dL_law_632 (by decide) ?_
    refine k_callVi C G hP hS (m_X5_size l G.2.1 _ eC) g_obj rfl (cwV 1 C.2.2.2.2.2.1 (lwG_up wg_X5_size) rfl rfl rfl (by decide +kernel) ⟨Nat.le_of_ble_eq_true rfl, Nat.le_of_ble_eq_true rfl⟩) (As := [.int 1]) rfl hl.1 rfl (Nat.le_of_ble_eq_true rfl) dL_law_636 ⟨by omega, by omega⟩ (fun H locs hP hS => ?_)
    have hP : va_P D vwCl (wA cs ad Ls Hs T M dr hs o od) H := hP
    refine lv_aload_n C.1 C.2.1 dL_law_639 rfl (lv_at hl 2 rfl) ?_
    refine lv_aload_n C.1 C.2.1 dL_law_640 rfl (lv_at hl 0 rfl) ?_
    refine lv_iload C.1 C.2.1 dL_law_641 (lv_at hl 5 rfl) ?_
    refine lv_iconst (v := 1) C.1 C.2.1 dL_law_643 (by decide) ?_
    refine k_iadd C (np1 i) dL_law_644 ?_
    refine k_sld C sX sL sA hL hS (show i + 1 < L by omega) dL_law_645 ?_
    refine lv_if_eq (tgt := 653) C.1 C.2.1 dL_law_646 (by decide) (fun q => absurd q z) (fun _ => ?_)
    refine lv_iconst (v := 1) C.1 C.2.1 dL_law_649 (by decide) ?_
    refine lv_goto (tgt := 654) C.1 C.2.1 dL_law_650 (by decide) ?_
    refine k_callVi C G hP hS (m_X6_size l G.2.1 _ eM) r_obj rfl (cwV 1 C.2.2.2.2.2.1 (lwG_up wg_X6_size) rfl rfl rfl (by decide +kernel) ⟨Nat.le_of_ble_eq_true rfl, Nat.le_of_ble_eq_true rfl⟩) (As := [.int 1]) rfl hl.1 rfl (Nat.le_of_ble_eq_true rfl) dL_law_654 ⟨by omega, by omega⟩ (fun H locs hP hS => ?_)
    have hP : va_P D vwCl (wA cs ad Ls Hs T M' dr hs o od) H := hP
    refine lv_icmp_eq (tgt := 1643) C.1 C.2.1 dL_law_657 (by decide) (fun _ => ?_) (fun q => absurd rfl q)
    have hSS := hSS'
    refine W.widen (k := cells + 3) (n := slots + 18) (by omega) (by omega) ?_
    exact K _ _ _ _ _ _ _ _ _ _ _ hSS hP hS (lv_sub hl [0, 1, 2, 3, 4, 5] rfl)
theorem dL_law_662 : decode cL_law 662 = .ok (.aload_n 1, 1) := by decide +kernel
theorem dL_law_663 : decode cL_law 663 = .ok (.aload_n 0, 1) := by decide +kernel
theorem dL_law_664 : decode cL_law 664 = .ok (.iload 5, 2) := by decide +kernel
theorem dL_law_666 : decode cL_law 666 = .ok (.iconst 1, 1) := by decide +kernel
theorem dL_law_667 : decode cL_law 667 = .ok (.iadd, 1) := by decide +kernel
theorem dL_law_668 : decode cL_law 668 = .ok (.iaload, 1) := by decide +kernel
theorem dL_law_669 : decode cL_law 669 = .ok (.aload_n 0, 1) := by decide +kernel
theorem dL_law_670 : decode cL_law 670 = .ok (.iload 5, 2) := by decide +kernel
theorem dL_law_672 : decode cL_law 672 = .ok (.iconst 2, 1) := by decide +kernel
theorem dL_law_673 : decode cL_law 673 = .ok (.iadd, 1) := by decide +kernel
theorem dL_law_674 : decode cL_law 674 = .ok (.iaload, 1) := by decide +kernel
theorem dL_law_675 : decode cL_law 675 = .ok (.aload_n 3, 1) := by decide +kernel
theorem dL_law_676 : decode cL_law 676 = .ok (.invokestatic 114, 3) := by decide +kernel
theorem dL_law_679 : decode cL_law 679 = .ok (.istore 6, 2) := by decide +kernel
theorem dL_law_681 : decode cL_law 681 = .ok (.aload_n 2, 1) := by decide +kernel
theorem dL_law_682 : decode cL_law 682 = .ok (.aload_n 0, 1) := by decide +kernel
theorem dL_law_683 : decode cL_law 683 = .ok (.iload 5, 2) := by decide +kernel
theorem dL_law_685 : decode cL_law 685 = .ok (.iconst 1, 1) := by decide +kernel
theorem dL_law_686 : decode cL_law 686 = .ok (.iadd, 1) := by decide +kernel
theorem dL_law_687 : decode cL_law 687 = .ok (.iaload, 1) := by decide +kernel
theorem dL_law_688 : decode cL_law 688 = .ok (.aload_n 0, 1) := by decide +kernel
theorem dL_law_689 : decode cL_law 689 = .ok (.iload 5, 2) := by decide +kernel
theorem dL_law_691 : decode cL_law 691 = .ok (.iconst 2, 1) := by decide +kernel
theorem dL_law_692 : decode cL_law 692 = .ok (.iadd, 1) := by decide +kernel
theorem dL_law_693 : decode cL_law 693 = .ok (.iaload, 1) := by decide +kernel
theorem dL_law_694 : decode cL_law 694 = .ok (.invokevirtual 116, 3) := by decide +kernel
theorem dL_law_697 : decode cL_law 697 = .ok (.istore 7, 2) := by decide +kernel
theorem dL_law_699 : decode cL_law 699 = .ok (.aload_n 2, 1) := by decide +kernel
theorem dL_law_700 : decode cL_law 700 = .ok (.invokevirtual 88, 3) := by decide +kernel
theorem dL_law_703 : decode cL_law 703 = .ok (.iload 6, 2) := by decide +kernel
theorem dL_law_705 : decode cL_law 705 = .ok (.if_icmp .eq 5, 3) := by decide +kernel
theorem dL_law_708 : decode cL_law 708 = .ok (.iconst 0, 1) := by decide +kernel
theorem dL_law_709 : decode cL_law 709 = .ok (.ireturn, 1) := by decide +kernel
theorem dL_law_710 : decode cL_law 710 = .ok (.iload 6, 2) := by decide +kernel
theorem dL_law_712 : decode cL_law 712 = .ok (.ifCond .ne 15, 3) := by decide +kernel
theorem dL_law_715 : decode cL_law 715 = .ok (.aload_n 3, 1) := by decide +kernel
theorem dL_law_716 : decode cL_law 716 = .ok (.iconst 0, 1) := by decide +kernel
theorem dL_law_717 : decode cL_law 717 = .ok (.laload, 1) := by decide +kernel
theorem dL_law_718 : decode cL_law 718 = .ok (.iload 7, 2) := by decide +kernel
theorem dL_law_720 : decode cL_law 720 = .ok (.i2l, 1) := by decide +kernel
theorem dL_law_721 : decode cL_law 721 = .ok (.lcmp, 1) := by decide +kernel
theorem dL_law_722 : decode cL_law 722 = .ok (.ifCond .eq 5, 3) := by decide +kernel
theorem dL_law_725 : decode cL_law 725 = .ok (.iconst 0, 1) := by decide +kernel
theorem dL_law_726 : decode cL_law 726 = .ok (.ireturn, 1) := by decide +kernel
theorem dL_law_727 : decode cL_law 727 = .ok (.goto 916, 3) := by decide +kernel
set_option maxRecDepth 20000 in
theorem wl_stop : GoodIn lw_tbl (va_wsS RL 114 yL_stop wsW_stop) := goodIn_app (fun w h => ⟨in_idx [482, 483, 47] (by decide +kernel) w h, good_of_word (List.all_eq_true.mp (show ([.methodLink RL 114 yL_stop, .static yL_stop, .initialized yL_stop.cls] : List Cond).all goodWord = true from by decide +kernel) w h)⟩) (fun w h => (List.mem_cons.mp h).elim (fun q => q ▸ ⟨List.mem_of_getElem? (i := 484) (by decide +kernel), good_of_word rfl⟩) (fun q => lwG_self w q))
set_option maxRecDepth 100000 in
set_option maxHeartbeats 4000000 in
theorem cs_stop {p : Program} {l : Launch} {e : Env} {s : State} {m : MethodId} {below : List Frame} {meth : Method} {c : Code} {bs L : Nat} {xs : Nat → Int32} {D : va_G} {cs : Nat → ClassId} {ad : Nat → Nat} {Q : State → Prop} {i cells slots : Nat} {Ls : Nat → SL} {Hs T M : SL} {dr hs o : Int64} {od : UInt64} {H : Heap} {locs : List Loc} {ls : Array Slot} (E : LX p l s m meth c bs L xs D cs ad) (hi : i + 6 ≤ L) (hc : cells + 3 ≤ room_1.cells ∧ slots + 18 ≤ room_1.slots) (hSS : SS Ls Hs T M) (hP : va_P D vwCl (wA cs ad Ls Hs T M dr hs o od) H) (hS : va_S (Afr ad s.heap.size) s.heap H locs) (hl : lv_has ls 9 (lvL bs ad (nI i))) (K : LK p l e s m bs below meth c D cs ad i cells slots Q) : W p l e room_1 s m #[.ref bs] below meth c H locs cells slots Q (F0 m 662 ls []) := by
  obtain ⟨C, G, X, N, Y, sX, sL, sA, hL, hfl⟩ := E
  obtain ⟨bv, M', res, v, o', eM, eC, h4, hSS', hov, hu, hk⟩ := r0_out o (s_stop hSS (xs (i + 1)) (xs (i + 2)))
  refine lv_aload_n C.1 C.2.1 dL_law_662 rfl (lv_at hl 1 rfl) ?_
  refine lv_aload_n C.1 C.2.1 dL_law_663 rfl (lv_at hl 0 rfl) ?_
  refine lv_iload C.1 C.2.1 dL_law_664 (lv_at hl 5 rfl) ?_
  refine lv_iconst (v := 1) C.1 C.2.1 dL_law_666 (by decide) ?_
  refine k_iadd C (np1 i) dL_law_667 ?_
  refine k_sld C sX sL sA hL hS (show i + 1 < L by omega) dL_law_668 ?_
  refine lv_aload_n C.1 C.2.1 dL_law_669 rfl (lv_at hl 0 rfl) ?_
  refine lv_iload C.1 C.2.1 dL_law_670 (lv_at hl 5 rfl) ?_
  refine lv_iconst (v := 2) C.1 C.2.1 dL_law_672 (by decide) ?_
  refine k_iadd C (np2 i) dL_law_673 ?_
  refine k_sld C sX sL sA hL hS (show i + 2 < L by omega) dL_law_674 ?_
  refine lv_aload_n C.1 C.2.1 dL_law_675 rfl (lv_at hl 3 rfl) ?_
  have hM := m_L_stop l hfl (D := D) (cs := cs) G.2.1 H.size (Ls := Ls) (Hs := Hs) (T := T) (M := M) (dr := dr) (hs := hs) (o := o) (od := od) eC (v := v) (w' := wA cs ad Ls Hs T M dr hs o' od) (fun u hu1 => by
    obtain ⟨a1, a4⟩ := hu u hu1
    exact ⟨a1, by rw [a4]⟩) (fun k hk1 => by
    obtain ⟨a4, q⟩ := hk k hk1
    exact ⟨by rw [a4], dk_B q⟩)
  refine k_callSWi C G X N Y hP hS hM (vx_cwSW 4 C.2.2.2.2.2.1 wl_stop rfl rfl rfl (by decide +kernel) ⟨Nat.le_of_ble_eq_true rfl, Nat.le_of_ble_eq_true rfl⟩) (As := [.ref (ad 0), .int (xs (i + 1)), .int (xs (i + 2)), .ref (ad 95)]) rfl hl.1 rfl (Nat.le_of_ble_eq_true rfl) dL_law_676 ⟨by omega, by omega⟩ (fun H locs hP hS => ?_)
  refine lv_istore (lv' := [(6, .int v), (0, .ref bs), (1, .ref (ad 0)), (2, .ref (ad 89)), (3, .ref (ad 95)), (4, .ref (ad 96)), (5, .int (nI i))]) C.1 C.2.1 dL_law_679 hl (by decide) rfl (fun ls hl => ?_)
  refine lv_aload_n C.1 C.2.1 dL_law_681 rfl (lv_at hl 3 rfl) ?_
  refine lv_aload_n C.1 C.2.1 dL_law_682 rfl (lv_at hl 1 rfl) ?_
  refine lv_iload C.1 C.2.1 dL_law_683 (lv_at hl 6 rfl) ?_
  refine lv_iconst (v := 1) C.1 C.2.1 dL_law_685 (by decide) ?_
  refine k_iadd C (np1 i) dL_law_686 ?_
  refine k_sld C sX sL sA hL hS (show i + 1 < L by omega) dL_law_687 ?_
  refine lv_aload_n C.1 C.2.1 dL_law_688 rfl (lv_at hl 1 rfl) ?_
  refine lv_iload C.1 C.2.1 dL_law_689 (lv_at hl 6 rfl) ?_
  refine lv_iconst (v := 2) C.1 C.2.1 dL_law_691 (by decide) ?_
  refine k_iadd C (np2 i) dL_law_692 ?_
  refine k_sld C sX sL sA hL hS (show i + 2 < L by omega) dL_law_693 ?_
  refine k_callVi C G hP hS (m_X6_stop l G.2.1 _ eM) r_obj rfl (cwV 2 C.2.2.2.2.2.1 (lwG_up wg_X6_stop) rfl rfl rfl (by decide +kernel) ⟨Nat.le_of_ble_eq_true rfl, Nat.le_of_ble_eq_true rfl⟩) (As := [.int (xs (i + 1)), .int (xs (i + 2))]) rfl hl.1 rfl (Nat.le_of_ble_eq_true rfl) dL_law_694 ⟨by omega, by omega⟩ (fun H locs hP hS => ?_)
  have hP : va_P D vwCl (wA cs ad Ls Hs T M' dr hs o' od) H := hP
  refine lv_istore (lv' := [(7, .int bv), (6, .int v), (0, .ref bs), (1, .ref (ad 0)), (2, .ref (ad 89)), (3, .ref (ad 95)), (4, .ref (ad 96)), (5, .int (nI i))]) C.1 C.2.1 dL_law_697 hl (by decide) rfl (fun ls hl => ?_)
  refine lv_aload_n C.1 C.2.1 dL_law_699 rfl (lv_at hl 4 rfl) ?_
  refine k_callVi C G hP hS (m_X6_thrown l G.2.1 _ (show f_X6_thrown M' = some v by rw [← h4]; rfl)) r_obj rfl (cwV 0 C.2.2.2.2.2.1 (lwG_up wg_X6_thrown) rfl rfl rfl (by decide +kernel) ⟨Nat.le_of_ble_eq_true rfl, Nat.le_of_ble_eq_true rfl⟩) (As := []) rfl hl.1 rfl (Nat.le_of_ble_eq_true rfl) dL_law_700 ⟨by omega, by omega⟩ (fun H locs hP hS => ?_)
  refine lv_iload C.1 C.2.1 dL_law_703 (lv_at hl 1 rfl) ?_
  refine lv_icmp_eq (tgt := 710) C.1 C.2.1 dL_law_705 (by decide) (fun _ => ?_) (fun z => absurd rfl z)
  refine lv_iload C.1 C.2.1 dL_law_710 (lv_at hl 1 rfl) ?_
  have hSS := hSS'
  refine lv_if_ne (tgt := 727) C.1 C.2.1 dL_law_712 (by decide) (fun _ => ?_) (fun z => ?_)
  · refine lv_goto (tgt := 1643) C.1 C.2.1 dL_law_727 (by decide) ?_
    refine W.widen (k := cells + 3) (n := slots + 18) (by omega) (by omega) ?_
    exact K _ _ _ _ _ _ _ _ _ _ _ hSS hP hS (lv_sub hl [2, 3, 4, 5, 6, 7] rfl)
  · refine lv_aload_n C.1 C.2.1 dL_law_715 rfl (lv_at hl 5 rfl) ?_
    refine lv_iconst (v := 0) C.1 C.2.1 dL_law_716 (by decide) ?_
    refine k_laldO C G hP dL_law_717 ?_
    refine lv_iload C.1 C.2.1 dL_law_718 (lv_at hl 0 rfl) ?_
    refine k_i2l C (hov z) dL_law_720 ?_
    refine W.lcmp C.1 C.2.1 dL_law_721 ?_
    refine lv_if_eq (tgt := 727) C.1 C.2.1 dL_law_722 (by decide) (fun _ => ?_) (fun q => absurd (lg_self _) q)
    refine lv_goto (tgt := 1643) C.1 C.2.1 dL_law_727 (by decide) ?_
    refine W.widen (k := cells + 3) (n := slots + 18) (by omega) (by omega) ?_
    exact K _ _ _ _ _ _ _ _ _ _ _ hSS hP hS (lv_sub hl [2, 3, 4, 5, 6, 7] rfl)
theorem dL_law_730 : decode cL_law 730 = .ok (.aload_n 1, 1) := by decide +kernel
theorem dL_law_731 : decode cL_law 731 = .ok (.aload_n 0, 1) := by decide +kernel
theorem dL_law_732 : decode cL_law 732 = .ok (.iload 5, 2) := by decide +kernel
theorem dL_law_734 : decode cL_law 734 = .ok (.iconst 1, 1) := by decide +kernel
theorem dL_law_735 : decode cL_law 735 = .ok (.iadd, 1) := by decide +kernel
theorem dL_law_736 : decode cL_law 736 = .ok (.iaload, 1) := by decide +kernel
theorem dL_law_737 : decode cL_law 737 = .ok (.aload_n 3, 1) := by decide +kernel
theorem dL_law_738 : decode cL_law 738 = .ok (.invokestatic 117, 3) := by decide +kernel
theorem dL_law_741 : decode cL_law 741 = .ok (.istore 6, 2) := by decide +kernel
theorem dL_law_743 : decode cL_law 743 = .ok (.aload_n 2, 1) := by decide +kernel
theorem dL_law_744 : decode cL_law 744 = .ok (.aload_n 0, 1) := by decide +kernel
theorem dL_law_745 : decode cL_law 745 = .ok (.iload 5, 2) := by decide +kernel
theorem dL_law_747 : decode cL_law 747 = .ok (.iconst 1, 1) := by decide +kernel
theorem dL_law_748 : decode cL_law 748 = .ok (.iadd, 1) := by decide +kernel
theorem dL_law_749 : decode cL_law 749 = .ok (.iaload, 1) := by decide +kernel
theorem dL_law_750 : decode cL_law 750 = .ok (.invokevirtual 120, 3) := by decide +kernel
theorem dL_law_753 : decode cL_law 753 = .ok (.istore 7, 2) := by decide +kernel
theorem dL_law_755 : decode cL_law 755 = .ok (.aload_n 2, 1) := by decide +kernel
theorem dL_law_756 : decode cL_law 756 = .ok (.invokevirtual 88, 3) := by decide +kernel
theorem dL_law_759 : decode cL_law 759 = .ok (.iload 6, 2) := by decide +kernel
theorem dL_law_761 : decode cL_law 761 = .ok (.if_icmp .eq 5, 3) := by decide +kernel
theorem dL_law_764 : decode cL_law 764 = .ok (.iconst 0, 1) := by decide +kernel
theorem dL_law_765 : decode cL_law 765 = .ok (.ireturn, 1) := by decide +kernel
theorem dL_law_766 : decode cL_law 766 = .ok (.iload 6, 2) := by decide +kernel
theorem dL_law_768 : decode cL_law 768 = .ok (.ifCond .ne 15, 3) := by decide +kernel
theorem dL_law_771 : decode cL_law 771 = .ok (.aload_n 3, 1) := by decide +kernel
theorem dL_law_772 : decode cL_law 772 = .ok (.iconst 0, 1) := by decide +kernel
theorem dL_law_773 : decode cL_law 773 = .ok (.laload, 1) := by decide +kernel
theorem dL_law_774 : decode cL_law 774 = .ok (.iload 7, 2) := by decide +kernel
theorem dL_law_776 : decode cL_law 776 = .ok (.i2l, 1) := by decide +kernel
theorem dL_law_777 : decode cL_law 777 = .ok (.lcmp, 1) := by decide +kernel
theorem dL_law_778 : decode cL_law 778 = .ok (.ifCond .eq 5, 3) := by decide +kernel
theorem dL_law_781 : decode cL_law 781 = .ok (.iconst 0, 1) := by decide +kernel
theorem dL_law_782 : decode cL_law 782 = .ok (.ireturn, 1) := by decide +kernel
theorem dL_law_783 : decode cL_law 783 = .ok (.goto 860, 3) := by decide +kernel
set_option maxRecDepth 20000 in
theorem wl_run : GoodIn lw_tbl (va_wsS RL 117 yL_run wsW_run) := goodIn_app (fun w h => ⟨in_idx [495, 496, 47] (by decide +kernel) w h, good_of_word (List.all_eq_true.mp (show ([.methodLink RL 117 yL_run, .static yL_run, .initialized yL_run.cls] : List Cond).all goodWord = true from by decide +kernel) w h)⟩) (fun w h => (List.mem_cons.mp h).elim (fun q => q ▸ ⟨List.mem_of_getElem? (i := 497) (by decide +kernel), good_of_word rfl⟩) (fun q => lwG_self w q))
set_option maxRecDepth 100000 in
set_option maxHeartbeats 4000000 in
theorem cs_run {p : Program} {l : Launch} {e : Env} {s : State} {m : MethodId} {below : List Frame} {meth : Method} {c : Code} {bs L : Nat} {xs : Nat → Int32} {D : va_G} {cs : Nat → ClassId} {ad : Nat → Nat} {Q : State → Prop} {i cells slots : Nat} {Ls : Nat → SL} {Hs T M : SL} {dr hs o : Int64} {od : UInt64} {H : Heap} {locs : List Loc} {ls : Array Slot} (E : LX p l s m meth c bs L xs D cs ad) (hi : i + 6 ≤ L) (hc : cells + 3 ≤ room_1.cells ∧ slots + 18 ≤ room_1.slots) (hSS : SS Ls Hs T M) (hP : va_P D vwCl (wA cs ad Ls Hs T M dr hs o od) H) (hS : va_S (Afr ad s.heap.size) s.heap H locs) (hl : lv_has ls 9 (lvL bs ad (nI i))) (K : LK p l e s m bs below meth c D cs ad i cells slots Q) : W p l e room_1 s m #[.ref bs] below meth c H locs cells slots Q (F0 m 730 ls []) := by
  obtain ⟨C, G, X, N, Y, sX, sL, sA, hL, hfl⟩ := E
  obtain ⟨bv, M', res, v, Ls', Hs', o', eM, eC, h4, hSS', hov, hu, hk⟩ := r2_out o (s_run hSS (xs (i + 1)))
  refine lv_aload_n C.1 C.2.1 dL_law_730 rfl (lv_at hl 1 rfl) ?_
  refine lv_aload_n C.1 C.2.1 dL_law_731 rfl (lv_at hl 0 rfl) ?_
  refine lv_iload C.1 C.2.1 dL_law_732 (lv_at hl 5 rfl) ?_
  refine lv_iconst (v := 1) C.1 C.2.1 dL_law_734 (by decide) ?_
  refine k_iadd C (np1 i) dL_law_735 ?_
  refine k_sld C sX sL sA hL hS (show i + 1 < L by omega) dL_law_736 ?_
  refine lv_aload_n C.1 C.2.1 dL_law_737 rfl (lv_at hl 3 rfl) ?_
  have hM := m_L_run l hfl (D := D) (cs := cs) G.2.1 H.size (Ls := Ls) (Hs := Hs) (T := T) (M := M) (dr := dr) (hs := hs) (o := o) (od := od) eC (v := v) (w' := wA cs ad Ls' Hs' T M dr hs o' od) (fun u hu1 => by
    obtain ⟨a1, a2, a3, a4⟩ := hu u hu1
    exact ⟨a1, by rw [a2, a3, a4]⟩) (fun k hk1 => by
    obtain ⟨⟨a2, a3, a4⟩, q⟩ := hk k hk1
    exact ⟨by rw [a2, a3, a4], dk_id q⟩)
  refine k_callSWi C G X N Y hP hS hM (vx_cwSW 3 C.2.2.2.2.2.1 wl_run rfl rfl rfl (by decide +kernel) ⟨Nat.le_of_ble_eq_true rfl, Nat.le_of_ble_eq_true rfl⟩) (As := [.ref (ad 0), .int (xs (i + 1)), .ref (ad 95)]) rfl hl.1 rfl (Nat.le_of_ble_eq_true rfl) dL_law_738 ⟨by omega, by omega⟩ (fun H locs hP hS => ?_)
  refine lv_istore (lv' := [(6, .int v), (0, .ref bs), (1, .ref (ad 0)), (2, .ref (ad 89)), (3, .ref (ad 95)), (4, .ref (ad 96)), (5, .int (nI i))]) C.1 C.2.1 dL_law_741 hl (by decide) rfl (fun ls hl => ?_)
  refine lv_aload_n C.1 C.2.1 dL_law_743 rfl (lv_at hl 3 rfl) ?_
  refine lv_aload_n C.1 C.2.1 dL_law_744 rfl (lv_at hl 1 rfl) ?_
  refine lv_iload C.1 C.2.1 dL_law_745 (lv_at hl 6 rfl) ?_
  refine lv_iconst (v := 1) C.1 C.2.1 dL_law_747 (by decide) ?_
  refine k_iadd C (np1 i) dL_law_748 ?_
  refine k_sld C sX sL sA hL hS (show i + 1 < L by omega) dL_law_749 ?_
  refine k_callVi C G hP hS (m_X6_run l G.2.1 _ eM) r_obj rfl (cwV 1 C.2.2.2.2.2.1 (lwG_up wg_X6_run) rfl rfl rfl (by decide +kernel) ⟨Nat.le_of_ble_eq_true rfl, Nat.le_of_ble_eq_true rfl⟩) (As := [.int (xs (i + 1))]) rfl hl.1 rfl (Nat.le_of_ble_eq_true rfl) dL_law_750 ⟨by omega, by omega⟩ (fun H locs hP hS => ?_)
  have hP : va_P D vwCl (wA cs ad Ls' Hs' T M' dr hs o' od) H := hP
  refine lv_istore (lv' := [(7, .int bv), (6, .int v), (0, .ref bs), (1, .ref (ad 0)), (2, .ref (ad 89)), (3, .ref (ad 95)), (4, .ref (ad 96)), (5, .int (nI i))]) C.1 C.2.1 dL_law_753 hl (by decide) rfl (fun ls hl => ?_)
  refine lv_aload_n C.1 C.2.1 dL_law_755 rfl (lv_at hl 4 rfl) ?_
  refine k_callVi C G hP hS (m_X6_thrown l G.2.1 _ (show f_X6_thrown M' = some v by rw [← h4]; rfl)) r_obj rfl (cwV 0 C.2.2.2.2.2.1 (lwG_up wg_X6_thrown) rfl rfl rfl (by decide +kernel) ⟨Nat.le_of_ble_eq_true rfl, Nat.le_of_ble_eq_true rfl⟩) (As := []) rfl hl.1 rfl (Nat.le_of_ble_eq_true rfl) dL_law_756 ⟨by omega, by omega⟩ (fun H locs hP hS => ?_)
  refine lv_iload C.1 C.2.1 dL_law_759 (lv_at hl 1 rfl) ?_
  refine lv_icmp_eq (tgt := 766) C.1 C.2.1 dL_law_761 (by decide) (fun _ => ?_) (fun z => absurd rfl z)
  refine lv_iload C.1 C.2.1 dL_law_766 (lv_at hl 1 rfl) ?_
  have hSS := hSS'
  refine lv_if_ne (tgt := 783) C.1 C.2.1 dL_law_768 (by decide) (fun _ => ?_) (fun z => ?_)
  · refine lv_goto (tgt := 1643) C.1 C.2.1 dL_law_783 (by decide) ?_
    refine W.widen (k := cells + 3) (n := slots + 18) (by omega) (by omega) ?_
    exact K _ _ _ _ _ _ _ _ _ _ _ hSS hP hS (lv_sub hl [2, 3, 4, 5, 6, 7] rfl)
  · refine lv_aload_n C.1 C.2.1 dL_law_771 rfl (lv_at hl 5 rfl) ?_
    refine lv_iconst (v := 0) C.1 C.2.1 dL_law_772 (by decide) ?_
    refine k_laldO C G hP dL_law_773 ?_
    refine lv_iload C.1 C.2.1 dL_law_774 (lv_at hl 0 rfl) ?_
    refine k_i2l C (hov z) dL_law_776 ?_
    refine W.lcmp C.1 C.2.1 dL_law_777 ?_
    refine lv_if_eq (tgt := 783) C.1 C.2.1 dL_law_778 (by decide) (fun _ => ?_) (fun q => absurd (lg_self _) q)
    refine lv_goto (tgt := 1643) C.1 C.2.1 dL_law_783 (by decide) ?_
    refine W.widen (k := cells + 3) (n := slots + 18) (by omega) (by omega) ?_
    exact K _ _ _ _ _ _ _ _ _ _ _ hSS hP hS (lv_sub hl [2, 3, 4, 5, 6, 7] rfl)
theorem dL_law_786 : decode cL_law 786 = .ok (.aload_n 1, 1) := by decide +kernel
theorem dL_law_787 : decode cL_law 787 = .ok (.invokevirtual 121, 3) := by decide +kernel
theorem dL_law_790 : decode cL_law 790 = .ok (.aload_n 2, 1) := by decide +kernel
theorem dL_law_791 : decode cL_law 791 = .ok (.invokevirtual 124, 3) := by decide +kernel
theorem dL_law_794 : decode cL_law 794 = .ok (.if_icmp .eq 849, 3) := by decide +kernel
theorem dL_law_797 : decode cL_law 797 = .ok (.iconst 0, 1) := by decide +kernel
theorem dL_law_798 : decode cL_law 798 = .ok (.ireturn, 1) := by decide +kernel
set_option maxRecDepth 100000 in
set_option maxHeartbeats 4000000 in
theorem cs_restart {p : Program} {l : Launch} {e : Env} {s : State} {m : MethodId} {below : List Frame} {meth : Method} {c : Code} {bs L : Nat} {xs : Nat → Int32} {D : va_G} {cs : Nat → ClassId} {ad : Nat → Nat} {Q : State → Prop} {i cells slots : Nat} {Ls : Nat → SL} {Hs T M : SL} {dr hs o : Int64} {od : UInt64} {H : Heap} {locs : List Loc} {ls : Array Slot} (E : LX p l s m meth c bs L xs D cs ad) (hi : i + 6 ≤ L) (hc : cells + 3 ≤ room_1.cells ∧ slots + 18 ≤ room_1.slots) (hSS : SS Ls Hs T M) (hP : va_P D vwCl (wA cs ad Ls Hs T M dr hs o od) H) (hS : va_S (Afr ad s.heap.size) s.heap H locs) (hl : lv_has ls 9 (lvL bs ad (nI i))) (K : LK p l e s m bs below meth c D cs ad i cells slots Q) : W p l e room_1 s m #[.ref bs] below meth c H locs cells slots Q (F0 m 786 ls []) := by
  obtain ⟨C, G, X, N, Y, sX, sL, sA, hL, hfl⟩ := E
  obtain ⟨bv, M', Ls', Hs', eM, eC, hSS'⟩ := s_restart hSS
  refine lv_aload_n C.1 C.2.1 dL_law_786 rfl (lv_at hl 1 rfl) ?_
  refine k_callVi C G hP hS (m_X5_restart l G.2.1 _ eC) g_obj rfl (cwV 0 C.2.2.2.2.2.1 (lwG_up wg_X5_restart) rfl rfl rfl (by decide +kernel) ⟨Nat.le_of_ble_eq_true rfl, Nat.le_of_ble_eq_true rfl⟩) (As := []) rfl hl.1 rfl (Nat.le_of_ble_eq_true rfl) dL_law_787 ⟨by omega, by omega⟩ (fun H locs hP hS => ?_)
  have hP : va_P D vwCl (wA cs ad Ls' Hs' T M dr hs o od) H := hP
  refine lv_aload_n C.1 C.2.1 dL_law_790 rfl (lv_at hl 2 rfl) ?_
  refine k_callVi C G hP hS (m_X6_restart l G.2.1 _ eM) r_obj rfl (cwV 0 C.2.2.2.2.2.1 (lwG_up wg_X6_restart) rfl rfl rfl (by decide +kernel) ⟨Nat.le_of_ble_eq_true rfl, Nat.le_of_ble_eq_true rfl⟩) (As := []) rfl hl.1 rfl (Nat.le_of_ble_eq_true rfl) dL_law_791 ⟨by omega, by omega⟩ (fun H locs hP hS => ?_)
  have hP : va_P D vwCl (wA cs ad Ls' Hs' T M' dr hs o od) H := hP
  refine lv_icmp_eq (tgt := 1643) C.1 C.2.1 dL_law_794 (by decide) (fun _ => ?_) (fun q => absurd rfl q)
  have hSS := hSS'
  refine W.widen (k := cells + 3) (n := slots + 18) (by omega) (by omega) ?_
  exact K _ _ _ _ _ _ _ _ _ _ _ hSS hP hS (lv_sub hl [0, 1, 2, 3, 4, 5] rfl)
theorem dL_law_799 : decode cL_law 799 = .ok (.aload_n 1, 1) := by decide +kernel
theorem dL_law_800 : decode cL_law 800 = .ok (.invokevirtual 125, 3) := by decide +kernel
theorem dL_law_803 : decode cL_law 803 = .ok (.aload_n 2, 1) := by decide +kernel
theorem dL_law_804 : decode cL_law 804 = .ok (.invokevirtual 128, 3) := by decide +kernel
theorem dL_law_807 : decode cL_law 807 = .ok (.if_icmp .eq 836, 3) := by decide +kernel
theorem dL_law_810 : decode cL_law 810 = .ok (.iconst 0, 1) := by decide +kernel
theorem dL_law_811 : decode cL_law 811 = .ok (.ireturn, 1) := by decide +kernel
set_option maxRecDepth 100000 in
set_option maxHeartbeats 4000000 in
theorem cs_now {p : Program} {l : Launch} {e : Env} {s : State} {m : MethodId} {below : List Frame} {meth : Method} {c : Code} {bs L : Nat} {xs : Nat → Int32} {D : va_G} {cs : Nat → ClassId} {ad : Nat → Nat} {Q : State → Prop} {i cells slots : Nat} {Ls : Nat → SL} {Hs T M : SL} {dr hs o : Int64} {od : UInt64} {H : Heap} {locs : List Loc} {ls : Array Slot} (E : LX p l s m meth c bs L xs D cs ad) (hi : i + 6 ≤ L) (hc : cells + 3 ≤ room_1.cells ∧ slots + 18 ≤ room_1.slots) (hSS : SS Ls Hs T M) (hP : va_P D vwCl (wA cs ad Ls Hs T M dr hs o od) H) (hS : va_S (Afr ad s.heap.size) s.heap H locs) (hl : lv_has ls 9 (lvL bs ad (nI i))) (K : LK p l e s m bs below meth c D cs ad i cells slots Q) : W p l e room_1 s m #[.ref bs] below meth c H locs cells slots Q (F0 m 799 ls []) := by
  obtain ⟨C, G, X, N, Y, sX, sL, sA, hL, hfl⟩ := E
  obtain ⟨bv, M', eM, eC, hSS'⟩ := s_now hSS
  refine lv_aload_n C.1 C.2.1 dL_law_799 rfl (lv_at hl 1 rfl) ?_
  refine k_callVi C G hP hS (m_X5_now l G.2.1 _ eC) g_obj rfl (cwV 0 C.2.2.2.2.2.1 (lwG_up wg_X5_now) rfl rfl rfl (by decide +kernel) ⟨Nat.le_of_ble_eq_true rfl, Nat.le_of_ble_eq_true rfl⟩) (As := []) rfl hl.1 rfl (Nat.le_of_ble_eq_true rfl) dL_law_800 ⟨by omega, by omega⟩ (fun H locs hP hS => ?_)
  have hP : va_P D vwCl (wA cs ad Ls Hs T M dr hs o od) H := hP
  refine lv_aload_n C.1 C.2.1 dL_law_803 rfl (lv_at hl 2 rfl) ?_
  refine k_callVi C G hP hS (m_X6_now l G.2.1 _ eM) r_obj rfl (cwV 0 C.2.2.2.2.2.1 (lwG_up wg_X6_now) rfl rfl rfl (by decide +kernel) ⟨Nat.le_of_ble_eq_true rfl, Nat.le_of_ble_eq_true rfl⟩) (As := []) rfl hl.1 rfl (Nat.le_of_ble_eq_true rfl) dL_law_804 ⟨by omega, by omega⟩ (fun H locs hP hS => ?_)
  have hP : va_P D vwCl (wA cs ad Ls Hs T M' dr hs o od) H := hP
  refine lv_icmp_eq (tgt := 1643) C.1 C.2.1 dL_law_807 (by decide) (fun _ => ?_) (fun q => absurd rfl q)
  have hSS := hSS'
  refine W.widen (k := cells + 3) (n := slots + 18) (by omega) (by omega) ?_
  exact K _ _ _ _ _ _ _ _ _ _ _ hSS hP hS (lv_sub hl [0, 1, 2, 3, 4, 5] rfl)
