/-! THE LAW: calls output, setting, machine, count, meanFill -/
theorem dL_law_812 : decode cL_law 812 = .ok (.aload_n 1, 1) := by decide +kernel
theorem dL_law_813 : decode cL_law 813 = .ok (.invokevirtual 129, 3) := by decide +kernel
theorem dL_law_816 : decode cL_law 816 = .ok (.aload_n 2, 1) := by decide +kernel
theorem dL_law_817 : decode cL_law 817 = .ok (.invokevirtual 132, 3) := by decide +kernel
theorem dL_law_820 : decode cL_law 820 = .ok (.if_icmp .eq 823, 3) := by decide +kernel
theorem dL_law_823 : decode cL_law 823 = .ok (.iconst 0, 1) := by decide +kernel
theorem dL_law_824 : decode cL_law 824 = .ok (.ireturn, 1) := by decide +kernel
set_option maxRecDepth 100000 in
set_option maxHeartbeats 4000000 in
theorem cs_output {p : Program} {l : Launch} {e : Env} {s : State} {m : MethodId} {below : List Frame} {meth : Method} {c : Code} {bs L : Nat} {xs : Nat → Int32} {D : va_G} {cs : Nat → ClassId} {ad : Nat → Nat} {Q : State → Prop} {i cells slots : Nat} {Ls : Nat → SL} {Hs T M : SL} {dr hs o : Int64} {od : UInt64} {H : Heap} {locs : List Loc} {ls : Array Slot} (E : LX p l s m meth c bs L xs D cs ad) (hi : i + 6 ≤ L) (hc : cells + 3 ≤ room_1.cells ∧ slots + 18 ≤ room_1.slots) (hSS : SS Ls Hs T M) (hP : va_P D vwCl (wA cs ad Ls Hs T M dr hs o od) H) (hS : va_S (Afr ad s.heap.size) s.heap H locs) (hl : lv_has ls 9 (lvL bs ad (nI i))) (K : LK p l e s m bs below meth c D cs ad i cells slots Q) : W p l e room_1 s m #[.ref bs] below meth c H locs cells slots Q (F0 m 812 ls []) := by
  obtain ⟨C, G, X, N, Y, sX, sL, sA, hL, hfl⟩ := E
  obtain ⟨bv, M', eM, eC, hSS'⟩ := s_output hSS
  refine lv_aload_n C.1 C.2.1 dL_law_812 rfl (lv_at hl 1 rfl) ?_
  refine k_callVi C G hP hS (m_X5_output l G.2.1 _ eC) g_obj rfl (cwV 0 C.2.2.2.2.2.1 (lwG_up wg_X5_output) rfl rfl rfl (by decide +kernel) ⟨Nat.le_of_ble_eq_true rfl, Nat.le_of_ble_eq_true rfl⟩) (As := []) rfl hl.1 rfl (Nat.le_of_ble_eq_true rfl) dL_law_813 ⟨by omega, by omega⟩ (fun H locs hP hS => ?_)
  have hP : va_P D vwCl (wA cs ad Ls Hs T M dr hs o od) H := hP
  refine lv_aload_n C.1 C.2.1 dL_law_816 rfl (lv_at hl 2 rfl) ?_
  refine k_callVi C G hP hS (m_X6_output l G.2.1 _ eM) r_obj rfl (cwV 0 C.2.2.2.2.2.1 (lwG_up wg_X6_output) rfl rfl rfl (by decide +kernel) ⟨Nat.le_of_ble_eq_true rfl, Nat.le_of_ble_eq_true rfl⟩) (As := []) rfl hl.1 rfl (Nat.le_of_ble_eq_true rfl) dL_law_817 ⟨by omega, by omega⟩ (fun H locs hP hS => ?_)
  have hP : va_P D vwCl (wA cs ad Ls Hs T M' dr hs o od) H := hP
  refine lv_icmp_eq (tgt := 1643) C.1 C.2.1 dL_law_820 (by decide) (fun _ => ?_) (fun q => absurd rfl q)
  have hSS := hSS'
  refine W.widen (k := cells + 3) (n := slots + 18) (by omega) (by omega) ?_
  exact K _ _ _ _ _ _ _ _ _ _ _ hSS hP hS (lv_sub hl [0, 1, 2, 3, 4, 5] rfl)
theorem dL_law_825 : decode cL_law 825 = .ok (.aload_n 1, 1) := by decide +kernel
theorem dL_law_826 : decode cL_law 826 = .ok (.aload_n 0, 1) := by decide +kernel
theorem dL_law_827 : decode cL_law 827 = .ok (.iload 5, 2) := by decide +kernel
theorem dL_law_829 : decode cL_law 829 = .ok (.iconst 1, 1) := by decide +kernel
theorem dL_law_830 : decode cL_law 830 = .ok (.iadd, 1) := by decide +kernel
theorem dL_law_831 : decode cL_law 831 = .ok (.iaload, 1) := by decide +kernel
theorem dL_law_832 : decode cL_law 832 = .ok (.aload_n 0, 1) := by decide +kernel
theorem dL_law_833 : decode cL_law 833 = .ok (.iload 5, 2) := by decide +kernel
theorem dL_law_835 : decode cL_law 835 = .ok (.iconst 2, 1) := by decide +kernel
theorem dL_law_836 : decode cL_law 836 = .ok (.iadd, 1) := by decide +kernel
theorem dL_law_837 : decode cL_law 837 = .ok (.iaload, 1) := by decide +kernel
theorem dL_law_838 : decode cL_law 838 = .ok (.aload_n 3, 1) := by decide +kernel
theorem dL_law_839 : decode cL_law 839 = .ok (.invokestatic 133, 3) := by decide +kernel
theorem dL_law_842 : decode cL_law 842 = .ok (.istore 6, 2) := by decide +kernel
theorem dL_law_844 : decode cL_law 844 = .ok (.aload_n 2, 1) := by decide +kernel
theorem dL_law_845 : decode cL_law 845 = .ok (.aload_n 0, 1) := by decide +kernel
theorem dL_law_846 : decode cL_law 846 = .ok (.iload 5, 2) := by decide +kernel
theorem dL_law_848 : decode cL_law 848 = .ok (.iconst 1, 1) := by decide +kernel
theorem dL_law_849 : decode cL_law 849 = .ok (.iadd, 1) := by decide +kernel
theorem dL_law_850 : decode cL_law 850 = .ok (.iaload, 1) := by decide +kernel
theorem dL_law_851 : decode cL_law 851 = .ok (.aload_n 0, 1) := by decide +kernel
theorem dL_law_852 : decode cL_law 852 = .ok (.iload 5, 2) := by decide +kernel
theorem dL_law_854 : decode cL_law 854 = .ok (.iconst 2, 1) := by decide +kernel
theorem dL_law_855 : decode cL_law 855 = .ok (.iadd, 1) := by decide +kernel
theorem dL_law_856 : decode cL_law 856 = .ok (.iaload, 1) := by decide +kernel
theorem dL_law_857 : decode cL_law 857 = .ok (.invokevirtual 135, 3) := by decide +kernel
theorem dL_law_860 : decode cL_law 860 = .ok (.istore 7, 2) := by decide +kernel
theorem dL_law_862 : decode cL_law 862 = .ok (.aload_n 2, 1) := by decide +kernel
theorem dL_law_863 : decode cL_law 863 = .ok (.invokevirtual 88, 3) := by decide +kernel
theorem dL_law_866 : decode cL_law 866 = .ok (.iload 6, 2) := by decide +kernel
theorem dL_law_868 : decode cL_law 868 = .ok (.if_icmp .eq 5, 3) := by decide +kernel
theorem dL_law_871 : decode cL_law 871 = .ok (.iconst 0, 1) := by decide +kernel
theorem dL_law_872 : decode cL_law 872 = .ok (.ireturn, 1) := by decide +kernel
theorem dL_law_873 : decode cL_law 873 = .ok (.iload 6, 2) := by decide +kernel
theorem dL_law_875 : decode cL_law 875 = .ok (.ifCond .ne 15, 3) := by decide +kernel
theorem dL_law_878 : decode cL_law 878 = .ok (.aload_n 3, 1) := by decide +kernel
theorem dL_law_879 : decode cL_law 879 = .ok (.iconst 0, 1) := by decide +kernel
theorem dL_law_880 : decode cL_law 880 = .ok (.laload, 1) := by decide +kernel
theorem dL_law_881 : decode cL_law 881 = .ok (.iload 7, 2) := by decide +kernel
theorem dL_law_883 : decode cL_law 883 = .ok (.i2l, 1) := by decide +kernel
theorem dL_law_884 : decode cL_law 884 = .ok (.lcmp, 1) := by decide +kernel
theorem dL_law_885 : decode cL_law 885 = .ok (.ifCond .eq 5, 3) := by decide +kernel
theorem dL_law_888 : decode cL_law 888 = .ok (.iconst 0, 1) := by decide +kernel
theorem dL_law_889 : decode cL_law 889 = .ok (.ireturn, 1) := by decide +kernel
theorem dL_law_890 : decode cL_law 890 = .ok (.goto 753, 3) := by decide +kernel
set_option maxRecDepth 20000 in
theorem wl_setting : GoodIn lw_tbl (va_wsS RL 133 yL_setting wsW_setting) := goodIn_app (fun w h => ⟨in_idx [551, 552, 47] (by decide +kernel) w h, good_of_word (List.all_eq_true.mp (show ([.methodLink RL 133 yL_setting, .static yL_setting, .initialized yL_setting.cls] : List Cond).all goodWord = true from by decide +kernel) w h)⟩) (fun w h => (List.mem_cons.mp h).elim (fun q => q ▸ ⟨List.mem_of_getElem? (i := 553) (by decide +kernel), good_of_word rfl⟩) (fun q => lwG_self w q))
set_option maxRecDepth 100000 in
set_option maxHeartbeats 4000000 in
theorem cs_setting {p : Program} {l : Launch} {e : Env} {s : State} {m : MethodId} {below : List Frame} {meth : Method} {c : Code} {bs L : Nat} {xs : Nat → Int32} {D : va_G} {cs : Nat → ClassId} {ad : Nat → Nat} {Q : State → Prop} {i cells slots : Nat} {Ls : Nat → SL} {Hs T M : SL} {dr hs o : Int64} {od : UInt64} {H : Heap} {locs : List Loc} {ls : Array Slot} (E : LX p l s m meth c bs L xs D cs ad) (hi : i + 6 ≤ L) (hc : cells + 3 ≤ room_1.cells ∧ slots + 18 ≤ room_1.slots) (hSS : SS Ls Hs T M) (hP : va_P D vwCl (wA cs ad Ls Hs T M dr hs o od) H) (hS : va_S (Afr ad s.heap.size) s.heap H locs) (hl : lv_has ls 9 (lvL bs ad (nI i))) (K : LK p l e s m bs below meth c D cs ad i cells slots Q) : W p l e room_1 s m #[.ref bs] below meth c H locs cells slots Q (F0 m 825 ls []) := by
  obtain ⟨C, G, X, N, Y, sX, sL, sA, hL, hfl⟩ := E
  obtain ⟨bv, M', res, v, o', eM, eC, h4, hSS', hov, hu, hk⟩ := r0_out o (s_setting hSS (xs (i + 1)) (xs (i + 2)))
  refine lv_aload_n C.1 C.2.1 dL_law_825 rfl (lv_at hl 1 rfl) ?_
  refine lv_aload_n C.1 C.2.1 dL_law_826 rfl (lv_at hl 0 rfl) ?_
  refine lv_iload C.1 C.2.1 dL_law_827 (lv_at hl 5 rfl) ?_
  refine lv_iconst (v := 1) C.1 C.2.1 dL_law_829 (by decide) ?_
  refine k_iadd C (np1 i) dL_law_830 ?_
  refine k_sld C sX sL sA hL hS (show i + 1 < L by omega) dL_law_831 ?_
  refine lv_aload_n C.1 C.2.1 dL_law_832 rfl (lv_at hl 0 rfl) ?_
  refine lv_iload C.1 C.2.1 dL_law_833 (lv_at hl 5 rfl) ?_
  refine lv_iconst (v := 2) C.1 C.2.1 dL_law_835 (by decide) ?_
  refine k_iadd C (np2 i) dL_law_836 ?_
  refine k_sld C sX sL sA hL hS (show i + 2 < L by omega) dL_law_837 ?_
  refine lv_aload_n C.1 C.2.1 dL_law_838 rfl (lv_at hl 3 rfl) ?_
  have hM := m_L_setting l hfl (D := D) (cs := cs) G.2.1 H.size (Ls := Ls) (Hs := Hs) (T := T) (M := M) (dr := dr) (hs := hs) (o := o) (od := od) eC (v := v) (w' := wA cs ad Ls Hs T M dr hs o' od) (fun u hu1 => by
    obtain ⟨a1, a4⟩ := hu u hu1
    exact ⟨a1, by rw [a4]⟩) (fun k hk1 => by
    obtain ⟨a4, q⟩ := hk k hk1
    exact ⟨by rw [a4], dk_B q⟩)
  refine k_callSWi C G X N Y hP hS hM (vx_cwSW 4 C.2.2.2.2.2.1 wl_setting rfl rfl rfl (by decide +kernel) ⟨Nat.le_of_ble_eq_true rfl, Nat.le_of_ble_eq_true rfl⟩) (As := [.ref (ad 0), .int (xs (i + 1)), .int (xs (i + 2)), .ref (ad 95)]) rfl hl.1 rfl (Nat.le_of_ble_eq_true rfl) dL_law_839 ⟨by omega, by omega⟩ (fun H locs hP hS => ?_)
  refine lv_istore (lv' := [(6, .int v), (0, .ref bs), (1, .ref (ad 0)), (2, .ref (ad 89)), (3, .ref (ad 95)), (4, .ref (ad 96)), (5, .int (nI i))]) C.1 C.2.1 dL_law_842 hl (by decide) rfl (fun ls hl => ?_)
  refine lv_aload_n C.1 C.2.1 dL_law_844 rfl (lv_at hl 3 rfl) ?_
  refine lv_aload_n C.1 C.2.1 dL_law_845 rfl (lv_at hl 1 rfl) ?_
  refine lv_iload C.1 C.2.1 dL_law_846 (lv_at hl 6 rfl) ?_
  refine lv_iconst (v := 1) C.1 C.2.1 dL_law_848 (by decide) ?_
  refine k_iadd C (np1 i) dL_law_849 ?_
  refine k_sld C sX sL sA hL hS (show i + 1 < L by omega) dL_law_850 ?_
  refine lv_aload_n C.1 C.2.1 dL_law_851 rfl (lv_at hl 1 rfl) ?_
  refine lv_iload C.1 C.2.1 dL_law_852 (lv_at hl 6 rfl) ?_
  refine lv_iconst (v := 2) C.1 C.2.1 dL_law_854 (by decide) ?_
  refine k_iadd C (np2 i) dL_law_855 ?_
  refine k_sld C sX sL sA hL hS (show i + 2 < L by omega) dL_law_856 ?_
  refine k_callVi C G hP hS (m_X6_setting l G.2.1 _ eM) r_obj rfl (cwV 2 C.2.2.2.2.2.1 (lwG_up wg_X6_setting) rfl rfl rfl (by decide +kernel) ⟨Nat.le_of_ble_eq_true rfl, Nat.le_of_ble_eq_true rfl⟩) (As := [.int (xs (i + 1)), .int (xs (i + 2))]) rfl hl.1 rfl (Nat.le_of_ble_eq_true rfl) dL_law_857 ⟨by omega, by omega⟩ (fun H locs hP hS => ?_)
  have hP : va_P D vwCl (wA cs ad Ls Hs T M' dr hs o' od) H := hP
  refine lv_istore (lv' := [(7, .int bv), (6, .int v), (0, .ref bs), (1, .ref (ad 0)), (2, .ref (ad 89)), (3, .ref (ad 95)), (4, .ref (ad 96)), (5, .int (nI i))]) C.1 C.2.1 dL_law_860 hl (by decide) rfl (fun ls hl => ?_)
  refine lv_aload_n C.1 C.2.1 dL_law_862 rfl (lv_at hl 4 rfl) ?_
  refine k_callVi C G hP hS (m_X6_thrown l G.2.1 _ (show f_X6_thrown M' = some v by rw [← h4]; rfl)) r_obj rfl (cwV 0 C.2.2.2.2.2.1 (lwG_up wg_X6_thrown) rfl rfl rfl (by decide +kernel) ⟨Nat.le_of_ble_eq_true rfl, Nat.le_of_ble_eq_true rfl⟩) (As := []) rfl hl.1 rfl (Nat.le_of_ble_eq_true rfl) dL_law_863 ⟨by omega, by omega⟩ (fun H locs hP hS => ?_)
  refine lv_iload C.1 C.2.1 dL_law_866 (lv_at hl 1 rfl) ?_
  refine lv_icmp_eq (tgt := 873) C.1 C.2.1 dL_law_868 (by decide) (fun _ => ?_) (fun z => absurd rfl z)
  refine lv_iload C.1 C.2.1 dL_law_873 (lv_at hl 1 rfl) ?_
  have hSS := hSS'
  refine lv_if_ne (tgt := 890) C.1 C.2.1 dL_law_875 (by decide) (fun _ => ?_) (fun z => ?_)
  · refine lv_goto (tgt := 1643) C.1 C.2.1 dL_law_890 (by decide) ?_
    refine W.widen (k := cells + 3) (n := slots + 18) (by omega) (by omega) ?_
    exact K _ _ _ _ _ _ _ _ _ _ _ hSS hP hS (lv_sub hl [2, 3, 4, 5, 6, 7] rfl)
  · refine lv_aload_n C.1 C.2.1 dL_law_878 rfl (lv_at hl 5 rfl) ?_
    refine lv_iconst (v := 0) C.1 C.2.1 dL_law_879 (by decide) ?_
    refine k_laldO C G hP dL_law_880 ?_
    refine lv_iload C.1 C.2.1 dL_law_881 (lv_at hl 0 rfl) ?_
    refine k_i2l C (hov z) dL_law_883 ?_
    refine W.lcmp C.1 C.2.1 dL_law_884 ?_
    refine lv_if_eq (tgt := 890) C.1 C.2.1 dL_law_885 (by decide) (fun _ => ?_) (fun q => absurd (lg_self _) q)
    refine lv_goto (tgt := 1643) C.1 C.2.1 dL_law_890 (by decide) ?_
    refine W.widen (k := cells + 3) (n := slots + 18) (by omega) (by omega) ?_
    exact K _ _ _ _ _ _ _ _ _ _ _ hSS hP hS (lv_sub hl [2, 3, 4, 5, 6, 7] rfl)
theorem dL_law_893 : decode cL_law 893 = .ok (.aload_n 1, 1) := by decide +kernel
theorem dL_law_894 : decode cL_law 894 = .ok (.aload_n 0, 1) := by decide +kernel
theorem dL_law_895 : decode cL_law 895 = .ok (.iload 5, 2) := by decide +kernel
theorem dL_law_897 : decode cL_law 897 = .ok (.iconst 1, 1) := by decide +kernel
theorem dL_law_898 : decode cL_law 898 = .ok (.iadd, 1) := by decide +kernel
theorem dL_law_899 : decode cL_law 899 = .ok (.iaload, 1) := by decide +kernel
theorem dL_law_900 : decode cL_law 900 = .ok (.aload_n 0, 1) := by decide +kernel
theorem dL_law_901 : decode cL_law 901 = .ok (.iload 5, 2) := by decide +kernel
theorem dL_law_903 : decode cL_law 903 = .ok (.iconst 2, 1) := by decide +kernel
theorem dL_law_904 : decode cL_law 904 = .ok (.iadd, 1) := by decide +kernel
theorem dL_law_905 : decode cL_law 905 = .ok (.iaload, 1) := by decide +kernel
theorem dL_law_906 : decode cL_law 906 = .ok (.aload_n 3, 1) := by decide +kernel
theorem dL_law_907 : decode cL_law 907 = .ok (.invokestatic 136, 3) := by decide +kernel
theorem dL_law_910 : decode cL_law 910 = .ok (.istore 6, 2) := by decide +kernel
theorem dL_law_912 : decode cL_law 912 = .ok (.aload_n 2, 1) := by decide +kernel
theorem dL_law_913 : decode cL_law 913 = .ok (.aload_n 0, 1) := by decide +kernel
theorem dL_law_914 : decode cL_law 914 = .ok (.iload 5, 2) := by decide +kernel
theorem dL_law_916 : decode cL_law 916 = .ok (.iconst 1, 1) := by decide +kernel
theorem dL_law_917 : decode cL_law 917 = .ok (.iadd, 1) := by decide +kernel
theorem dL_law_918 : decode cL_law 918 = .ok (.iaload, 1) := by decide +kernel
theorem dL_law_919 : decode cL_law 919 = .ok (.aload_n 0, 1) := by decide +kernel
theorem dL_law_920 : decode cL_law 920 = .ok (.iload 5, 2) := by decide +kernel
theorem dL_law_922 : decode cL_law 922 = .ok (.iconst 2, 1) := by decide +kernel
theorem dL_law_923 : decode cL_law 923 = .ok (.iadd, 1) := by decide +kernel
theorem dL_law_924 : decode cL_law 924 = .ok (.iaload, 1) := by decide +kernel
theorem dL_law_925 : decode cL_law 925 = .ok (.invokevirtual 138, 3) := by decide +kernel
theorem dL_law_928 : decode cL_law 928 = .ok (.istore 7, 2) := by decide +kernel
theorem dL_law_930 : decode cL_law 930 = .ok (.aload_n 2, 1) := by decide +kernel
theorem dL_law_931 : decode cL_law 931 = .ok (.invokevirtual 88, 3) := by decide +kernel
theorem dL_law_934 : decode cL_law 934 = .ok (.iload 6, 2) := by decide +kernel
theorem dL_law_936 : decode cL_law 936 = .ok (.if_icmp .eq 5, 3) := by decide +kernel
theorem dL_law_939 : decode cL_law 939 = .ok (.iconst 0, 1) := by decide +kernel
theorem dL_law_940 : decode cL_law 940 = .ok (.ireturn, 1) := by decide +kernel
theorem dL_law_941 : decode cL_law 941 = .ok (.iload 6, 2) := by decide +kernel
theorem dL_law_943 : decode cL_law 943 = .ok (.ifCond .ne 15, 3) := by decide +kernel
theorem dL_law_946 : decode cL_law 946 = .ok (.aload_n 3, 1) := by decide +kernel
theorem dL_law_947 : decode cL_law 947 = .ok (.iconst 0, 1) := by decide +kernel
theorem dL_law_948 : decode cL_law 948 = .ok (.laload, 1) := by decide +kernel
theorem dL_law_949 : decode cL_law 949 = .ok (.iload 7, 2) := by decide +kernel
theorem dL_law_951 : decode cL_law 951 = .ok (.i2l, 1) := by decide +kernel
theorem dL_law_952 : decode cL_law 952 = .ok (.lcmp, 1) := by decide +kernel
theorem dL_law_953 : decode cL_law 953 = .ok (.ifCond .eq 5, 3) := by decide +kernel
theorem dL_law_956 : decode cL_law 956 = .ok (.iconst 0, 1) := by decide +kernel
theorem dL_law_957 : decode cL_law 957 = .ok (.ireturn, 1) := by decide +kernel
theorem dL_law_958 : decode cL_law 958 = .ok (.goto 685, 3) := by decide +kernel
set_option maxRecDepth 20000 in
theorem wl_machine : GoodIn lw_tbl (va_wsS RL 136 yL_machine wsW_machine) := goodIn_app (fun w h => ⟨in_idx [558, 559, 47] (by decide +kernel) w h, good_of_word (List.all_eq_true.mp (show ([.methodLink RL 136 yL_machine, .static yL_machine, .initialized yL_machine.cls] : List Cond).all goodWord = true from by decide +kernel) w h)⟩) (fun w h => (List.mem_cons.mp h).elim (fun q => q ▸ ⟨List.mem_of_getElem? (i := 560) (by decide +kernel), good_of_word rfl⟩) (fun q => lwG_self w q))
set_option maxRecDepth 100000 in
set_option maxHeartbeats 4000000 in
theorem cs_machine {p : Program} {l : Launch} {e : Env} {s : State} {m : MethodId} {below : List Frame} {meth : Method} {c : Code} {bs L : Nat} {xs : Nat → Int32} {D : va_G} {cs : Nat → ClassId} {ad : Nat → Nat} {Q : State → Prop} {i cells slots : Nat} {Ls : Nat → SL} {Hs T M : SL} {dr hs o : Int64} {od : UInt64} {H : Heap} {locs : List Loc} {ls : Array Slot} (E : LX p l s m meth c bs L xs D cs ad) (hi : i + 6 ≤ L) (hc : cells + 3 ≤ room_1.cells ∧ slots + 18 ≤ room_1.slots) (hSS : SS Ls Hs T M) (hP : va_P D vwCl (wA cs ad Ls Hs T M dr hs o od) H) (hS : va_S (Afr ad s.heap.size) s.heap H locs) (hl : lv_has ls 9 (lvL bs ad (nI i))) (K : LK p l e s m bs below meth c D cs ad i cells slots Q) : W p l e room_1 s m #[.ref bs] below meth c H locs cells slots Q (F0 m 893 ls []) := by
  obtain ⟨C, G, X, N, Y, sX, sL, sA, hL, hfl⟩ := E
  obtain ⟨bv, M', res, v, o', eM, eC, h4, hSS', hov, hu, hk⟩ := r0_out o (s_machine hSS (xs (i + 1)) (xs (i + 2)))
  refine lv_aload_n C.1 C.2.1 dL_law_893 rfl (lv_at hl 1 rfl) ?_
  refine lv_aload_n C.1 C.2.1 dL_law_894 rfl (lv_at hl 0 rfl) ?_
  refine lv_iload C.1 C.2.1 dL_law_895 (lv_at hl 5 rfl) ?_
  refine lv_iconst (v := 1) C.1 C.2.1 dL_law_897 (by decide) ?_
  refine k_iadd C (np1 i) dL_law_898 ?_
  refine k_sld C sX sL sA hL hS (show i + 1 < L by omega) dL_law_899 ?_
  refine lv_aload_n C.1 C.2.1 dL_law_900 rfl (lv_at hl 0 rfl) ?_
  refine lv_iload C.1 C.2.1 dL_law_901 (lv_at hl 5 rfl) ?_
  refine lv_iconst (v := 2) C.1 C.2.1 dL_law_903 (by decide) ?_
  refine k_iadd C (np2 i) dL_law_904 ?_
  refine k_sld C sX sL sA hL hS (show i + 2 < L by omega) dL_law_905 ?_
  refine lv_aload_n C.1 C.2.1 dL_law_906 rfl (lv_at hl 3 rfl) ?_
  have hM := m_L_machine l hfl (D := D) (cs := cs) G.2.1 H.size (Ls := Ls) (Hs := Hs) (T := T) (M := M) (dr := dr) (hs := hs) (o := o) (od := od) eC (v := v) (w' := wA cs ad Ls Hs T M dr hs o' od) (fun u hu1 => by
    obtain ⟨a1, a4⟩ := hu u hu1
    exact ⟨a1, by rw [a4]⟩) (fun k hk1 => by
    obtain ⟨a4, q⟩ := hk k hk1
    exact ⟨by rw [a4], dk_B q⟩)
  refine k_callSWi C G X N Y hP hS hM (vx_cwSW 4 C.2.2.2.2.2.1 wl_machine rfl rfl rfl (by decide +kernel) ⟨Nat.le_of_ble_eq_true rfl, Nat.le_of_ble_eq_true rfl⟩) (As := [.ref (ad 0), .int (xs (i + 1)), .int (xs (i + 2)), .ref (ad 95)]) rfl hl.1 rfl (Nat.le_of_ble_eq_true rfl) dL_law_907 ⟨by omega, by omega⟩ (fun H locs hP hS => ?_)
  refine lv_istore (lv' := [(6, .int v), (0, .ref bs), (1, .ref (ad 0)), (2, .ref (ad 89)), (3, .ref (ad 95)), (4, .ref (ad 96)), (5, .int (nI i))]) C.1 C.2.1 dL_law_910 hl (by decide) rfl (fun ls hl => ?_)
  refine lv_aload_n C.1 C.2.1 dL_law_912 rfl (lv_at hl 3 rfl) ?_
  refine lv_aload_n C.1 C.2.1 dL_law_913 rfl (lv_at hl 1 rfl) ?_
  refine lv_iload C.1 C.2.1 dL_law_914 (lv_at hl 6 rfl) ?_
  refine lv_iconst (v := 1) C.1 C.2.1 dL_law_916 (by decide) ?_
  refine k_iadd C (np1 i) dL_law_917 ?_
  refine k_sld C sX sL sA hL hS (show i + 1 < L by omega) dL_law_918 ?_
  refine lv_aload_n C.1 C.2.1 dL_law_919 rfl (lv_at hl 1 rfl) ?_
  refine lv_iload C.1 C.2.1 dL_law_920 (lv_at hl 6 rfl) ?_
  refine lv_iconst (v := 2) C.1 C.2.1 dL_law_922 (by decide) ?_
  refine k_iadd C (np2 i) dL_law_923 ?_
  refine k_sld C sX sL sA hL hS (show i + 2 < L by omega) dL_law_924 ?_
  refine k_callVi C G hP hS (m_X6_machine l G.2.1 _ eM) r_obj rfl (cwV 2 C.2.2.2.2.2.1 (lwG_up wg_X6_machine) rfl rfl rfl (by decide +kernel) ⟨Nat.le_of_ble_eq_true rfl, Nat.le_of_ble_eq_true rfl⟩) (As := [.int (xs (i + 1)), .int (xs (i + 2))]) rfl hl.1 rfl (Nat.le_of_ble_eq_true rfl) dL_law_925 ⟨by omega, by omega⟩ (fun H locs hP hS => ?_)
  have hP : va_P D vwCl (wA cs ad Ls Hs T M' dr hs o' od) H := hP
  refine lv_istore (lv' := [(7, .int bv), (6, .int v), (0, .ref bs), (1, .ref (ad 0)), (2, .ref (ad 89)), (3, .ref (ad 95)), (4, .ref (ad 96)), (5, .int (nI i))]) C.1 C.2.1 dL_law_928 hl (by decide) rfl (fun ls hl => ?_)
  refine lv_aload_n C.1 C.2.1 dL_law_930 rfl (lv_at hl 4 rfl) ?_
  refine k_callVi C G hP hS (m_X6_thrown l G.2.1 _ (show f_X6_thrown M' = some v by rw [← h4]; rfl)) r_obj rfl (cwV 0 C.2.2.2.2.2.1 (lwG_up wg_X6_thrown) rfl rfl rfl (by decide +kernel) ⟨Nat.le_of_ble_eq_true rfl, Nat.le_of_ble_eq_true rfl⟩) (As := []) rfl hl.1 rfl (Nat.le_of_ble_eq_true rfl) dL_law_931 ⟨by omega, by omega⟩ (fun H locs hP hS => ?_)
  refine lv_iload C.1 C.2.1 dL_law_934 (lv_at hl 1 rfl) ?_
  refine lv_icmp_eq (tgt := 941) C.1 C.2.1 dL_law_936 (by decide) (fun _ => ?_) (fun z => absurd rfl z)
  refine lv_iload C.1 C.2.1 dL_law_941 (lv_at hl 1 rfl) ?_
  have hSS := hSS'
  refine lv_if_ne (tgt := 958) C.1 C.2.1 dL_law_943 (by decide) (fun _ => ?_) (fun z => ?_)
  · refine lv_goto (tgt := 1643) C.1 C.2.1 dL_law_958 (by decide) ?_
    refine W.widen (k := cells + 3) (n := slots + 18) (by omega) (by omega) ?_
    exact K _ _ _ _ _ _ _ _ _ _ _ hSS hP hS (lv_sub hl [2, 3, 4, 5, 6, 7] rfl)
  · refine lv_aload_n C.1 C.2.1 dL_law_946 rfl (lv_at hl 5 rfl) ?_
    refine lv_iconst (v := 0) C.1 C.2.1 dL_law_947 (by decide) ?_
    refine k_laldO C G hP dL_law_948 ?_
    refine lv_iload C.1 C.2.1 dL_law_949 (lv_at hl 0 rfl) ?_
    refine k_i2l C (hov z) dL_law_951 ?_
    refine W.lcmp C.1 C.2.1 dL_law_952 ?_
    refine lv_if_eq (tgt := 958) C.1 C.2.1 dL_law_953 (by decide) (fun _ => ?_) (fun q => absurd (lg_self _) q)
    refine lv_goto (tgt := 1643) C.1 C.2.1 dL_law_958 (by decide) ?_
    refine W.widen (k := cells + 3) (n := slots + 18) (by omega) (by omega) ?_
    exact K _ _ _ _ _ _ _ _ _ _ _ hSS hP hS (lv_sub hl [2, 3, 4, 5, 6, 7] rfl)
theorem dL_law_961 : decode cL_law 961 = .ok (.aload_n 1, 1) := by decide +kernel
theorem dL_law_962 : decode cL_law 962 = .ok (.aload_n 0, 1) := by decide +kernel
theorem dL_law_963 : decode cL_law 963 = .ok (.iload 5, 2) := by decide +kernel
theorem dL_law_965 : decode cL_law 965 = .ok (.iconst 1, 1) := by decide +kernel
theorem dL_law_966 : decode cL_law 966 = .ok (.iadd, 1) := by decide +kernel
theorem dL_law_967 : decode cL_law 967 = .ok (.iaload, 1) := by decide +kernel
theorem dL_law_968 : decode cL_law 968 = .ok (.aload_n 0, 1) := by decide +kernel
theorem dL_law_969 : decode cL_law 969 = .ok (.iload 5, 2) := by decide +kernel
theorem dL_law_971 : decode cL_law 971 = .ok (.iconst 2, 1) := by decide +kernel
theorem dL_law_972 : decode cL_law 972 = .ok (.iadd, 1) := by decide +kernel
theorem dL_law_973 : decode cL_law 973 = .ok (.iaload, 1) := by decide +kernel
theorem dL_law_974 : decode cL_law 974 = .ok (.aload_n 3, 1) := by decide +kernel
theorem dL_law_975 : decode cL_law 975 = .ok (.invokestatic 139, 3) := by decide +kernel
theorem dL_law_978 : decode cL_law 978 = .ok (.istore 6, 2) := by decide +kernel
theorem dL_law_980 : decode cL_law 980 = .ok (.aload_n 2, 1) := by decide +kernel
theorem dL_law_981 : decode cL_law 981 = .ok (.aload_n 0, 1) := by decide +kernel
theorem dL_law_982 : decode cL_law 982 = .ok (.iload 5, 2) := by decide +kernel
theorem dL_law_984 : decode cL_law 984 = .ok (.iconst 1, 1) := by decide +kernel
theorem dL_law_985 : decode cL_law 985 = .ok (.iadd, 1) := by decide +kernel
theorem dL_law_986 : decode cL_law 986 = .ok (.iaload, 1) := by decide +kernel
theorem dL_law_987 : decode cL_law 987 = .ok (.aload_n 0, 1) := by decide +kernel
theorem dL_law_988 : decode cL_law 988 = .ok (.iload 5, 2) := by decide +kernel
theorem dL_law_990 : decode cL_law 990 = .ok (.iconst 2, 1) := by decide +kernel
theorem dL_law_991 : decode cL_law 991 = .ok (.iadd, 1) := by decide +kernel
theorem dL_law_992 : decode cL_law 992 = .ok (.iaload, 1) := by decide +kernel
theorem dL_law_993 : decode cL_law 993 = .ok (.invokevirtual 141, 3) := by decide +kernel
theorem dL_law_996 : decode cL_law 996 = .ok (.istore 7, 2) := by decide +kernel
theorem dL_law_998 : decode cL_law 998 = .ok (.aload_n 2, 1) := by decide +kernel
theorem dL_law_999 : decode cL_law 999 = .ok (.invokevirtual 88, 3) := by decide +kernel
theorem dL_law_1002 : decode cL_law 1002 = .ok (.iload 6, 2) := by decide +kernel
theorem dL_law_1004 : decode cL_law 1004 = .ok (.if_icmp .eq 5, 3) := by decide +kernel
theorem dL_law_1007 : decode cL_law 1007 = .ok (.iconst 0, 1) := by decide +kernel
theorem dL_law_1008 : decode cL_law 1008 = .ok (.ireturn, 1) := by decide +kernel
theorem dL_law_1009 : decode cL_law 1009 = .ok (.iload 6, 2) := by decide +kernel
theorem dL_law_1011 : decode cL_law 1011 = .ok (.ifCond .ne 15, 3) := by decide +kernel
theorem dL_law_1014 : decode cL_law 1014 = .ok (.aload_n 3, 1) := by decide +kernel
theorem dL_law_1015 : decode cL_law 1015 = .ok (.iconst 0, 1) := by decide +kernel
theorem dL_law_1016 : decode cL_law 1016 = .ok (.laload, 1) := by decide +kernel
theorem dL_law_1017 : decode cL_law 1017 = .ok (.iload 7, 2) := by decide +kernel
theorem dL_law_1019 : decode cL_law 1019 = .ok (.i2l, 1) := by decide +kernel
theorem dL_law_1020 : decode cL_law 1020 = .ok (.lcmp, 1) := by decide +kernel
theorem dL_law_1021 : decode cL_law 1021 = .ok (.ifCond .eq 5, 3) := by decide +kernel
theorem dL_law_1024 : decode cL_law 1024 = .ok (.iconst 0, 1) := by decide +kernel
theorem dL_law_1025 : decode cL_law 1025 = .ok (.ireturn, 1) := by decide +kernel
theorem dL_law_1026 : decode cL_law 1026 = .ok (.goto 617, 3) := by decide +kernel
set_option maxRecDepth 20000 in
theorem wl_count : GoodIn lw_tbl (va_wsS RL 139 yL_count wsW_count) := goodIn_app (fun w h => ⟨in_idx [565, 566, 47] (by decide +kernel) w h, good_of_word (List.all_eq_true.mp (show ([.methodLink RL 139 yL_count, .static yL_count, .initialized yL_count.cls] : List Cond).all goodWord = true from by decide +kernel) w h)⟩) (fun w h => (List.mem_cons.mp h).elim (fun q => q ▸ ⟨List.mem_of_getElem? (i := 567) (by decide +kernel), good_of_word rfl⟩) (fun q => lwG_self w q))
set_option maxRecDepth 100000 in
set_option maxHeartbeats 4000000 in
theorem cs_count {p : Program} {l : Launch} {e : Env} {s : State} {m : MethodId} {below : List Frame} {meth : Method} {c : Code} {bs L : Nat} {xs : Nat → Int32} {D : va_G} {cs : Nat → ClassId} {ad : Nat → Nat} {Q : State → Prop} {i cells slots : Nat} {Ls : Nat → SL} {Hs T M : SL} {dr hs o : Int64} {od : UInt64} {H : Heap} {locs : List Loc} {ls : Array Slot} (E : LX p l s m meth c bs L xs D cs ad) (hi : i + 6 ≤ L) (hc : cells + 3 ≤ room_1.cells ∧ slots + 18 ≤ room_1.slots) (hSS : SS Ls Hs T M) (hP : va_P D vwCl (wA cs ad Ls Hs T M dr hs o od) H) (hS : va_S (Afr ad s.heap.size) s.heap H locs) (hl : lv_has ls 9 (lvL bs ad (nI i))) (K : LK p l e s m bs below meth c D cs ad i cells slots Q) : W p l e room_1 s m #[.ref bs] below meth c H locs cells slots Q (F0 m 961 ls []) := by
  obtain ⟨C, G, X, N, Y, sX, sL, sA, hL, hfl⟩ := E
  obtain ⟨bv, M', res, v, o', eM, eC, h4, hSS', hov, hu, hk⟩ := r0_out o (s_count hSS (xs (i + 1)) (xs (i + 2)))
  refine lv_aload_n C.1 C.2.1 dL_law_961 rfl (lv_at hl 1 rfl) ?_
  refine lv_aload_n C.1 C.2.1 dL_law_962 rfl (lv_at hl 0 rfl) ?_
  refine lv_iload C.1 C.2.1 dL_law_963 (lv_at hl 5 rfl) ?_
  refine lv_iconst (v := 1) C.1 C.2.1 dL_law_965 (by decide) ?_
  refine k_iadd C (np1 i) dL_law_966 ?_
  refine k_sld C sX sL sA hL hS (show i + 1 < L by omega) dL_law_967 ?_
  refine lv_aload_n C.1 C.2.1 dL_law_968 rfl (lv_at hl 0 rfl) ?_
  refine lv_iload C.1 C.2.1 dL_law_969 (lv_at hl 5 rfl) ?_
  refine lv_iconst (v := 2) C.1 C.2.1 dL_law_971 (by decide) ?_
  refine k_iadd C (np2 i) dL_law_972 ?_
  refine k_sld C sX sL sA hL hS (show i + 2 < L by omega) dL_law_973 ?_
  refine lv_aload_n C.1 C.2.1 dL_law_974 rfl (lv_at hl 3 rfl) ?_
  have hM := m_L_count l hfl (D := D) (cs := cs) G.2.1 H.size (Ls := Ls) (Hs := Hs) (T := T) (M := M) (dr := dr) (hs := hs) (o := o) (od := od) eC (v := v) (w' := wA cs ad Ls Hs T M dr hs o' od) (fun u hu1 => by
    obtain ⟨a1, a4⟩ := hu u hu1
    exact ⟨a1, by rw [a4]⟩) (fun k hk1 => by
    obtain ⟨a4, q⟩ := hk k hk1
    exact ⟨by rw [a4], dk_B q⟩)
  refine k_callSWi C G X N Y hP hS hM (vx_cwSW 4 C.2.2.2.2.2.1 wl_count rfl rfl rfl (by decide +kernel) ⟨Nat.le_of_ble_eq_true rfl, Nat.le_of_ble_eq_true rfl⟩) (As := [.ref (ad 0), .int (xs (i + 1)), .int (xs (i + 2)), .ref (ad 95)]) rfl hl.1 rfl (Nat.le_of_ble_eq_true rfl) dL_law_975 ⟨by omega, by omega⟩ (fun H locs hP hS => ?_)
  refine lv_istore (lv' := [(6, .int v), (0, .ref bs), (1, .ref (ad 0)), (2, .ref (ad 89)), (3, .ref (ad 95)), (4, .ref (ad 96)), (5, .int (nI i))]) C.1 C.2.1 dL_law_978 hl (by decide) rfl (fun ls hl => ?_)
  refine lv_aload_n C.1 C.2.1 dL_law_980 rfl (lv_at hl 3 rfl) ?_
  refine lv_aload_n C.1 C.2.1 dL_law_981 rfl (lv_at hl 1 rfl) ?_
  refine lv_iload C.1 C.2.1 dL_law_982 (lv_at hl 6 rfl) ?_
  refine lv_iconst (v := 1) C.1 C.2.1 dL_law_984 (by decide) ?_
  refine k_iadd C (np1 i) dL_law_985 ?_
  refine k_sld C sX sL sA hL hS (show i + 1 < L by omega) dL_law_986 ?_
  refine lv_aload_n C.1 C.2.1 dL_law_987 rfl (lv_at hl 1 rfl) ?_
  refine lv_iload C.1 C.2.1 dL_law_988 (lv_at hl 6 rfl) ?_
  refine lv_iconst (v := 2) C.1 C.2.1 dL_law_990 (by decide) ?_
  refine k_iadd C (np2 i) dL_law_991 ?_
  refine k_sld C sX sL sA hL hS (show i + 2 < L by omega) dL_law_992 ?_
  refine k_callVi C G hP hS (m_X6_count l G.2.1 _ eM) r_obj rfl (cwV 2 C.2.2.2.2.2.1 (lwG_up wg_X6_count) rfl rfl rfl (by decide +kernel) ⟨Nat.le_of_ble_eq_true rfl, Nat.le_of_ble_eq_true rfl⟩) (As := [.int (xs (i + 1)), .int (xs (i + 2))]) rfl hl.1 rfl (Nat.le_of_ble_eq_true rfl) dL_law_993 ⟨by omega, by omega⟩ (fun H locs hP hS => ?_)
  have hP : va_P D vwCl (wA cs ad Ls Hs T M' dr hs o' od) H := hP
  refine lv_istore (lv' := [(7, .int bv), (6, .int v), (0, .ref bs), (1, .ref (ad 0)), (2, .ref (ad 89)), (3, .ref (ad 95)), (4, .ref (ad 96)), (5, .int (nI i))]) C.1 C.2.1 dL_law_996 hl (by decide) rfl (fun ls hl => ?_)
  refine lv_aload_n C.1 C.2.1 dL_law_998 rfl (lv_at hl 4 rfl) ?_
  refine k_callVi C G hP hS (m_X6_thrown l G.2.1 _ (show f_X6_thrown M' = some v by rw [← h4]; rfl)) r_obj rfl (cwV 0 C.2.2.2.2.2.1 (lwG_up wg_X6_thrown) rfl rfl rfl (by decide +kernel) ⟨Nat.le_of_ble_eq_true rfl, Nat.le_of_ble_eq_true rfl⟩) (As := []) rfl hl.1 rfl (Nat.le_of_ble_eq_true rfl) dL_law_999 ⟨by omega, by omega⟩ (fun H locs hP hS => ?_)
  refine lv_iload C.1 C.2.1 dL_law_1002 (lv_at hl 1 rfl) ?_
  refine lv_icmp_eq (tgt := 1009) C.1 C.2.1 dL_law_1004 (by decide) (fun _ => ?_) (fun z => absurd rfl z)
  refine lv_iload C.1 C.2.1 dL_law_1009 (lv_at hl 1 rfl) ?_
  have hSS := hSS'
  refine lv_if_ne (tgt := 1026) C.1 C.2.1 dL_law_1011 (by decide) (fun _ => ?_) (fun z => ?_)
  · refine lv_goto (tgt := 1643) C.1 C.2.1 dL_law_1026 (by decide) ?_
    refine W.widen (k := cells + 3) (n := slots + 18) (by omega) (by omega) ?_
    exact K _ _ _ _ _ _ _ _ _ _ _ hSS hP hS (lv_sub hl [2, 3, 4, 5, 6, 7] rfl)
  · refine lv_aload_n C.1 C.2.1 dL_law_1014 rfl (lv_at hl 5 rfl) ?_
    refine lv_iconst (v := 0) C.1 C.2.1 dL_law_1015 (by decide) ?_
    refine k_laldO C G hP dL_law_1016 ?_
    refine lv_iload C.1 C.2.1 dL_law_1017 (lv_at hl 0 rfl) ?_
    refine k_i2l C (hov z) dL_law_1019 ?_
    refine W.lcmp C.1 C.2.1 dL_law_1020 ?_
    refine lv_if_eq (tgt := 1026) C.1 C.2.1 dL_law_1021 (by decide) (fun _ => ?_) (fun q => absurd (lg_self _) q)
    refine lv_goto (tgt := 1643) C.1 C.2.1 dL_law_1026 (by decide) ?_
    refine W.widen (k := cells + 3) (n := slots + 18) (by omega) (by omega) ?_
    exact K _ _ _ _ _ _ _ _ _ _ _ hSS hP hS (lv_sub hl [2, 3, 4, 5, 6, 7] rfl)
theorem dL_law_1029 : decode cL_law 1029 = .ok (.aload_n 1, 1) := by decide +kernel
theorem dL_law_1030 : decode cL_law 1030 = .ok (.aload_n 0, 1) := by decide +kernel
theorem dL_law_1031 : decode cL_law 1031 = .ok (.iload 5, 2) := by decide +kernel
theorem dL_law_1033 : decode cL_law 1033 = .ok (.iconst 1, 1) := by decide +kernel
theorem dL_law_1034 : decode cL_law 1034 = .ok (.iadd, 1) := by decide +kernel
theorem dL_law_1035 : decode cL_law 1035 = .ok (.iaload, 1) := by decide +kernel
theorem dL_law_1036 : decode cL_law 1036 = .ok (.aload 4, 2) := by decide +kernel
theorem dL_law_1038 : decode cL_law 1038 = .ok (.invokestatic 142, 3) := by decide +kernel
theorem dL_law_1041 : decode cL_law 1041 = .ok (.istore 6, 2) := by decide +kernel
theorem dL_law_1043 : decode cL_law 1043 = .ok (.aload_n 2, 1) := by decide +kernel
theorem dL_law_1044 : decode cL_law 1044 = .ok (.aload_n 0, 1) := by decide +kernel
theorem dL_law_1045 : decode cL_law 1045 = .ok (.iload 5, 2) := by decide +kernel
theorem dL_law_1047 : decode cL_law 1047 = .ok (.iconst 1, 1) := by decide +kernel
theorem dL_law_1048 : decode cL_law 1048 = .ok (.iadd, 1) := by decide +kernel
theorem dL_law_1049 : decode cL_law 1049 = .ok (.iaload, 1) := by decide +kernel
theorem dL_law_1050 : decode cL_law 1050 = .ok (.invokevirtual 145, 3) := by decide +kernel
theorem dL_law_1053 : decode cL_law 1053 = .ok (.dstore 7, 2) := by decide +kernel
theorem dL_law_1055 : decode cL_law 1055 = .ok (.aload_n 2, 1) := by decide +kernel
theorem dL_law_1056 : decode cL_law 1056 = .ok (.invokevirtual 88, 3) := by decide +kernel
theorem dL_law_1059 : decode cL_law 1059 = .ok (.iload 6, 2) := by decide +kernel
theorem dL_law_1061 : decode cL_law 1061 = .ok (.if_icmp .eq 5, 3) := by decide +kernel
theorem dL_law_1064 : decode cL_law 1064 = .ok (.iconst 0, 1) := by decide +kernel
theorem dL_law_1065 : decode cL_law 1065 = .ok (.ireturn, 1) := by decide +kernel
theorem dL_law_1066 : decode cL_law 1066 = .ok (.iload 6, 2) := by decide +kernel
theorem dL_law_1068 : decode cL_law 1068 = .ok (.ifCond .ne 35, 3) := by decide +kernel
theorem dL_law_1071 : decode cL_law 1071 = .ok (.aload 4, 2) := by decide +kernel
theorem dL_law_1073 : decode cL_law 1073 = .ok (.iconst 0, 1) := by decide +kernel
theorem dL_law_1074 : decode cL_law 1074 = .ok (.daload, 1) := by decide +kernel
theorem dL_law_1075 : decode cL_law 1075 = .ok (.dload 7, 2) := by decide +kernel
theorem dL_law_1077 : decode cL_law 1077 = .ok (.dcmp .l, 1) := by decide +kernel
theorem dL_law_1078 : decode cL_law 1078 = .ok (.ifCond .eq 25, 3) := by decide +kernel
theorem dL_law_1081 : decode cL_law 1081 = .ok (.aload 4, 2) := by decide +kernel
theorem dL_law_1083 : decode cL_law 1083 = .ok (.iconst 0, 1) := by decide +kernel
theorem dL_law_1084 : decode cL_law 1084 = .ok (.daload, 1) := by decide +kernel
theorem dL_law_1085 : decode cL_law 1085 = .ok (.aload 4, 2) := by decide +kernel
theorem dL_law_1087 : decode cL_law 1087 = .ok (.iconst 0, 1) := by decide +kernel
theorem dL_law_1088 : decode cL_law 1088 = .ok (.daload, 1) := by decide +kernel
theorem dL_law_1089 : decode cL_law 1089 = .ok (.dcmp .l, 1) := by decide +kernel
theorem dL_law_1090 : decode cL_law 1090 = .ok (.ifCond .eq 11, 3) := by decide +kernel
theorem dL_law_1093 : decode cL_law 1093 = .ok (.dload 7, 2) := by decide +kernel
theorem dL_law_1095 : decode cL_law 1095 = .ok (.dload 7, 2) := by decide +kernel
theorem dL_law_1097 : decode cL_law 1097 = .ok (.dcmp .l, 1) := by decide +kernel
theorem dL_law_1098 : decode cL_law 1098 = .ok (.ifCond .ne 5, 3) := by decide +kernel
theorem dL_law_1101 : decode cL_law 1101 = .ok (.iconst 0, 1) := by decide +kernel
theorem dL_law_1102 : decode cL_law 1102 = .ok (.ireturn, 1) := by decide +kernel
theorem dL_law_1103 : decode cL_law 1103 = .ok (.goto 540, 3) := by decide +kernel
set_option maxRecDepth 20000 in
theorem wl_meanFill : GoodIn lw_tbl (va_wsS RL 142 yL_meanFill wsW_meanFill) := goodIn_app (fun w h => ⟨in_idx [572, 573, 47] (by decide +kernel) w h, good_of_word (List.all_eq_true.mp (show ([.methodLink RL 142 yL_meanFill, .static yL_meanFill, .initialized yL_meanFill.cls] : List Cond).all goodWord = true from by decide +kernel) w h)⟩) (fun w h => (List.mem_cons.mp h).elim (fun q => q ▸ ⟨List.mem_of_getElem? (i := 574) (by decide +kernel), good_of_word rfl⟩) (fun q => lwG_self w q))
set_option maxRecDepth 100000 in
set_option maxHeartbeats 4000000 in
theorem cs_meanFill {p : Program} {l : Launch} {e : Env} {s : State} {m : MethodId} {below : List Frame} {meth : Method} {c : Code} {bs L : Nat} {xs : Nat → Int32} {D : va_G} {cs : Nat → ClassId} {ad : Nat → Nat} {Q : State → Prop} {i cells slots : Nat} {Ls : Nat → SL} {Hs T M : SL} {dr hs o : Int64} {od : UInt64} {H : Heap} {locs : List Loc} {ls : Array Slot} (E : LX p l s m meth c bs L xs D cs ad) (hi : i + 6 ≤ L) (hc : cells + 3 ≤ room_1.cells ∧ slots + 18 ≤ room_1.slots) (hSS : SS Ls Hs T M) (hP : va_P D vwCl (wA cs ad Ls Hs T M dr hs o od) H) (hS : va_S (Afr ad s.heap.size) s.heap H locs) (hl : lv_has ls 9 (lvL bs ad (nI i))) (K : LK p l e s m bs below meth c D cs ad i cells slots Q) : W p l e room_1 s m #[.ref bs] below meth c H locs cells slots Q (F0 m 1029 ls []) := by
  obtain ⟨C, G, X, N, Y, sX, sL, sA, hL, hfl⟩ := E
  obtain ⟨bv, M', res, v, od', eM, eC, h4, hSS', hov, hu, hk⟩ := rm_out od (s_meanFill hSS (xs (i + 1)))
  refine lv_aload_n C.1 C.2.1 dL_law_1029 rfl (lv_at hl 1 rfl) ?_
  refine lv_aload_n C.1 C.2.1 dL_law_1030 rfl (lv_at hl 0 rfl) ?_
  refine lv_iload C.1 C.2.1 dL_law_1031 (lv_at hl 5 rfl) ?_
  refine lv_iconst (v := 1) C.1 C.2.1 dL_law_1033 (by decide) ?_
  refine k_iadd C (np1 i) dL_law_1034 ?_
  refine k_sld C sX sL sA hL hS (show i + 1 < L by omega) dL_law_1035 ?_
  refine lv_aload C.1 C.2.1 dL_law_1036 (lv_at hl 4 rfl) ?_
  have hM := m_L_meanFill l hfl (D := D) (cs := cs) G.2.1 H.size (Ls := Ls) (Hs := Hs) (T := T) (M := M) (dr := dr) (hs := hs) (o := o) (od := od) eC (v := v) (w' := wA cs ad Ls Hs T M dr hs o od') (fun u hu1 => by
    obtain ⟨a1, a4⟩ := hu u hu1
    exact ⟨a1, by rw [a4]⟩) (fun k hk1 => by
    obtain ⟨a4, q⟩ := hk k hk1
    exact ⟨by rw [a4], q⟩)
  refine k_callSWi C G X N Y hP hS hM (vx_cwSW 3 C.2.2.2.2.2.1 wl_meanFill rfl rfl rfl (by decide +kernel) ⟨Nat.le_of_ble_eq_true rfl, Nat.le_of_ble_eq_true rfl⟩) (As := [.ref (ad 0), .int (xs (i + 1)), .ref (ad 96)]) rfl hl.1 rfl (Nat.le_of_ble_eq_true rfl) dL_law_1038 ⟨by omega, by omega⟩ (fun H locs hP hS => ?_)
  refine lv_istore (lv' := [(6, .int v), (0, .ref bs), (1, .ref (ad 0)), (2, .ref (ad 89)), (3, .ref (ad 95)), (4, .ref (ad 96)), (5, .int (nI i))]) C.1 C.2.1 dL_law_1041 hl (by decide) rfl (fun ls hl => ?_)
  refine lv_aload_n C.1 C.2.1 dL_law_1043 rfl (lv_at hl 3 rfl) ?_
  refine lv_aload_n C.1 C.2.1 dL_law_1044 rfl (lv_at hl 1 rfl) ?_
  refine lv_iload C.1 C.2.1 dL_law_1045 (lv_at hl 6 rfl) ?_
  refine lv_iconst (v := 1) C.1 C.2.1 dL_law_1047 (by decide) ?_
  refine k_iadd C (np1 i) dL_law_1048 ?_
  refine k_sld C sX sL sA hL hS (show i + 1 < L by omega) dL_law_1049 ?_
  refine k_callVd C G hP hS (m_X6_meanFill l G.2.1 _ eM) r_obj rfl (cwV 1 C.2.2.2.2.2.1 (lwG_up wg_X6_meanFill) rfl rfl rfl (by decide +kernel) ⟨Nat.le_of_ble_eq_true rfl, Nat.le_of_ble_eq_true rfl⟩) (As := [.int (xs (i + 1))]) rfl hl.1 rfl (Nat.le_of_ble_eq_true rfl) dL_law_1050 ⟨by omega, by omega⟩ (fun H locs hP hS => ?_)
  have hP : va_P D vwCl (wA cs ad Ls Hs T M' dr hs o od') H := hP
  refine lv_dstore (lv' := [(7, .double bv), (6, .int v), (0, .ref bs), (1, .ref (ad 0)), (2, .ref (ad 89)), (3, .ref (ad 95)), (4, .ref (ad 96)), (5, .int (nI i))]) C.1 C.2.1 dL_law_1053 hl (by decide) rfl (fun ls hl => ?_)
  refine lv_aload_n C.1 C.2.1 dL_law_1055 rfl (lv_at hl 4 rfl) ?_
  refine k_callVi C G hP hS (m_X6_thrown l G.2.1 _ (show f_X6_thrown M' = some v by rw [← h4]; rfl)) r_obj rfl (cwV 0 C.2.2.2.2.2.1 (lwG_up wg_X6_thrown) rfl rfl rfl (by decide +kernel) ⟨Nat.le_of_ble_eq_true rfl, Nat.le_of_ble_eq_true rfl⟩) (As := []) rfl hl.1 rfl (Nat.le_of_ble_eq_true rfl) dL_law_1056 ⟨by omega, by omega⟩ (fun H locs hP hS => ?_)
  refine lv_iload C.1 C.2.1 dL_law_1059 (lv_at hl 1 rfl) ?_
  refine lv_icmp_eq (tgt := 1066) C.1 C.2.1 dL_law_1061 (by decide) (fun _ => ?_) (fun z => absurd rfl z)
  refine lv_iload C.1 C.2.1 dL_law_1066 (lv_at hl 1 rfl) ?_
  have hSS := hSS'
  refine lv_if_ne (tgt := 1103) C.1 C.2.1 dL_law_1068 (by decide) (fun _ => ?_) (fun z => ?_)
  · refine lv_goto (tgt := 1643) C.1 C.2.1 dL_law_1103 (by decide) ?_
    refine W.widen (k := cells + 3) (n := slots + 18) (by omega) (by omega) ?_
    exact K _ _ _ _ _ _ _ _ _ _ _ hSS hP hS (lv_sub hl [2, 3, 4, 5, 6, 7] rfl)
  · have hP : va_P D vwCl (wA cs ad Ls Hs T M' dr hs o bv) H := by
      rw [← hov z]
      exact hP
    refine lv_aload C.1 C.2.1 dL_law_1071 (lv_at hl 6 rfl) ?_
    refine lv_iconst (v := 0) C.1 C.2.1 dL_law_1073 (by decide) ?_
    refine k_daldO C G hP dL_law_1074 ?_
    refine lv_dload C.1 C.2.1 dL_law_1075 (lv_at hl 0 rfl) ?_
    refine lv_dcmp C.1 C.2.1 dL_law_1077 ?_
    refine lv_if_eq (tgt := 1103) C.1 C.2.1 dL_law_1078 (by decide) (fun _ => ?_) (fun q => ?_)
    · refine lv_goto (tgt := 1643) C.1 C.2.1 dL_law_1103 (by decide) ?_
      refine W.widen (k := cells + 3) (n := slots + 18) (by omega) (by omega) ?_
      exact K _ _ _ _ _ _ _ _ _ _ _ hSS hP hS (lv_sub hl [2, 3, 4, 5, 6, 7] rfl)
    · refine lv_aload C.1 C.2.1 dL_law_1081 (lv_at hl 6 rfl) ?_
      refine lv_iconst (v := 0) C.1 C.2.1 dL_law_1083 (by decide) ?_
      refine k_daldO C G hP dL_law_1084 ?_
      refine lv_aload C.1 C.2.1 dL_law_1085 (lv_at hl 6 rfl) ?_
      refine lv_iconst (v := 0) C.1 C.2.1 dL_law_1087 (by decide) ?_
      refine k_daldO C G hP dL_law_1088 ?_
      refine lv_dcmp C.1 C.2.1 dL_law_1089 ?_
      refine lv_if_eq (tgt := 1101) C.1 C.2.1 dL_law_1090 (by decide) (fun q2 => absurd q2 q) (fun _ => ?_)
      refine lv_dload C.1 C.2.1 dL_law_1093 (lv_at hl 0 rfl) ?_
      refine lv_dload C.1 C.2.1 dL_law_1095 (lv_at hl 0 rfl) ?_
      refine lv_dcmp C.1 C.2.1 dL_law_1097 ?_
      refine lv_if_ne (tgt := 1103) C.1 C.2.1 dL_law_1098 (by decide) (fun _ => ?_) (fun q2 => absurd q2 q)
      refine lv_goto (tgt := 1643) C.1 C.2.1 dL_law_1103 (by decide) ?_
      refine W.widen (k := cells + 3) (n := slots + 18) (by omega) (by omega) ?_
      exact K _ _ _ _ _ _ _ _ _ _ _ hSS hP hS (lv_sub hl [2, 3, 4, 5, 6, 7] rfl)
