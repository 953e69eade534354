/-! THE LAW: calls inside, bound, limiting, slowest, outputWith -/
theorem dL_law_1106 : decode cL_law 1106 = .ok (.aload_n 1, 1) := by decide +kernel
theorem dL_law_1107 : decode cL_law 1107 = .ok (.invokevirtual 146, 3) := by decide +kernel
theorem dL_law_1110 : decode cL_law 1110 = .ok (.aload_n 2, 1) := by decide +kernel
theorem dL_law_1111 : decode cL_law 1111 = .ok (.invokevirtual 149, 3) := by decide +kernel
theorem dL_law_1114 : decode cL_law 1114 = .ok (.if_icmp .eq 529, 3) := by decide +kernel
theorem dL_law_1117 : decode cL_law 1117 = .ok (.iconst 0, 1) := by decide +kernel
theorem dL_law_1118 : decode cL_law 1118 = .ok (.ireturn, 1) := by decide +kernel
set_option maxRecDepth 100000 in
set_option maxHeartbeats 4000000 in
theorem cs_inside {p : Program} {l : Launch} {e : Env} {s : State} {m : MethodId} {below : List Frame} {meth : Method} {c : Code} {bs L : Nat} {xs : Nat → Int32} {D : va_G} {cs : Nat → ClassId} {ad : Nat → Nat} {Q : State → Prop} {i cells slots : Nat} {Ls : Nat → SL} {Hs T M : SL} {dr hs o : Int64} {od : UInt64} {H : Heap} {locs : List Loc} {ls : Array Slot} (E : LX p l s m meth c bs L xs D cs ad) (hi : i + 6 ≤ L) (hc : cells + 3 ≤ room_1.cells ∧ slots + 18 ≤ room_1.slots) (hSS : SS Ls Hs T M) (hP : va_P D vwCl (wA cs ad Ls Hs T M dr hs o od) H) (hS : va_S (Afr ad s.heap.size) s.heap H locs) (hl : lv_has ls 9 (lvL bs ad (nI i))) (K : LK p l e s m bs below meth c D cs ad i cells slots Q) : W p l e room_1 s m #[.ref bs] below meth c H locs cells slots Q (F0 m 1106 ls []) := by
  obtain ⟨C, G, X, N, Y, sX, sL, sA, hL, hfl⟩ := E
  obtain ⟨bv, M', eM, eC, hSS'⟩ := s_inside hSS
  refine lv_aload_n C.1 C.2.1 dL_law_1106 rfl (lv_at hl 1 rfl) ?_
  refine k_callVi C G hP hS (m_X5_inside l G.2.1 _ eC) g_obj rfl (cwV 0 C.2.2.2.2.2.1 (lwG_up wg_X5_inside) rfl rfl rfl (by decide +kernel) ⟨Nat.le_of_ble_eq_true rfl, Nat.le_of_ble_eq_true rfl⟩) (As := []) rfl hl.1 rfl (Nat.le_of_ble_eq_true rfl) dL_law_1107 ⟨by omega, by omega⟩ (fun H locs hP hS => ?_)
  have hP : va_P D vwCl (wA cs ad Ls Hs T M dr hs o od) H := hP
  refine lv_aload_n C.1 C.2.1 dL_law_1110 rfl (lv_at hl 2 rfl) ?_
  refine k_callVi C G hP hS (m_X6_inside l G.2.1 _ eM) r_obj rfl (cwV 0 C.2.2.2.2.2.1 (lwG_up wg_X6_inside) rfl rfl rfl (by decide +kernel) ⟨Nat.le_of_ble_eq_true rfl, Nat.le_of_ble_eq_true rfl⟩) (As := []) rfl hl.1 rfl (Nat.le_of_ble_eq_true rfl) dL_law_1111 ⟨by omega, by omega⟩ (fun H locs hP hS => ?_)
  have hP : va_P D vwCl (wA cs ad Ls Hs T M' dr hs o od) H := hP
  refine lv_icmp_eq (tgt := 1643) C.1 C.2.1 dL_law_1114 (by decide) (fun _ => ?_) (fun q => absurd rfl q)
  have hSS := hSS'
  refine W.widen (k := cells + 3) (n := slots + 18) (by omega) (by omega) ?_
  exact K _ _ _ _ _ _ _ _ _ _ _ hSS hP hS (lv_sub hl [0, 1, 2, 3, 4, 5] rfl)
theorem dL_law_1119 : decode cL_law 1119 = .ok (.aload_n 1, 1) := by decide +kernel
theorem dL_law_1120 : decode cL_law 1120 = .ok (.aload_n 0, 1) := by decide +kernel
theorem dL_law_1121 : decode cL_law 1121 = .ok (.iload 5, 2) := by decide +kernel
theorem dL_law_1123 : decode cL_law 1123 = .ok (.iconst 1, 1) := by decide +kernel
theorem dL_law_1124 : decode cL_law 1124 = .ok (.iadd, 1) := by decide +kernel
theorem dL_law_1125 : decode cL_law 1125 = .ok (.iaload, 1) := by decide +kernel
theorem dL_law_1126 : decode cL_law 1126 = .ok (.aload_n 3, 1) := by decide +kernel
theorem dL_law_1127 : decode cL_law 1127 = .ok (.invokestatic 150, 3) := by decide +kernel
theorem dL_law_1130 : decode cL_law 1130 = .ok (.istore 6, 2) := by decide +kernel
theorem dL_law_1132 : decode cL_law 1132 = .ok (.aload_n 2, 1) := by decide +kernel
theorem dL_law_1133 : decode cL_law 1133 = .ok (.aload_n 0, 1) := by decide +kernel
theorem dL_law_1134 : decode cL_law 1134 = .ok (.iload 5, 2) := by decide +kernel
theorem dL_law_1136 : decode cL_law 1136 = .ok (.iconst 1, 1) := by decide +kernel
theorem dL_law_1137 : decode cL_law 1137 = .ok (.iadd, 1) := by decide +kernel
theorem dL_law_1138 : decode cL_law 1138 = .ok (.iaload, 1) := by decide +kernel
theorem dL_law_1139 : decode cL_law 1139 = .ok (.invokevirtual 152, 3) := by decide +kernel
theorem dL_law_1142 : decode cL_law 1142 = .ok (.istore 7, 2) := by decide +kernel
theorem dL_law_1144 : decode cL_law 1144 = .ok (.aload_n 2, 1) := by decide +kernel
theorem dL_law_1145 : decode cL_law 1145 = .ok (.invokevirtual 88, 3) := by decide +kernel
theorem dL_law_1148 : decode cL_law 1148 = .ok (.iload 6, 2) := by decide +kernel
theorem dL_law_1150 : decode cL_law 1150 = .ok (.if_icmp .eq 5, 3) := by decide +kernel
theorem dL_law_1153 : decode cL_law 1153 = .ok (.iconst 0, 1) := by decide +kernel
theorem dL_law_1154 : decode cL_law 1154 = .ok (.ireturn, 1) := by decide +kernel
theorem dL_law_1155 : decode cL_law 1155 = .ok (.iload 6, 2) := by decide +kernel
theorem dL_law_1157 : decode cL_law 1157 = .ok (.ifCond .ne 15, 3) := by decide +kernel
theorem dL_law_1160 : decode cL_law 1160 = .ok (.aload_n 3, 1) := by decide +kernel
theorem dL_law_1161 : decode cL_law 1161 = .ok (.iconst 0, 1) := by decide +kernel
theorem dL_law_1162 : decode cL_law 1162 = .ok (.laload, 1) := by decide +kernel
theorem dL_law_1163 : decode cL_law 1163 = .ok (.iload 7, 2) := by decide +kernel
theorem dL_law_1165 : decode cL_law 1165 = .ok (.i2l, 1) := by decide +kernel
theorem dL_law_1166 : decode cL_law 1166 = .ok (.lcmp, 1) := by decide +kernel
theorem dL_law_1167 : decode cL_law 1167 = .ok (.ifCond .eq 5, 3) := by decide +kernel
theorem dL_law_1170 : decode cL_law 1170 = .ok (.iconst 0, 1) := by decide +kernel
theorem dL_law_1171 : decode cL_law 1171 = .ok (.ireturn, 1) := by decide +kernel
theorem dL_law_1172 : decode cL_law 1172 = .ok (.goto 471, 3) := by decide +kernel
set_option maxRecDepth 20000 in
theorem wl_bound : GoodIn lw_tbl (va_wsS RL 150 yL_bound wsW_bound) := goodIn_app (fun w h => ⟨in_idx [579, 580, 47] (by decide +kernel) w h, good_of_word (List.all_eq_true.mp (show ([.methodLink RL 150 yL_bound, .static yL_bound, .initialized yL_bound.cls] : List Cond).all goodWord = true from by decide +kernel) w h)⟩) (fun w h => (List.mem_cons.mp h).elim (fun q => q ▸ ⟨List.mem_of_getElem? (i := 581) (by decide +kernel), good_of_word rfl⟩) (fun q => lwG_self w q))
set_option maxRecDepth 100000 in
set_option maxHeartbeats 4000000 in
theorem cs_bound {p : Program} {l : Launch} {e : Env} {s : State} {m : MethodId} {below : List Frame} {meth : Method} {c : Code} {bs L : Nat} {xs : Nat → Int32} {D : va_G} {cs : Nat → ClassId} {ad : Nat → Nat} {Q : State → Prop} {i cells slots : Nat} {Ls : Nat → SL} {Hs T M : SL} {dr hs o : Int64} {od : UInt64} {H : Heap} {locs : List Loc} {ls : Array Slot} (E : LX p l s m meth c bs L xs D cs ad) (hi : i + 6 ≤ L) (hc : cells + 3 ≤ room_1.cells ∧ slots + 18 ≤ room_1.slots) (hSS : SS Ls Hs T M) (hP : va_P D vwCl (wA cs ad Ls Hs T M dr hs o od) H) (hS : va_S (Afr ad s.heap.size) s.heap H locs) (hl : lv_has ls 9 (lvL bs ad (nI i))) (K : LK p l e s m bs below meth c D cs ad i cells slots Q) : W p l e room_1 s m #[.ref bs] below meth c H locs cells slots Q (F0 m 1119 ls []) := by
  obtain ⟨C, G, X, N, Y, sX, sL, sA, hL, hfl⟩ := E
  obtain ⟨bv, M', res, v, Ls', o', eM, eC, h4, hSS', hov, hu, hk⟩ := rq_out o (s_bound hSS (xs (i + 1)))
  refine lv_aload_n C.1 C.2.1 dL_law_1119 rfl (lv_at hl 1 rfl) ?_
  refine lv_aload_n C.1 C.2.1 dL_law_1120 rfl (lv_at hl 0 rfl) ?_
  refine lv_iload C.1 C.2.1 dL_law_1121 (lv_at hl 5 rfl) ?_
  refine lv_iconst (v := 1) C.1 C.2.1 dL_law_1123 (by decide) ?_
  refine k_iadd C (np1 i) dL_law_1124 ?_
  refine k_sld C sX sL sA hL hS (show i + 1 < L by omega) dL_law_1125 ?_
  refine lv_aload_n C.1 C.2.1 dL_law_1126 rfl (lv_at hl 3 rfl) ?_
  have hM := m_L_bound l hfl (D := D) (cs := cs) G.2.1 H.size (Ls := Ls) (Hs := Hs) (T := T) (M := M) (dr := dr) (hs := hs) (o := o) (od := od) eC (v := v) (w' := wA cs ad Ls' Hs T M dr hs o' od) (fun u hu1 => by
    obtain ⟨a1, a2, a4⟩ := hu u hu1
    exact ⟨a1, by rw [a2, a4]⟩) (fun k hk1 => by
    obtain ⟨⟨a2, a4⟩, q⟩ := hk k hk1
    exact ⟨by rw [a2, a4], dk_id q⟩)
  refine k_callSWi C G X N Y hP hS hM (vx_cwSW 3 C.2.2.2.2.2.1 wl_bound rfl rfl rfl (by decide +kernel) ⟨Nat.le_of_ble_eq_true rfl, Nat.le_of_ble_eq_true rfl⟩) (As := [.ref (ad 0), .int (xs (i + 1)), .ref (ad 95)]) rfl hl.1 rfl (Nat.le_of_ble_eq_true rfl) dL_law_1127 ⟨by omega, by omega⟩ (fun H locs hP hS => ?_)
  refine lv_istore (lv' := [(6, .int v), (0, .ref bs), (1, .ref (ad 0)), (2, .ref (ad 89)), (3, .ref (ad 95)), (4, .ref (ad 96)), (5, .int (nI i))]) C.1 C.2.1 dL_law_1130 hl (by decide) rfl (fun ls hl => ?_)
  refine lv_aload_n C.1 C.2.1 dL_law_1132 rfl (lv_at hl 3 rfl) ?_
  refine lv_aload_n C.1 C.2.1 dL_law_1133 rfl (lv_at hl 1 rfl) ?_
  refine lv_iload C.1 C.2.1 dL_law_1134 (lv_at hl 6 rfl) ?_
  refine lv_iconst (v := 1) C.1 C.2.1 dL_law_1136 (by decide) ?_
  refine k_iadd C (np1 i) dL_law_1137 ?_
  refine k_sld C sX sL sA hL hS (show i + 1 < L by omega) dL_law_1138 ?_
  refine k_callVi C G hP hS (m_X6_bound l G.2.1 _ eM) r_obj rfl (cwV 1 C.2.2.2.2.2.1 (lwG_up wg_X6_bound) rfl rfl rfl (by decide +kernel) ⟨Nat.le_of_ble_eq_true rfl, Nat.le_of_ble_eq_true rfl⟩) (As := [.int (xs (i + 1))]) rfl hl.1 rfl (Nat.le_of_ble_eq_true rfl) dL_law_1139 ⟨by omega, by omega⟩ (fun H locs hP hS => ?_)
  have hP : va_P D vwCl (wA cs ad Ls' Hs T M' dr hs o' od) H := hP
  refine lv_istore (lv' := [(7, .int bv), (6, .int v), (0, .ref bs), (1, .ref (ad 0)), (2, .ref (ad 89)), (3, .ref (ad 95)), (4, .ref (ad 96)), (5, .int (nI i))]) C.1 C.2.1 dL_law_1142 hl (by decide) rfl (fun ls hl => ?_)
  refine lv_aload_n C.1 C.2.1 dL_law_1144 rfl (lv_at hl 4 rfl) ?_
  refine k_callVi C G hP hS (m_X6_thrown l G.2.1 _ (show f_X6_thrown M' = some v by rw [← h4]; rfl)) r_obj rfl (cwV 0 C.2.2.2.2.2.1 (lwG_up wg_X6_thrown) rfl rfl rfl (by decide +kernel) ⟨Nat.le_of_ble_eq_true rfl, Nat.le_of_ble_eq_true rfl⟩) (As := []) rfl hl.1 rfl (Nat.le_of_ble_eq_true rfl) dL_law_1145 ⟨by omega, by omega⟩ (fun H locs hP hS => ?_)
  refine lv_iload C.1 C.2.1 dL_law_1148 (lv_at hl 1 rfl) ?_
  refine lv_icmp_eq (tgt := 1155) C.1 C.2.1 dL_law_1150 (by decide) (fun _ => ?_) (fun z => absurd rfl z)
  refine lv_iload C.1 C.2.1 dL_law_1155 (lv_at hl 1 rfl) ?_
  have hSS := hSS'
  refine lv_if_ne (tgt := 1172) C.1 C.2.1 dL_law_1157 (by decide) (fun _ => ?_) (fun z => ?_)
  · refine lv_goto (tgt := 1643) C.1 C.2.1 dL_law_1172 (by decide) ?_
    refine W.widen (k := cells + 3) (n := slots + 18) (by omega) (by omega) ?_
    exact K _ _ _ _ _ _ _ _ _ _ _ hSS hP hS (lv_sub hl [2, 3, 4, 5, 6, 7] rfl)
  · refine lv_aload_n C.1 C.2.1 dL_law_1160 rfl (lv_at hl 5 rfl) ?_
    refine lv_iconst (v := 0) C.1 C.2.1 dL_law_1161 (by decide) ?_
    refine k_laldO C G hP dL_law_1162 ?_
    refine lv_iload C.1 C.2.1 dL_law_1163 (lv_at hl 0 rfl) ?_
    refine k_i2l C (hov z) dL_law_1165 ?_
    refine W.lcmp C.1 C.2.1 dL_law_1166 ?_
    refine lv_if_eq (tgt := 1172) C.1 C.2.1 dL_law_1167 (by decide) (fun _ => ?_) (fun q => absurd (lg_self _) q)
    refine lv_goto (tgt := 1643) C.1 C.2.1 dL_law_1172 (by decide) ?_
    refine W.widen (k := cells + 3) (n := slots + 18) (by omega) (by omega) ?_
    exact K _ _ _ _ _ _ _ _ _ _ _ hSS hP hS (lv_sub hl [2, 3, 4, 5, 6, 7] rfl)
theorem dL_law_1175 : decode cL_law 1175 = .ok (.aload_n 1, 1) := by decide +kernel
theorem dL_law_1176 : decode cL_law 1176 = .ok (.aload_n 3, 1) := by decide +kernel
theorem dL_law_1177 : decode cL_law 1177 = .ok (.invokestatic 153, 3) := by decide +kernel
theorem dL_law_1180 : decode cL_law 1180 = .ok (.istore 6, 2) := by decide +kernel
theorem dL_law_1182 : decode cL_law 1182 = .ok (.aload_n 2, 1) := by decide +kernel
theorem dL_law_1183 : decode cL_law 1183 = .ok (.invokevirtual 156, 3) := by decide +kernel
theorem dL_law_1186 : decode cL_law 1186 = .ok (.istore 7, 2) := by decide +kernel
theorem dL_law_1188 : decode cL_law 1188 = .ok (.aload_n 2, 1) := by decide +kernel
theorem dL_law_1189 : decode cL_law 1189 = .ok (.invokevirtual 88, 3) := by decide +kernel
theorem dL_law_1192 : decode cL_law 1192 = .ok (.iload 6, 2) := by decide +kernel
theorem dL_law_1194 : decode cL_law 1194 = .ok (.if_icmp .eq 5, 3) := by decide +kernel
theorem dL_law_1197 : decode cL_law 1197 = .ok (.iconst 0, 1) := by decide +kernel
theorem dL_law_1198 : decode cL_law 1198 = .ok (.ireturn, 1) := by decide +kernel
theorem dL_law_1199 : decode cL_law 1199 = .ok (.iload 6, 2) := by decide +kernel
theorem dL_law_1201 : decode cL_law 1201 = .ok (.ifCond .ne 15, 3) := by decide +kernel
theorem dL_law_1204 : decode cL_law 1204 = .ok (.aload_n 3, 1) := by decide +kernel
theorem dL_law_1205 : decode cL_law 1205 = .ok (.iconst 0, 1) := by decide +kernel
theorem dL_law_1206 : decode cL_law 1206 = .ok (.laload, 1) := by decide +kernel
theorem dL_law_1207 : decode cL_law 1207 = .ok (.iload 7, 2) := by decide +kernel
theorem dL_law_1209 : decode cL_law 1209 = .ok (.i2l, 1) := by decide +kernel
theorem dL_law_1210 : decode cL_law 1210 = .ok (.lcmp, 1) := by decide +kernel
theorem dL_law_1211 : decode cL_law 1211 = .ok (.ifCond .eq 5, 3) := by decide +kernel
theorem dL_law_1214 : decode cL_law 1214 = .ok (.iconst 0, 1) := by decide +kernel
theorem dL_law_1215 : decode cL_law 1215 = .ok (.ireturn, 1) := by decide +kernel
theorem dL_law_1216 : decode cL_law 1216 = .ok (.goto 427, 3) := by decide +kernel
set_option maxRecDepth 20000 in
theorem wl_limiting : GoodIn lw_tbl (va_wsS RL 153 yL_limiting wsW_limiting) := goodIn_app (fun w h => ⟨in_idx [604, 605, 47] (by decide +kernel) w h, good_of_word (List.all_eq_true.mp (show ([.methodLink RL 153 yL_limiting, .static yL_limiting, .initialized yL_limiting.cls] : List Cond).all goodWord = true from by decide +kernel) w h)⟩) (fun w h => (List.mem_cons.mp h).elim (fun q => q ▸ ⟨List.mem_of_getElem? (i := 606) (by decide +kernel), good_of_word rfl⟩) (fun q => lwG_self w q))
set_option maxRecDepth 100000 in
set_option maxHeartbeats 4000000 in
theorem cs_limiting {p : Program} {l : Launch} {e : Env} {s : State} {m : MethodId} {below : List Frame} {meth : Method} {c : Code} {bs L : Nat} {xs : Nat → Int32} {D : va_G} {cs : Nat → ClassId} {ad : Nat → Nat} {Q : State → Prop} {i cells slots : Nat} {Ls : Nat → SL} {Hs T M : SL} {dr hs o : Int64} {od : UInt64} {H : Heap} {locs : List Loc} {ls : Array Slot} (E : LX p l s m meth c bs L xs D cs ad) (hi : i + 6 ≤ L) (hc : cells + 3 ≤ room_1.cells ∧ slots + 18 ≤ room_1.slots) (hSS : SS Ls Hs T M) (hP : va_P D vwCl (wA cs ad Ls Hs T M dr hs o od) H) (hS : va_S (Afr ad s.heap.size) s.heap H locs) (hl : lv_has ls 9 (lvL bs ad (nI i))) (K : LK p l e s m bs below meth c D cs ad i cells slots Q) : W p l e room_1 s m #[.ref bs] below meth c H locs cells slots Q (F0 m 1175 ls []) := by
  obtain ⟨C, G, X, N, Y, sX, sL, sA, hL, hfl⟩ := E
  obtain ⟨bv, M', res, v, o', eM, eC, h4, hSS', hov, hu, hk⟩ := r0_out o (s_limiting hSS)
  refine lv_aload_n C.1 C.2.1 dL_law_1175 rfl (lv_at hl 1 rfl) ?_
  refine lv_aload_n C.1 C.2.1 dL_law_1176 rfl (lv_at hl 3 rfl) ?_
  have hM := m_L_limiting l hfl (D := D) (cs := cs) G.2.1 H.size (Ls := Ls) (Hs := Hs) (T := T) (M := M) (dr := dr) (hs := hs) (o := o) (od := od) eC (v := v) (w' := wA cs ad Ls Hs T M dr hs o' od) (fun u hu1 => by
    obtain ⟨a1, a4⟩ := hu u hu1
    exact ⟨a1, by rw [a4]⟩) (fun k hk1 => by
    obtain ⟨a4, q⟩ := hk k hk1
    exact ⟨by rw [a4], dk_2 q⟩)
  refine k_callSWi C G X N Y hP hS hM (vx_cwSW 2 C.2.2.2.2.2.1 wl_limiting rfl rfl rfl (by decide +kernel) ⟨Nat.le_of_ble_eq_true rfl, Nat.le_of_ble_eq_true rfl⟩) (As := [.ref (ad 0), .ref (ad 95)]) rfl hl.1 rfl (Nat.le_of_ble_eq_true rfl) dL_law_1177 ⟨by omega, by omega⟩ (fun H locs hP hS => ?_)
  refine lv_istore (lv' := [(6, .int v), (0, .ref bs), (1, .ref (ad 0)), (2, .ref (ad 89)), (3, .ref (ad 95)), (4, .ref (ad 96)), (5, .int (nI i))]) C.1 C.2.1 dL_law_1180 hl (by decide) rfl (fun ls hl => ?_)
  refine lv_aload_n C.1 C.2.1 dL_law_1182 rfl (lv_at hl 3 rfl) ?_
  refine k_callVi C G hP hS (m_X6_limiting l G.2.1 _ eM) r_obj rfl (cwV 0 C.2.2.2.2.2.1 (lwG_up wg_X6_limiting) rfl rfl rfl (by decide +kernel) ⟨Nat.le_of_ble_eq_true rfl, Nat.le_of_ble_eq_true rfl⟩) (As := []) rfl hl.1 rfl (Nat.le_of_ble_eq_true rfl) dL_law_1183 ⟨by omega, by omega⟩ (fun H locs hP hS => ?_)
  have hP : va_P D vwCl (wA cs ad Ls Hs T M' dr hs o' od) H := hP
  refine lv_istore (lv' := [(7, .int bv), (6, .int v), (0, .ref bs), (1, .ref (ad 0)), (2, .ref (ad 89)), (3, .ref (ad 95)), (4, .ref (ad 96)), (5, .int (nI i))]) C.1 C.2.1 dL_law_1186 hl (by decide) rfl (fun ls hl => ?_)
  refine lv_aload_n C.1 C.2.1 dL_law_1188 rfl (lv_at hl 4 rfl) ?_
  refine k_callVi C G hP hS (m_X6_thrown l G.2.1 _ (show f_X6_thrown M' = some v by rw [← h4]; rfl)) r_obj rfl (cwV 0 C.2.2.2.2.2.1 (lwG_up wg_X6_thrown) rfl rfl rfl (by decide +kernel) ⟨Nat.le_of_ble_eq_true rfl, Nat.le_of_ble_eq_true rfl⟩) (As := []) rfl hl.1 rfl (Nat.le_of_ble_eq_true rfl) dL_law_1189 ⟨by omega, by omega⟩ (fun H locs hP hS => ?_)
  refine lv_iload C.1 C.2.1 dL_law_1192 (lv_at hl 1 rfl) ?_
  refine lv_icmp_eq (tgt := 1199) C.1 C.2.1 dL_law_1194 (by decide) (fun _ => ?_) (fun z => absurd rfl z)
  refine lv_iload C.1 C.2.1 dL_law_1199 (lv_at hl 1 rfl) ?_
  have hSS := hSS'
  refine lv_if_ne (tgt := 1216) C.1 C.2.1 dL_law_1201 (by decide) (fun _ => ?_) (fun z => ?_)
  · refine lv_goto (tgt := 1643) C.1 C.2.1 dL_law_1216 (by decide) ?_
    refine W.widen (k := cells + 3) (n := slots + 18) (by omega) (by omega) ?_
    exact K _ _ _ _ _ _ _ _ _ _ _ hSS hP hS (lv_sub hl [2, 3, 4, 5, 6, 7] rfl)
  · refine lv_aload_n C.1 C.2.1 dL_law_1204 rfl (lv_at hl 5 rfl) ?_
    refine lv_iconst (v := 0) C.1 C.2.1 dL_law_1205 (by decide) ?_
    refine k_laldO C G hP dL_law_1206 ?_
    refine lv_iload C.1 C.2.1 dL_law_1207 (lv_at hl 0 rfl) ?_
    refine k_i2l C (hov z) dL_law_1209 ?_
    refine W.lcmp C.1 C.2.1 dL_law_1210 ?_
    refine lv_if_eq (tgt := 1216) C.1 C.2.1 dL_law_1211 (by decide) (fun _ => ?_) (fun q => absurd (lg_self _) q)
    refine lv_goto (tgt := 1643) C.1 C.2.1 dL_law_1216 (by decide) ?_
    refine W.widen (k := cells + 3) (n := slots + 18) (by omega) (by omega) ?_
    exact K _ _ _ _ _ _ _ _ _ _ _ hSS hP hS (lv_sub hl [2, 3, 4, 5, 6, 7] rfl)
theorem dL_law_1219 : decode cL_law 1219 = .ok (.aload_n 1, 1) := by decide +kernel
theorem dL_law_1220 : decode cL_law 1220 = .ok (.aload_n 0, 1) := by decide +kernel
theorem dL_law_1221 : decode cL_law 1221 = .ok (.iload 5, 2) := by decide +kernel
theorem dL_law_1223 : decode cL_law 1223 = .ok (.iconst 1, 1) := by decide +kernel
theorem dL_law_1224 : decode cL_law 1224 = .ok (.iadd, 1) := by decide +kernel
theorem dL_law_1225 : decode cL_law 1225 = .ok (.iaload, 1) := by decide +kernel
theorem dL_law_1226 : decode cL_law 1226 = .ok (.aload_n 3, 1) := by decide +kernel
theorem dL_law_1227 : decode cL_law 1227 = .ok (.invokestatic 157, 3) := by decide +kernel
theorem dL_law_1230 : decode cL_law 1230 = .ok (.istore 6, 2) := by decide +kernel
theorem dL_law_1232 : decode cL_law 1232 = .ok (.aload_n 2, 1) := by decide +kernel
theorem dL_law_1233 : decode cL_law 1233 = .ok (.aload_n 0, 1) := by decide +kernel
theorem dL_law_1234 : decode cL_law 1234 = .ok (.iload 5, 2) := by decide +kernel
theorem dL_law_1236 : decode cL_law 1236 = .ok (.iconst 1, 1) := by decide +kernel
theorem dL_law_1237 : decode cL_law 1237 = .ok (.iadd, 1) := by decide +kernel
theorem dL_law_1238 : decode cL_law 1238 = .ok (.iaload, 1) := by decide +kernel
theorem dL_law_1239 : decode cL_law 1239 = .ok (.invokevirtual 159, 3) := by decide +kernel
theorem dL_law_1242 : decode cL_law 1242 = .ok (.istore 7, 2) := by decide +kernel
theorem dL_law_1244 : decode cL_law 1244 = .ok (.aload_n 2, 1) := by decide +kernel
theorem dL_law_1245 : decode cL_law 1245 = .ok (.invokevirtual 88, 3) := by decide +kernel
theorem dL_law_1248 : decode cL_law 1248 = .ok (.iload 6, 2) := by decide +kernel
theorem dL_law_1250 : decode cL_law 1250 = .ok (.if_icmp .eq 5, 3) := by decide +kernel
theorem dL_law_1253 : decode cL_law 1253 = .ok (.iconst 0, 1) := by decide +kernel
theorem dL_law_1254 : decode cL_law 1254 = .ok (.ireturn, 1) := by decide +kernel
theorem dL_law_1255 : decode cL_law 1255 = .ok (.iload 6, 2) := by decide +kernel
theorem dL_law_1257 : decode cL_law 1257 = .ok (.ifCond .ne 15, 3) := by decide +kernel
theorem dL_law_1260 : decode cL_law 1260 = .ok (.aload_n 3, 1) := by decide +kernel
theorem dL_law_1261 : decode cL_law 1261 = .ok (.iconst 0, 1) := by decide +kernel
theorem dL_law_1262 : decode cL_law 1262 = .ok (.laload, 1) := by decide +kernel
theorem dL_law_1263 : decode cL_law 1263 = .ok (.iload 7, 2) := by decide +kernel
theorem dL_law_1265 : decode cL_law 1265 = .ok (.i2l, 1) := by decide +kernel
theorem dL_law_1266 : decode cL_law 1266 = .ok (.lcmp, 1) := by decide +kernel
theorem dL_law_1267 : decode cL_law 1267 = .ok (.ifCond .eq 5, 3) := by decide +kernel
theorem dL_law_1270 : decode cL_law 1270 = .ok (.iconst 0, 1) := by decide +kernel
theorem dL_law_1271 : decode cL_law 1271 = .ok (.ireturn, 1) := by decide +kernel
theorem dL_law_1272 : decode cL_law 1272 = .ok (.goto 371, 3) := by decide +kernel
set_option maxRecDepth 20000 in
theorem wl_slowest : GoodIn lw_tbl (va_wsS RL 157 yL_slowest wsW_slowest) := goodIn_app (fun w h => ⟨in_idx [615, 616, 47] (by decide +kernel) w h, good_of_word (List.all_eq_true.mp (show ([.methodLink RL 157 yL_slowest, .static yL_slowest, .initialized yL_slowest.cls] : List Cond).all goodWord = true from by decide +kernel) w h)⟩) (fun w h => (List.mem_cons.mp h).elim (fun q => q ▸ ⟨List.mem_of_getElem? (i := 617) (by decide +kernel), good_of_word rfl⟩) (fun q => lwG_self w q))
set_option maxRecDepth 100000 in
set_option maxHeartbeats 4000000 in
theorem cs_slowest {p : Program} {l : Launch} {e : Env} {s : State} {m : MethodId} {below : List Frame} {meth : Method} {c : Code} {bs L : Nat} {xs : Nat → Int32} {D : va_G} {cs : Nat → ClassId} {ad : Nat → Nat} {Q : State → Prop} {i cells slots : Nat} {Ls : Nat → SL} {Hs T M : SL} {dr hs o : Int64} {od : UInt64} {H : Heap} {locs : List Loc} {ls : Array Slot} (E : LX p l s m meth c bs L xs D cs ad) (hi : i + 6 ≤ L) (hc : cells + 3 ≤ room_1.cells ∧ slots + 18 ≤ room_1.slots) (hSS : SS Ls Hs T M) (hP : va_P D vwCl (wA cs ad Ls Hs T M dr hs o od) H) (hS : va_S (Afr ad s.heap.size) s.heap H locs) (hl : lv_has ls 9 (lvL bs ad (nI i))) (K : LK p l e s m bs below meth c D cs ad i cells slots Q) : W p l e room_1 s m #[.ref bs] below meth c H locs cells slots Q (F0 m 1219 ls []) := by
  obtain ⟨C, G, X, N, Y, sX, sL, sA, hL, hfl⟩ := E
  obtain ⟨bv, M', res, v, Ls', o', eM, eC, h4, hSS', hov, hu, hk⟩ := rq_out o (s_slowest hSS (xs (i + 1)))
  refine lv_aload_n C.1 C.2.1 dL_law_1219 rfl (lv_at hl 1 rfl) ?_
  refine lv_aload_n C.1 C.2.1 dL_law_1220 rfl (lv_at hl 0 rfl) ?_
  refine lv_iload C.1 C.2.1 dL_law_1221 (lv_at hl 5 rfl) ?_
  refine lv_iconst (v := 1) C.1 C.2.1 dL_law_1223 (by decide) ?_
  refine k_iadd C (np1 i) dL_law_1224 ?_
  refine k_sld C sX sL sA hL hS (show i + 1 < L by omega) dL_law_1225 ?_
  refine lv_aload_n C.1 C.2.1 dL_law_1226 rfl (lv_at hl 3 rfl) ?_
  have hM := m_L_slowest l hfl (D := D) (cs := cs) G.2.1 H.size (Ls := Ls) (Hs := Hs) (T := T) (M := M) (dr := dr) (hs := hs) (o := o) (od := od) eC (v := v) (w' := wA cs ad Ls' Hs T M dr hs o' od) (fun u hu1 => by
    obtain ⟨a1, a2, a4⟩ := hu u hu1
    exact ⟨a1, by rw [a2, a4]⟩) (fun k hk1 => by
    obtain ⟨⟨a2, a4⟩, q⟩ := hk k hk1
    exact ⟨by rw [a2, a4], dk_id q⟩)
  refine k_callSWi C G X N Y hP hS hM (vx_cwSW 3 C.2.2.2.2.2.1 wl_slowest rfl rfl rfl (by decide +kernel) ⟨Nat.le_of_ble_eq_true rfl, Nat.le_of_ble_eq_true rfl⟩) (As := [.ref (ad 0), .int (xs (i + 1)), .ref (ad 95)]) rfl hl.1 rfl (Nat.le_of_ble_eq_true rfl) dL_law_1227 ⟨by omega, by omega⟩ (fun H locs hP hS => ?_)
  refine lv_istore (lv' := [(6, .int v), (0, .ref bs), (1, .ref (ad 0)), (2, .ref (ad 89)), (3, .ref (ad 95)), (4, .ref (ad 96)), (5, .int (nI i))]) C.1 C.2.1 dL_law_1230 hl (by decide) rfl (fun ls hl => ?_)
  refine lv_aload_n C.1 C.2.1 dL_law_1232 rfl (lv_at hl 3 rfl) ?_
  refine lv_aload_n C.1 C.2.1 dL_law_1233 rfl (lv_at hl 1 rfl) ?_
  refine lv_iload C.1 C.2.1 dL_law_1234 (lv_at hl 6 rfl) ?_
  refine lv_iconst (v := 1) C.1 C.2.1 dL_law_1236 (by decide) ?_
  refine k_iadd C (np1 i) dL_law_1237 ?_
  refine k_sld C sX sL sA hL hS (show i + 1 < L by omega) dL_law_1238 ?_
  refine k_callVi C G hP hS (m_X6_slowest l G.2.1 _ eM) r_obj rfl (cwV 1 C.2.2.2.2.2.1 (lwG_up wg_X6_slowest) rfl rfl rfl (by decide +kernel) ⟨Nat.le_of_ble_eq_true rfl, Nat.le_of_ble_eq_true rfl⟩) (As := [.int (xs (i + 1))]) rfl hl.1 rfl (Nat.le_of_ble_eq_true rfl) dL_law_1239 ⟨by omega, by omega⟩ (fun H locs hP hS => ?_)
  have hP : va_P D vwCl (wA cs ad Ls' Hs T M' dr hs o' od) H := hP
  refine lv_istore (lv' := [(7, .int bv), (6, .int v), (0, .ref bs), (1, .ref (ad 0)), (2, .ref (ad 89)), (3, .ref (ad 95)), (4, .ref (ad 96)), (5, .int (nI i))]) C.1 C.2.1 dL_law_1242 hl (by decide) rfl (fun ls hl => ?_)
  refine lv_aload_n C.1 C.2.1 dL_law_1244 rfl (lv_at hl 4 rfl) ?_
  refine k_callVi C G hP hS (m_X6_thrown l G.2.1 _ (show f_X6_thrown M' = some v by rw [← h4]; rfl)) r_obj rfl (cwV 0 C.2.2.2.2.2.1 (lwG_up wg_X6_thrown) rfl rfl rfl (by decide +kernel) ⟨Nat.le_of_ble_eq_true rfl, Nat.le_of_ble_eq_true rfl⟩) (As := []) rfl hl.1 rfl (Nat.le_of_ble_eq_true rfl) dL_law_1245 ⟨by omega, by omega⟩ (fun H locs hP hS => ?_)
  refine lv_iload C.1 C.2.1 dL_law_1248 (lv_at hl 1 rfl) ?_
  refine lv_icmp_eq (tgt := 1255) C.1 C.2.1 dL_law_1250 (by decide) (fun _ => ?_) (fun z => absurd rfl z)
  refine lv_iload C.1 C.2.1 dL_law_1255 (lv_at hl 1 rfl) ?_
  have hSS := hSS'
  refine lv_if_ne (tgt := 1272) C.1 C.2.1 dL_law_1257 (by decide) (fun _ => ?_) (fun z => ?_)
  · refine lv_goto (tgt := 1643) C.1 C.2.1 dL_law_1272 (by decide) ?_
    refine W.widen (k := cells + 3) (n := slots + 18) (by omega) (by omega) ?_
    exact K _ _ _ _ _ _ _ _ _ _ _ hSS hP hS (lv_sub hl [2, 3, 4, 5, 6, 7] rfl)
  · refine lv_aload_n C.1 C.2.1 dL_law_1260 rfl (lv_at hl 5 rfl) ?_
    refine lv_iconst (v := 0) C.1 C.2.1 dL_law_1261 (by decide) ?_
    refine k_laldO C G hP dL_law_1262 ?_
    refine lv_iload C.1 C.2.1 dL_law_1263 (lv_at hl 0 rfl) ?_
    refine k_i2l C (hov z) dL_law_1265 ?_
    refine W.lcmp C.1 C.2.1 dL_law_1266 ?_
    refine lv_if_eq (tgt := 1272) C.1 C.2.1 dL_law_1267 (by decide) (fun _ => ?_) (fun q => absurd (lg_self _) q)
    refine lv_goto (tgt := 1643) C.1 C.2.1 dL_law_1272 (by decide) ?_
    refine W.widen (k := cells + 3) (n := slots + 18) (by omega) (by omega) ?_
    exact K _ _ _ _ _ _ _ _ _ _ _ hSS hP hS (lv_sub hl [2, 3, 4, 5, 6, 7] rfl)
theorem dL_law_1275 : decode cL_law 1275 = .ok (.aload_n 1, 1) := by decide +kernel
theorem dL_law_1276 : decode cL_law 1276 = .ok (.aload_n 0, 1) := by decide +kernel
theorem dL_law_1277 : decode cL_law 1277 = .ok (.iload 5, 2) := by decide +kernel
theorem dL_law_1279 : decode cL_law 1279 = .ok (.iconst 1, 1) := by decide +kernel
theorem dL_law_1280 : decode cL_law 1280 = .ok (.iadd, 1) := by decide +kernel
theorem dL_law_1281 : decode cL_law 1281 = .ok (.iaload, 1) := by decide +kernel
theorem dL_law_1282 : decode cL_law 1282 = .ok (.aload_n 0, 1) := by decide +kernel
theorem dL_law_1283 : decode cL_law 1283 = .ok (.iload 5, 2) := by decide +kernel
theorem dL_law_1285 : decode cL_law 1285 = .ok (.iconst 2, 1) := by decide +kernel
theorem dL_law_1286 : decode cL_law 1286 = .ok (.iadd, 1) := by decide +kernel
theorem dL_law_1287 : decode cL_law 1287 = .ok (.iaload, 1) := by decide +kernel
theorem dL_law_1288 : decode cL_law 1288 = .ok (.aload_n 0, 1) := by decide +kernel
theorem dL_law_1289 : decode cL_law 1289 = .ok (.iload 5, 2) := by decide +kernel
theorem dL_law_1291 : decode cL_law 1291 = .ok (.iconst 3, 1) := by decide +kernel
theorem dL_law_1292 : decode cL_law 1292 = .ok (.iadd, 1) := by decide +kernel
theorem dL_law_1293 : decode cL_law 1293 = .ok (.iaload, 1) := by decide +kernel
theorem dL_law_1294 : decode cL_law 1294 = .ok (.aload_n 3, 1) := by decide +kernel
theorem dL_law_1295 : decode cL_law 1295 = .ok (.invokestatic 160, 3) := by decide +kernel
theorem dL_law_1298 : decode cL_law 1298 = .ok (.istore 6, 2) := by decide +kernel
theorem dL_law_1300 : decode cL_law 1300 = .ok (.aload_n 2, 1) := by decide +kernel
theorem dL_law_1301 : decode cL_law 1301 = .ok (.aload_n 0, 1) := by decide +kernel
theorem dL_law_1302 : decode cL_law 1302 = .ok (.iload 5, 2) := by decide +kernel
theorem dL_law_1304 : decode cL_law 1304 = .ok (.iconst 1, 1) := by decide +kernel
theorem dL_law_1305 : decode cL_law 1305 = .ok (.iadd, 1) := by decide +kernel
theorem dL_law_1306 : decode cL_law 1306 = .ok (.iaload, 1) := by decide +kernel
theorem dL_law_1307 : decode cL_law 1307 = .ok (.aload_n 0, 1) := by decide +kernel
theorem dL_law_1308 : decode cL_law 1308 = .ok (.iload 5, 2) := by decide +kernel
theorem dL_law_1310 : decode cL_law 1310 = .ok (.iconst 2, 1) := by decide +kernel
theorem dL_law_1311 : decode cL_law 1311 = .ok (.iadd, 1) := by decide +kernel
theorem dL_law_1312 : decode cL_law 1312 = .ok (.iaload, 1) := by decide +kernel
theorem dL_law_1313 : decode cL_law 1313 = .ok (.aload_n 0, 1) := by decide +kernel
theorem dL_law_1314 : decode cL_law 1314 = .ok (.iload 5, 2) := by decide +kernel
theorem dL_law_1316 : decode cL_law 1316 = .ok (.iconst 3, 1) := by decide +kernel
theorem dL_law_1317 : decode cL_law 1317 = .ok (.iadd, 1) := by decide +kernel
theorem dL_law_1318 : decode cL_law 1318 = .ok (.iaload, 1) := by decide +kernel
theorem dL_law_1319 : decode cL_law 1319 = .ok (.invokevirtual 162, 3) := by decide +kernel
theorem dL_law_1322 : decode cL_law 1322 = .ok (.istore 7, 2) := by decide +kernel
theorem dL_law_1324 : decode cL_law 1324 = .ok (.aload_n 2, 1) := by decide +kernel
theorem dL_law_1325 : decode cL_law 1325 = .ok (.invokevirtual 88, 3) := by decide +kernel
theorem dL_law_1328 : decode cL_law 1328 = .ok (.iload 6, 2) := by decide +kernel
theorem dL_law_1330 : decode cL_law 1330 = .ok (.if_icmp .eq 5, 3) := by decide +kernel
theorem dL_law_1333 : decode cL_law 1333 = .ok (.iconst 0, 1) := by decide +kernel
theorem dL_law_1334 : decode cL_law 1334 = .ok (.ireturn, 1) := by decide +kernel
theorem dL_law_1335 : decode cL_law 1335 = .ok (.iload 6, 2) := by decide +kernel
theorem dL_law_1337 : decode cL_law 1337 = .ok (.ifCond .ne 15, 3) := by decide +kernel
theorem dL_law_1340 : decode cL_law 1340 = .ok (.aload_n 3, 1) := by decide +kernel
theorem dL_law_1341 : decode cL_law 1341 = .ok (.iconst 0, 1) := by decide +kernel
theorem dL_law_1342 : decode cL_law 1342 = .ok (.laload, 1) := by decide +kernel
theorem dL_law_1343 : decode cL_law 1343 = .ok (.iload 7, 2) := by decide +kernel
theorem dL_law_1345 : decode cL_law 1345 = .ok (.i2l, 1) := by decide +kernel
theorem dL_law_1346 : decode cL_law 1346 = .ok (.lcmp, 1) := by decide +kernel
theorem dL_law_1347 : decode cL_law 1347 = .ok (.ifCond .eq 5, 3) := by decide +kernel
theorem dL_law_1350 : decode cL_law 1350 = .ok (.iconst 0, 1) := by decide +kernel
theorem dL_law_1351 : decode cL_law 1351 = .ok (.ireturn, 1) := by decide +kernel
theorem dL_law_1352 : decode cL_law 1352 = .ok (.goto 291, 3) := by decide +kernel
set_option maxRecDepth 20000 in
theorem wl_outputWith : GoodIn lw_tbl (va_wsS RL 160 yL_outputWith wsW_outputWith) := goodIn_app (fun w h => ⟨in_idx [622, 623, 47] (by decide +kernel) w h, good_of_word (List.all_eq_true.mp (show ([.methodLink RL 160 yL_outputWith, .static yL_outputWith, .initialized yL_outputWith.cls] : List Cond).all goodWord = true from by decide +kernel) w h)⟩) (fun w h => (List.mem_cons.mp h).elim (fun q => q ▸ ⟨List.mem_of_getElem? (i := 624) (by decide +kernel), good_of_word rfl⟩) (fun q => lwG_self w q))
set_option maxRecDepth 100000 in
set_option maxHeartbeats 4000000 in
theorem cs_outputWith {p : Program} {l : Launch} {e : Env} {s : State} {m : MethodId} {below : List Frame} {meth : Method} {c : Code} {bs L : Nat} {xs : Nat → Int32} {D : va_G} {cs : Nat → ClassId} {ad : Nat → Nat} {Q : State → Prop} {i cells slots : Nat} {Ls : Nat → SL} {Hs T M : SL} {dr hs o : Int64} {od : UInt64} {H : Heap} {locs : List Loc} {ls : Array Slot} (E : LX p l s m meth c bs L xs D cs ad) (hi : i + 6 ≤ L) (hc : cells + 3 ≤ room_1.cells ∧ slots + 18 ≤ room_1.slots) (hSS : SS Ls Hs T M) (hP : va_P D vwCl (wA cs ad Ls Hs T M dr hs o od) H) (hS : va_S (Afr ad s.heap.size) s.heap H locs) (hl : lv_has ls 9 (lvL bs ad (nI i))) (K : LK p l e s m bs below meth c D cs ad i cells slots Q) : W p l e room_1 s m #[.ref bs] below meth c H locs cells slots Q (F0 m 1275 ls []) := by
  obtain ⟨C, G, X, N, Y, sX, sL, sA, hL, hfl⟩ := E
  obtain ⟨bv, M', res, v, Ls', o', eM, eC, h4, hSS', hov, hu, hk⟩ := rq_out o (s_outputWith hSS (xs (i + 1)) (xs (i + 2)) (xs (i + 3)))
  refine lv_aload_n C.1 C.2.1 dL_law_1275 rfl (lv_at hl 1 rfl) ?_
  refine lv_aload_n C.1 C.2.1 dL_law_1276 rfl (lv_at hl 0 rfl) ?_
  refine lv_iload C.1 C.2.1 dL_law_1277 (lv_at hl 5 rfl) ?_
  refine lv_iconst (v := 1) C.1 C.2.1 dL_law_1279 (by decide) ?_
  refine k_iadd C (np1 i) dL_law_1280 ?_
  refine k_sld C sX sL sA hL hS (show i + 1 < L by omega) dL_law_1281 ?_
  refine lv_aload_n C.1 C.2.1 dL_law_1282 rfl (lv_at hl 0 rfl) ?_
  refine lv_iload C.1 C.2.1 dL_law_1283 (lv_at hl 5 rfl) ?_
  refine lv_iconst (v := 2) C.1 C.2.1 dL_law_1285 (by decide) ?_
  refine k_iadd C (np2 i) dL_law_1286 ?_
  refine k_sld C sX sL sA hL hS (show i + 2 < L by omega) dL_law_1287 ?_
  refine lv_aload_n C.1 C.2.1 dL_law_1288 rfl (lv_at hl 0 rfl) ?_
  refine lv_iload C.1 C.2.1 dL_law_1289 (lv_at hl 5 rfl) ?_
  refine lv_iconst (v := 3) C.1 C.2.1 dL_law_1291 (by decide) ?_
  refine k_iadd C (np3 i) dL_law_1292 ?_
  refine k_sld C sX sL sA hL hS (show i + 3 < L by omega) dL_law_1293 ?_
  refine lv_aload_n C.1 C.2.1 dL_law_1294 rfl (lv_at hl 3 rfl) ?_
  have hM := m_L_outputWith l hfl (D := D) (cs := cs) G.2.1 H.size (Ls := Ls) (Hs := Hs) (T := T) (M := M) (dr := dr) (hs := hs) (o := o) (od := od) eC (v := v) (w' := wA cs ad Ls' Hs T M dr hs o' od) (fun u hu1 => by
    obtain ⟨a1, a2, a4⟩ := hu u hu1
    exact ⟨a1, by rw [a2, a4]⟩) (fun k hk1 => by
    obtain ⟨⟨a2, a4⟩, q⟩ := hk k hk1
    exact ⟨by rw [a2, a4], dk_B q⟩)
  refine k_callSWi C G X N Y hP hS hM (vx_cwSW 5 C.2.2.2.2.2.1 wl_outputWith rfl rfl rfl (by decide +kernel) ⟨Nat.le_of_ble_eq_true rfl, Nat.le_of_ble_eq_true rfl⟩) (As := [.ref (ad 0), .int (xs (i + 1)), .int (xs (i + 2)), .int (xs (i + 3)), .ref (ad 95)]) rfl hl.1 rfl (Nat.le_of_ble_eq_true rfl) dL_law_1295 ⟨by omega, by omega⟩ (fun H locs hP hS => ?_)
  refine lv_istore (lv' := [(6, .int v), (0, .ref bs), (1, .ref (ad 0)), (2, .ref (ad 89)), (3, .ref (ad 95)), (4, .ref (ad 96)), (5, .int (nI i))]) C.1 C.2.1 dL_law_1298 hl (by decide) rfl (fun ls hl => ?_)
  refine lv_aload_n C.1 C.2.1 dL_law_1300 rfl (lv_at hl 3 rfl) ?_
  refine lv_aload_n C.1 C.2.1 dL_law_1301 rfl (lv_at hl 1 rfl) ?_
  refine lv_iload C.1 C.2.1 dL_law_1302 (lv_at hl 6 rfl) ?_
  refine lv_iconst (v := 1) C.1 C.2.1 dL_law_1304 (by decide) ?_
  refine k_iadd C (np1 i) dL_law_1305 ?_
  refine k_sld C sX sL sA hL hS (show i + 1 < L by omega) dL_law_1306 ?_
  refine lv_aload_n C.1 C.2.1 dL_law_1307 rfl (lv_at hl 1 rfl) ?_
  refine lv_iload C.1 C.2.1 dL_law_1308 (lv_at hl 6 rfl) ?_
  refine lv_iconst (v := 2) C.1 C.2.1 dL_law_1310 (by decide) ?_
  refine k_iadd C (np2 i) dL_law_1311 ?_
  refine k_sld C sX sL sA hL hS (show i + 2 < L by omega) dL_law_1312 ?_
  refine lv_aload_n C.1 C.2.1 dL_law_1313 rfl (lv_at hl 1 rfl) ?_
  refine lv_iload C.1 C.2.1 dL_law_1314 (lv_at hl 6 rfl) ?_
  refine lv_iconst (v := 3) C.1 C.2.1 dL_law_1316 (by decide) ?_
  refine k_iadd C (np3 i) dL_law_1317 ?_
  refine k_sld C sX sL sA hL hS (show i + 3 < L by omega) dL_law_1318 ?_
  refine k_callVi C G hP hS (m_X6_outputWith l G.2.1 _ eM) r_obj rfl (cwV 3 C.2.2.2.2.2.1 (lwG_up wg_X6_outputWith) rfl rfl rfl (by decide +kernel) ⟨Nat.le_of_ble_eq_true rfl, Nat.le_of_ble_eq_true rfl⟩) (As := [.int (xs (i + 1)), .int (xs (i + 2)), .int (xs (i + 3))]) rfl hl.1 rfl (Nat.le_of_ble_eq_true rfl) dL_law_1319 ⟨by omega, by omega⟩ (fun H locs hP hS => ?_)
  have hP : va_P D vwCl (wA cs ad Ls' Hs T M' dr hs o' od) H := hP
  refine lv_istore (lv' := [(7, .int bv), (6, .int v), (0, .ref bs), (1, .ref (ad 0)), (2, .ref (ad 89)), (3, .ref (ad 95)), (4, .ref (ad 96)), (5, .int (nI i))]) C.1 C.2.1 dL_law_1322 hl (by decide) rfl (fun ls hl => ?_)
  refine lv_aload_n C.1 C.2.1 dL_law_1324 rfl (lv_at hl 4 rfl) ?_
  refine k_callVi C G hP hS (m_X6_thrown l G.2.1 _ (show f_X6_thrown M' = some v by rw [← h4]; rfl)) r_obj rfl (cwV 0 C.2.2.2.2.2.1 (lwG_up wg_X6_thrown) rfl rfl rfl (by decide +kernel) ⟨Nat.le_of_ble_eq_true rfl, Nat.le_of_ble_eq_true rfl⟩) (As := []) rfl hl.1 rfl (Nat.le_of_ble_eq_true rfl) dL_law_1325 ⟨by omega, by omega⟩ (fun H locs hP hS => ?_)
  refine lv_iload C.1 C.2.1 dL_law_1328 (lv_at hl 1 rfl) ?_
  refine lv_icmp_eq (tgt := 1335) C.1 C.2.1 dL_law_1330 (by decide) (fun _ => ?_) (fun z => absurd rfl z)
  refine lv_iload C.1 C.2.1 dL_law_1335 (lv_at hl 1 rfl) ?_
  have hSS := hSS'
  refine lv_if_ne (tgt := 1352) C.1 C.2.1 dL_law_1337 (by decide) (fun _ => ?_) (fun z => ?_)
  · refine lv_goto (tgt := 1643) C.1 C.2.1 dL_law_1352 (by decide) ?_
    refine W.widen (k := cells + 3) (n := slots + 18) (by omega) (by omega) ?_
    exact K _ _ _ _ _ _ _ _ _ _ _ hSS hP hS (lv_sub hl [2, 3, 4, 5, 6, 7] rfl)
  · refine lv_aload_n C.1 C.2.1 dL_law_1340 rfl (lv_at hl 5 rfl) ?_
    refine lv_iconst (v := 0) C.1 C.2.1 dL_law_1341 (by decide) ?_
    refine k_laldO C G hP dL_law_1342 ?_
    refine lv_iload C.1 C.2.1 dL_law_1343 (lv_at hl 0 rfl) ?_
    refine k_i2l C (hov z) dL_law_1345 ?_
    refine W.lcmp C.1 C.2.1 dL_law_1346 ?_
    refine lv_if_eq (tgt := 1352) C.1 C.2.1 dL_law_1347 (by decide) (fun _ => ?_) (fun q => absurd (lg_self _) q)
    refine lv_goto (tgt := 1643) C.1 C.2.1 dL_law_1352 (by decide) ?_
    refine W.widen (k := cells + 3) (n := slots + 18) (by omega) (by omega) ?_
    exact K _ _ _ _ _ _ _ _ _ _ _ hSS hP hS (lv_sub hl [2, 3, 4, 5, 6, 7] rfl)
