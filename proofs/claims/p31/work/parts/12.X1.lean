section GEN
variable {p : Program} {l : Launch} {e : Env} {s : State} {m : MethodId} {args : Array Value} {below : List Frame} {meth : Method} {c : Code} {D : va_G} {cs : Nat → ClassId} {ad : Nat → Nat}
/-! X1 keep -/
abbrev rmX1_keep : Room := { frames := 3, cells := 0, slots := 0, locals := 92 }
theorem q_X1_keep_0 : Cond.fieldLink RX1 18 "LineBuffers$History" "newest" "I" ∈ wsX1_keep := List.mem_of_getElem? (i := 1) rfl
theorem q_X1_keep_1 : Cond.fieldLink RX1 11 "LineBuffers$History" "places" "[LLineBuffers$Line;" ∈ wsX1_keep := List.mem_of_getElem? (i := 2) rfl
theorem q_X1_keep_2 : Cond.fieldLink RX1 26 "LineBuffers$History" "saved" "I" ∈ wsX1_keep := List.mem_of_getElem? (i := 3) rfl
theorem n_X1_keep_X1 : ∀ x ∈ u_ws RX1 TX1 3, x ∈ wsX1_keep := fun x h => List.mem_cons_of_mem _ (List.mem_append_left _ (List.mem_append_left _ (List.mem_append_right _ h)))
set_option maxRecDepth 100000 in
set_option maxHeartbeats 4000000 in
theorem w_X1_keep_e {res : (Nat → SL) × SL} (C : Cx p s m args meth c cX1_keep 2 none RX1 wsX1_keep) (G : Gx D cs ad s) {i : Nat} (hi : i < 6) {T : SL} {Ls : Nat → SL} {Hs : SL} {H : Heap} {locs : List Loc} {ls : Array Slot} (hP : va_P D vwCl (wA cs ad Ls Hs T) H) (hS : va_S (Afr ad s.heap.size) s.heap H locs) (hl : lv_has ls 2 [(0, .ref (ad 1)), (1, .ref (ad (5 + 14 * i + 0)))]) (h : f_X1_keep i Ls Hs = some res) : W p l e rmX1_keep s m args below meth c H locs 0 0 (MQ below (va_Qv (fun (_ : Unit) => True) (fun _ t => va_P D vwCl (wA cs ad res.1 res.2 T) t.heap) (Afr ad s.heap.size)) args s 0 0 (Afr ad s.heap.size)) (F0 m 0 ls []) := by
  unfold f_X1_keep at h
  refine lv_aload_n C.1 C.2.1 dX1_keep_0 rfl (lv_at hl 0 rfl) ?_
  refine lv_aload_n C.1 C.2.1 dX1_keep_1 rfl (lv_at hl 0 rfl) ?_
  obtain ⟨v1, ev1, h⟩ := lt_out h
  refine k_geti C G hP g_his rfl 1 (by decide) n_X1_keep_X1 q_X1_keep_0 rfl ev1 dX1_keep_2 ?_
  refine lv_iconst (v := 1) C.1 C.2.1 dX1_keep_5 (by decide) ?_
  obtain ⟨v2, ev2, h⟩ := lt_out h
  refine k_iadd C ev2 dX1_keep_6 ?_
  refine lv_iconst (v := 4) C.1 C.2.1 dX1_keep_7 (by decide) ?_
  obtain ⟨v3, ev3, h⟩ := lt_out h
  refine k_irem C (by decide) ev3 dX1_keep_8 ?_
  obtain ⟨Hs4, eHs4, h⟩ := lt_out h
  refine k_puti C G hP hS g_his rfl 1 (by decide) n_X1_keep_X1 q_X1_keep_0 tyX1_ok nmX1 rfl (tyX1_ok 1 (by decide)) (Nat.le_of_ble_eq_true rfl) g_hisS1 dX1_keep_9 (fun H locs hP hS => ?_)
  rw [← eHs4] at hP
  refine lv_aload_n C.1 C.2.1 dX1_keep_12 rfl (lv_at hl 1 rfl) ?_
  refine lv_aload_n C.1 C.2.1 dX1_keep_13 rfl (lv_at hl 0 rfl) ?_
  refine k_getf C G hP g_his rfl 0 (by decide) n_X1_keep_X1 q_X1_keep_1 (v := .ref (ad 2)) rfl dX1_keep_14 ?_
  refine lv_aload_n C.1 C.2.1 dX1_keep_17 rfl (lv_at hl 0 rfl) ?_
  obtain ⟨v5, ev5, h⟩ := lt_out h
  refine k_geti C G hP g_his rfl 1 (by decide) n_X1_keep_X1 q_X1_keep_0 rfl ev5 dX1_keep_18 ?_
  obtain ⟨g6, h⟩ := gd_out h
  have g6 := chk_in g6
  obtain ⟨jq7, ejq7, h⟩ := lt_out h
  have hjq7 : jq7 < 6 := pla_j g6 ejq7
  refine k_aaldL C G hP g_pla g6 (b := ad (5 + 14 * jq7 + 0)) (by rw [ejq7]) dX1_keep_21 ?_
  obtain ⟨Ls8, c9, h⟩ := bd_out h
  refine k_callSv C G hP hS (m_X2_copy l G.2.1 _ (i := i) (j := jq7) hi hjq7 c9) (va_cwS 2 C.2.2.2.2.2.1 gX1_keep_X2_copy rfl rfl rfl (by decide +kernel) ⟨Nat.le_of_ble_eq_true rfl, Nat.le_of_ble_eq_true rfl⟩) (As := [.ref (ad (5 + 14 * i + 0)), .ref (ad (5 + 14 * jq7 + 0))]) rfl hl.1 rfl (Nat.le_of_ble_eq_true rfl) dX1_keep_22 ⟨Nat.le_of_ble_eq_true rfl, Nat.le_of_ble_eq_true rfl⟩ (fun H locs hP hS => ?_)
  refine lv_aload_n C.1 C.2.1 dX1_keep_25 rfl (lv_at hl 0 rfl) ?_
  obtain ⟨v10, ev10, h⟩ := lt_out h
  refine k_geti C G hP g_his rfl 2 (by decide) n_X1_keep_X1 q_X1_keep_2 rfl ev10 dX1_keep_26 ?_
  refine lv_iconst (v := 4) C.1 C.2.1 dX1_keep_29 (by decide) ?_
  refine lv_icmp_ge (tgt := 43) C.1 C.2.1 dX1_keep_30 (by decide) (fun c11 => ?_) (fun c11 => ?_)
  · have h := if_t c11 h
    cases h
    exact k_vret C hP hS dX1_keep_43
  · have h := if_f c11 h
    refine lv_aload_n C.1 C.2.1 dX1_keep_33 rfl (lv_at hl 0 rfl) ?_
    refine lv_dup C.1 C.2.1 dX1_keep_34 rfl ?_
    obtain ⟨v12, ev12, h⟩ := lt_out h
    refine k_geti C G hP g_his rfl 2 (by decide) n_X1_keep_X1 q_X1_keep_2 rfl ev12 dX1_keep_35 ?_
    refine lv_iconst (v := 1) C.1 C.2.1 dX1_keep_38 (by decide) ?_
    obtain ⟨v13, ev13, h⟩ := lt_out h
    refine k_iadd C ev13 dX1_keep_39 ?_
    obtain ⟨Hs14, eHs14, h⟩ := lt_out h
    refine k_puti C G hP hS g_his rfl 2 (by decide) n_X1_keep_X1 q_X1_keep_2 tyX1_ok nmX1 rfl (tyX1_ok 2 (by decide)) (Nat.le_of_ble_eq_true rfl) g_hisS2 dX1_keep_40 (fun H locs hP hS => ?_)
    rw [← eHs14] at hP
    cases h
    exact k_vret C hP hS dX1_keep_43
set_option maxRecDepth 100000 in
set_option maxHeartbeats 4000000 in
theorem m_X1_keep (l : Launch) {D : va_G} {cs : Nat → ClassId} {ad : Nat → Nat} (hAd : adOK ad) (sz : Nat) {i : Nat} (hi : i < 6) {Ls : Nat → SL} {Hs : SL} {T : SL} {res : (Nat → SL) × SL} (h : f_X1_keep i Ls Hs = some res) : Met l yX1_keep wsX1_keep rmX1_keep (PA D cs sz (wA cs ad Ls Hs T) [.ref (ad 1), .ref (ad (5 + 14 * i + 0))]) (va_Qv (fun (_ : Unit) => True) (fun _ t => va_P D vwCl (wA cs ad res.1 res.2 T) t.heap) (Afr ad sz)) 0 0 (Afr ad sz) :=
  k_met (by decide) rfl (Nat.le_of_ble_eq_true rfl) hAd (fun p e s m below meth c ls C G hP hsz hl hS => by
    subst hsz
    exact w_X1_keep_e C G hi hP hS hl  h)
/-! X1 giveBack -/
abbrev rmX1_giveBack : Room := { frames := 3, cells := 0, slots := 0, locals := 92 }
theorem q_X1_giveBack_0 : Cond.fieldLink RX1 26 "LineBuffers$History" "saved" "I" ∈ wsX1_giveBack := List.mem_of_getElem? (i := 1) rfl
theorem q_X1_giveBack_1 : Cond.fieldLink RX1 11 "LineBuffers$History" "places" "[LLineBuffers$Line;" ∈ wsX1_giveBack := List.mem_of_getElem? (i := 2) rfl
theorem q_X1_giveBack_2 : Cond.fieldLink RX1 18 "LineBuffers$History" "newest" "I" ∈ wsX1_giveBack := List.mem_of_getElem? (i := 3) rfl
theorem n_X1_giveBack_X1 : ∀ x ∈ u_ws RX1 TX1 3, x ∈ wsX1_giveBack := fun x h => List.mem_cons_of_mem _ (List.mem_append_left _ (List.mem_append_left _ (List.mem_append_right _ h)))
set_option maxRecDepth 100000 in
set_option maxHeartbeats 4000000 in
theorem w_X1_giveBack_e {res : (Nat → SL) × SL} (C : Cx p s m args meth c cX1_giveBack 2 none RX1 wsX1_giveBack) (G : Gx D cs ad s) {i : Nat} (hi : i < 6) {T : SL} {Ls : Nat → SL} {Hs : SL} {H : Heap} {locs : List Loc} {ls : Array Slot} (hP : va_P D vwCl (wA cs ad Ls Hs T) H) (hS : va_S (Afr ad s.heap.size) s.heap H locs) (hl : lv_has ls 2 [(0, .ref (ad 1)), (1, .ref (ad (5 + 14 * i + 0)))]) (h : f_X1_giveBack i Ls Hs = some res) : W p l e rmX1_giveBack s m args below meth c H locs 0 0 (MQ below (va_Qv (fun (_ : Unit) => True) (fun _ t => va_P D vwCl (wA cs ad res.1 res.2 T) t.heap) (Afr ad s.heap.size)) args s 0 0 (Afr ad s.heap.size)) (F0 m 0 ls []) := by
  unfold f_X1_giveBack at h
  refine lv_aload_n C.1 C.2.1 dX1_giveBack_0 rfl (lv_at hl 0 rfl) ?_
  obtain ⟨v1, ev1, h⟩ := lt_out h
  refine k_geti C G hP g_his rfl 2 (by decide) n_X1_giveBack_X1 q_X1_giveBack_0 rfl ev1 dX1_giveBack_1 ?_
  refine lv_if_ne (tgt := 8) C.1 C.2.1 dX1_giveBack_4 (by decide) (fun c2 => ?_) (fun c2 => ?_)
  · have h := if_t c2 h
    refine lv_aload_n C.1 C.2.1 dX1_giveBack_8 rfl (lv_at hl 0 rfl) ?_
    refine k_getf C G hP g_his rfl 0 (by decide) n_X1_giveBack_X1 q_X1_giveBack_1 (v := .ref (ad 2)) rfl dX1_giveBack_9 ?_
    refine lv_aload_n C.1 C.2.1 dX1_giveBack_12 rfl (lv_at hl 0 rfl) ?_
    obtain ⟨v3, ev3, h⟩ := lt_out h
    refine k_geti C G hP g_his rfl 1 (by decide) n_X1_giveBack_X1 q_X1_giveBack_2 rfl ev3 dX1_giveBack_13 ?_
    obtain ⟨g4, h⟩ := gd_out h
    have g4 := chk_in g4
    obtain ⟨jq5, ejq5, h⟩ := lt_out h
    have hjq5 : jq5 < 6 := pla_j g4 ejq5
    refine k_aaldL C G hP g_pla g4 (b := ad (5 + 14 * jq5 + 0)) (by rw [ejq5]) dX1_giveBack_16 ?_
    refine lv_aload_n C.1 C.2.1 dX1_giveBack_17 rfl (lv_at hl 1 rfl) ?_
    obtain ⟨Ls6, c7, h⟩ := bd_out h
    refine k_callSv C G hP hS (m_X2_copy l G.2.1 _ (i := jq5) (j := i) hjq5 hi c7) (va_cwS 2 C.2.2.2.2.2.1 gX1_giveBack_X2_copy rfl rfl rfl (by decide +kernel) ⟨Nat.le_of_ble_eq_true rfl, Nat.le_of_ble_eq_true rfl⟩) (As := [.ref (ad (5 + 14 * jq5 + 0)), .ref (ad (5 + 14 * i + 0))]) rfl hl.1 rfl (Nat.le_of_ble_eq_true rfl) dX1_giveBack_18 ⟨Nat.le_of_ble_eq_true rfl, Nat.le_of_ble_eq_true rfl⟩ (fun H locs hP hS => ?_)
    refine lv_aload_n C.1 C.2.1 dX1_giveBack_21 rfl (lv_at hl 0 rfl) ?_
    refine lv_aload_n C.1 C.2.1 dX1_giveBack_22 rfl (lv_at hl 0 rfl) ?_
    obtain ⟨v8, ev8, h⟩ := lt_out h
    refine k_geti C G hP g_his rfl 1 (by decide) n_X1_giveBack_X1 q_X1_giveBack_2 rfl ev8 dX1_giveBack_23 ?_
    refine lv_iconst (v := 4) C.1 C.2.1 dX1_giveBack_26 (by decide) ?_
    obtain ⟨v9, ev9, h⟩ := lt_out h
    refine k_iadd C ev9 dX1_giveBack_27 ?_
    refine lv_iconst (v := 1) C.1 C.2.1 dX1_giveBack_28 (by decide) ?_
    obtain ⟨v10, ev10, h⟩ := lt_out h
    refine k_isub C ev10 dX1_giveBack_29 ?_
    refine lv_iconst (v := 4) C.1 C.2.1 dX1_giveBack_30 (by decide) ?_
    obtain ⟨v11, ev11, h⟩ := lt_out h
    refine k_irem C (by decide) ev11 dX1_giveBack_31 ?_
    obtain ⟨Hs12, eHs12, h⟩ := lt_out h
    refine k_puti C G hP hS g_his rfl 1 (by decide) n_X1_giveBack_X1 q_X1_giveBack_2 tyX1_ok nmX1 rfl (tyX1_ok 1 (by decide)) (Nat.le_of_ble_eq_true rfl) g_hisS1 dX1_giveBack_32 (fun H locs hP hS => ?_)
    rw [← eHs12] at hP
    refine lv_aload_n C.1 C.2.1 dX1_giveBack_35 rfl (lv_at hl 0 rfl) ?_
    refine lv_dup C.1 C.2.1 dX1_giveBack_36 rfl ?_
    obtain ⟨v13, ev13, h⟩ := lt_out h
    refine k_geti C G hP g_his rfl 2 (by decide) n_X1_giveBack_X1 q_X1_giveBack_0 rfl ev13 dX1_giveBack_37 ?_
    refine lv_iconst (v := 1) C.1 C.2.1 dX1_giveBack_40 (by decide) ?_
    obtain ⟨v14, ev14, h⟩ := lt_out h
    refine k_isub C ev14 dX1_giveBack_41 ?_
    obtain ⟨Hs15, eHs15, h⟩ := lt_out h
    refine k_puti C G hP hS g_his rfl 2 (by decide) n_X1_giveBack_X1 q_X1_giveBack_0 tyX1_ok nmX1 rfl (tyX1_ok 2 (by decide)) (Nat.le_of_ble_eq_true rfl) g_hisS2 dX1_giveBack_42 (fun H locs hP hS => ?_)
    rw [← eHs15] at hP
    cases h
    exact k_vret C hP hS dX1_giveBack_45
  · have h := if_n c2 h
    cases h
    exact k_vret C hP hS dX1_giveBack_7
set_option maxRecDepth 100000 in
set_option maxHeartbeats 4000000 in
theorem m_X1_giveBack (l : Launch) {D : va_G} {cs : Nat → ClassId} {ad : Nat → Nat} (hAd : adOK ad) (sz : Nat) {i : Nat} (hi : i < 6) {Ls : Nat → SL} {Hs : SL} {T : SL} {res : (Nat → SL) × SL} (h : f_X1_giveBack i Ls Hs = some res) : Met l yX1_giveBack wsX1_giveBack rmX1_giveBack (PA D cs sz (wA cs ad Ls Hs T) [.ref (ad 1), .ref (ad (5 + 14 * i + 0))]) (va_Qv (fun (_ : Unit) => True) (fun _ t => va_P D vwCl (wA cs ad res.1 res.2 T) t.heap) (Afr ad sz)) 0 0 (Afr ad sz) :=
  k_met (by decide) rfl (Nat.le_of_ble_eq_true rfl) hAd (fun p e s m below meth c ls C G hP hsz hl hS => by
    subst hsz
    exact w_X1_giveBack_e C G hi hP hS hl  h)
end GEN
