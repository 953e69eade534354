section GEN
variable {p : Program} {l : Launch} {e : Env} {s : State} {m : MethodId} {args : Array Value} {below : List Frame} {meth : Method} {c : Code} {D : va_G} {cs : Nat → ClassId} {ad : Nat → Nat}
/-! X6 thrown -/
abbrev rmX6_thrown : Room := { frames := 0, cells := 0, slots := 0, locals := 0 }
theorem q_X6_thrown_0 : Cond.fieldLink RX6 25 "LineBuffersModel" "refusal" "I" ∈ wsX6_thrown := List.mem_of_getElem? (i := 1) rfl
theorem n_X6_thrown_X6 : ∀ x ∈ u_ws RX6 TX6 12, x ∈ wsX6_thrown := fun x h => List.mem_cons_of_mem _ (List.mem_append_right _ h)
set_option maxRecDepth 100000 in
set_option maxHeartbeats 4000000 in
theorem w_X6_thrown_e {res : Int32} (C : Cx p s m args meth c cX6_thrown 1 (some .int) RX6 wsX6_thrown) (G : Gx D cs ad s) {Ls : Nat → SL} {Hs : SL} {T : SL} {dr : Int64} {hs : Int64} {o : Int64} {od : UInt64} {M : SL} {H : Heap} {locs : List Loc} {ls : Array Slot} (hP : va_P D vwCl (wA cs ad Ls Hs T M dr hs o od) H) (hS : va_S (Afr ad s.heap.size) s.heap H locs) (hl : lv_has ls 1 [(0, .ref (ad 89))]) (h : f_X6_thrown M = some res) : W p l e rmX6_thrown s m args below meth c H locs 0 0 (MQ below (va_Qi (fun r' (_ : Unit) => r' = res) (fun _ t => va_P D vwCl (wA cs ad Ls Hs T M dr hs o od) t.heap) (Afr ad s.heap.size)) args s 0 0 (Afr ad s.heap.size)) (F0 m 0 ls []) := by
  unfold f_X6_thrown at h
  refine lv_aload_n C.1 C.2.1 dX6_thrown_0 rfl (lv_at hl 0 rfl) ?_
  obtain ⟨v1, ev1, h⟩ := lt_out h
  refine k_geti C G hP r_obj rfl 4 (by decide) n_X6_thrown_X6 q_X6_thrown_0 rfl ev1 dX6_thrown_1 ?_
  cases h
  exact k_iret C hP hS dX6_thrown_4
set_option maxRecDepth 100000 in
set_option maxHeartbeats 4000000 in
theorem m_X6_thrown (l : Launch) {D : va_G} {cs : Nat → ClassId} {ad : Nat → Nat} (hAd : adOK ad) (sz : Nat) {Ls : Nat → SL} {Hs : SL} {T : SL} {M : SL} {dr : Int64} {hs : Int64} {o : Int64} {od : UInt64} {res : Int32} (h : f_X6_thrown M = some res) : Met l yX6_thrown wsX6_thrown rmX6_thrown (PA D cs sz (wA cs ad Ls Hs T M dr hs o od) [.ref (ad 89)]) (va_Qi (fun r' (_ : Unit) => r' = res) (fun _ t => va_P D vwCl (wA cs ad Ls Hs T M dr hs o od) t.heap) (Afr ad sz)) 0 0 (Afr ad sz) :=
  k_met (by decide) rfl (Nat.le_of_ble_eq_true rfl) hAd (fun p e s m below meth c ls C G hP hsz hl hS => by
    subst hsz
    exact w_X6_thrown_e C G  hP hS hl  h)
/-! X6 refused -/
abbrev rmX6_refused : Room := { frames := 0, cells := 0, slots := 0, locals := 0 }
theorem q_X6_refused_0 : Cond.fieldLink RX6 25 "LineBuffersModel" "refusal" "I" ∈ wsX6_refused := List.mem_of_getElem? (i := 1) rfl
theorem n_X6_refused_X6 : ∀ x ∈ u_ws RX6 TX6 12, x ∈ wsX6_refused := fun x h => List.mem_cons_of_mem _ (List.mem_append_right _ h)
set_option maxRecDepth 100000 in
set_option maxHeartbeats 4000000 in
theorem w_X6_refused_e {res : Int32 × SL} (C : Cx p s m args meth c cX6_refused 2 (some .boolean) RX6 wsX6_refused) (G : Gx D cs ad s) {Ls : Nat → SL} {Hs : SL} {T : SL} {dr : Int64} {hs : Int64} {o : Int64} {od : UInt64} {M : SL} {x1 : Int32} {H : Heap} {locs : List Loc} {ls : Array Slot} (hP : va_P D vwCl (wA cs ad Ls Hs T M dr hs o od) H) (hS : va_S (Afr ad s.heap.size) s.heap H locs) (hl : lv_has ls 2 [(0, .ref (ad 89)), (1, .int x1)]) (h : f_X6_refused M x1 = some res) : W p l e rmX6_refused s m args below meth c H locs 0 0 (MQ below (va_Qi (fun r' (_ : Unit) => r' = res.1) (fun _ t => va_P D vwCl (wA cs ad Ls Hs T res.2 dr hs o od) t.heap) (Afr ad s.heap.size)) args s 0 0 (Afr ad s.heap.size)) (F0 m 0 ls []) := by
  unfold f_X6_refused at h
  refine lv_aload_n C.1 C.2.1 dX6_refused_0 rfl (lv_at hl 0 rfl) ?_
  refine lv_iload_n C.1 C.2.1 dX6_refused_1 rfl (lv_at hl 1 rfl) ?_
  obtain ⟨M1, eM1, h⟩ := lt_out h
  refine k_puti C G hP hS r_obj rfl 4 (by decide) n_X6_refused_X6 q_X6_refused_0 tyX6_ok nmX6 rfl (tyX6_ok 4 (by decide)) (Nat.le_of_ble_eq_true rfl) r_objS4 dX6_refused_2 (fun H locs hP hS => ?_)
  rw [← eM1] at hP
  refine lv_iload_n C.1 C.2.1 dX6_refused_5 rfl (lv_at hl 1 rfl) ?_
  refine lv_if_le (tgt := 13) C.1 C.2.1 dX6_refused_6 (by decide) (fun c2 => ?_) (fun c2 => ?_)
  · have h := if_t c2 h
    refine lv_iconst (v := 0) C.1 C.2.1 dX6_refused_13 (by decide) ?_
    cases h
    exact k_zret C hP hS nar_0 dX6_refused_14
  · have h := if_f c2 h
    refine lv_iconst (v := 1) C.1 C.2.1 dX6_refused_9 (by decide) ?_
    refine lv_goto (tgt := 14) C.1 C.2.1 dX6_refused_10 (by decide) ?_
    cases h
    exact k_zret C hP hS nar_1 dX6_refused_14
set_option maxRecDepth 100000 in
set_option maxHeartbeats 4000000 in
theorem m_X6_refused (l : Launch) {D : va_G} {cs : Nat → ClassId} {ad : Nat → Nat} (hAd : adOK ad) (sz : Nat) {Ls : Nat → SL} {Hs : SL} {T : SL} {M : SL} {dr : Int64} {hs : Int64} {o : Int64} {od : UInt64} {x1 : Int32} {res : Int32 × SL} (h : f_X6_refused M x1 = some res) : Met l yX6_refused wsX6_refused rmX6_refused (PA D cs sz (wA cs ad Ls Hs T M dr hs o od) [.ref (ad 89), .int x1]) (va_Qi (fun r' (_ : Unit) => r' = res.1) (fun _ t => va_P D vwCl (wA cs ad Ls Hs T res.2 dr hs o od) t.heap) (Afr ad sz)) 0 0 (Afr ad sz) :=
  k_met (by decide) rfl (Nat.le_of_ble_eq_true rfl) hAd (fun p e s m below meth c ls C G hP hsz hl hS => by
    subst hsz
    exact w_X6_refused_e C G  hP hS hl  h)
/-! X6 within -/
abbrev rmX6_within : Room := { frames := 0, cells := 0, slots := 0, locals := 0 }
set_option maxRecDepth 100000 in
set_option maxHeartbeats 4000000 in
theorem w_X6_within_b14 {res : Int32} (C : Cx p s m args meth c cX6_within 3 (some .boolean) RX6 wsX6_within) (G : Gx D cs ad s) {Ls : Nat → SL} {Hs : SL} {T : SL} {M : SL} {dr : Int64} {hs : Int64} {o : Int64} {od : UInt64} {H : Heap} {locs : List Loc} {ls : Array Slot} (hP : va_P D vwCl (wA cs ad Ls Hs T M dr hs o od) H) (hS : va_S (Afr ad s.heap.size) s.heap H locs) (hl : lv_has ls 3 []) (h : f_X6_within_b14 = some res) : W p l e rmX6_within s m args below meth c H locs 0 0 (MQ below (va_Qi (fun r' (_ : Unit) => r' = res) (fun _ t => va_P D vwCl (wA cs ad Ls Hs T M dr hs o od) t.heap) (Afr ad s.heap.size)) args s 0 0 (Afr ad s.heap.size)) (F0 m 14 ls []) := by
  unfold f_X6_within_b14 at h
  refine lv_iconst (v := 0) C.1 C.2.1 dX6_within_14 (by decide) ?_
  cases h
  exact k_zret C hP hS nar_0 dX6_within_15
set_option maxRecDepth 100000 in
set_option maxHeartbeats 4000000 in
theorem w_X6_within_e {res : Int32} (C : Cx p s m args meth c cX6_within 3 (some .boolean) RX6 wsX6_within) (G : Gx D cs ad s) {Ls : Nat → SL} {Hs : SL} {T : SL} {M : SL} {dr : Int64} {hs : Int64} {o : Int64} {od : UInt64} {x0 : Int32} {x1 : Int32} {x2 : Int32} {H : Heap} {locs : List Loc} {ls : Array Slot} (hP : va_P D vwCl (wA cs ad Ls Hs T M dr hs o od) H) (hS : va_S (Afr ad s.heap.size) s.heap H locs) (hl : lv_has ls 3 [(0, .int x0), (1, .int x1), (2, .int x2)]) (h : f_X6_within x0 x1 x2 = some res) : W p l e rmX6_within s m args below meth c H locs 0 0 (MQ below (va_Qi (fun r' (_ : Unit) => r' = res) (fun _ t => va_P D vwCl (wA cs ad Ls Hs T M dr hs o od) t.heap) (Afr ad s.heap.size)) args s 0 0 (Afr ad s.heap.size)) (F0 m 0 ls []) := by
  unfold f_X6_within at h
  refine lv_iload_n C.1 C.2.1 dX6_within_0 rfl (lv_at hl 0 rfl) ?_
  refine lv_iload_n C.1 C.2.1 dX6_within_1 rfl (lv_at hl 1 rfl) ?_
  refine lv_icmp_lt (tgt := 14) C.1 C.2.1 dX6_within_2 (by decide) (fun c1 => ?_) (fun c1 => ?_)
  · have h := if_t c1 h
    exact w_X6_within_b14 C G hP hS (lv_sub hl [] rfl) h
  · have h := if_f c1 h
    refine lv_iload_n C.1 C.2.1 dX6_within_5 rfl (lv_at hl 0 rfl) ?_
    refine lv_iload_n C.1 C.2.1 dX6_within_6 rfl (lv_at hl 2 rfl) ?_
    refine lv_icmp_gt (tgt := 14) C.1 C.2.1 dX6_within_7 (by decide) (fun c2 => ?_) (fun c2 => ?_)
    · have h := if_t c2 h
      exact w_X6_within_b14 C G hP hS (lv_sub hl [] rfl) h
    · have h := if_f c2 h
      refine lv_iconst (v := 1) C.1 C.2.1 dX6_within_10 (by decide) ?_
      refine lv_goto (tgt := 15) C.1 C.2.1 dX6_within_11 (by decide) ?_
      cases h
      exact k_zret C hP hS nar_1 dX6_within_15
set_option maxRecDepth 100000 in
set_option maxHeartbeats 4000000 in
theorem m_X6_within (l : Launch) {D : va_G} {cs : Nat → ClassId} {ad : Nat → Nat} (hAd : adOK ad) (sz : Nat) {Ls : Nat → SL} {Hs : SL} {T : SL} {M : SL} {dr : Int64} {hs : Int64} {o : Int64} {od : UInt64} {x0 : Int32} {x1 : Int32} {x2 : Int32} {res : Int32} (h : f_X6_within x0 x1 x2 = some res) : Met l yX6_within wsX6_within rmX6_within (PA D cs sz (wA cs ad Ls Hs T M dr hs o od) [.int x0, .int x1, .int x2]) (va_Qi (fun r' (_ : Unit) => r' = res) (fun _ t => va_P D vwCl (wA cs ad Ls Hs T M dr hs o od) t.heap) (Afr ad sz)) 0 0 (Afr ad sz) :=
  k_met (by decide) rfl (Nat.le_of_ble_eq_true rfl) hAd (fun p e s m below meth c ls C G hP hsz hl hS => by
    subst hsz
    exact w_X6_within_e C G  hP hS hl  h)
/-! X6 isMachine -/
abbrev rmX6_isMachine : Room := { frames := 1, cells := 0, slots := 0, locals := 22 }
theorem q_X6_isMachine_0 : Cond.fieldLink RX6 7 "LineBuffersModel" "now" "[I" ∈ wsX6_isMachine := List.mem_of_getElem? (i := 1) rfl
theorem n_X6_isMachine_X6 : ∀ x ∈ u_ws RX6 TX6 12, x ∈ wsX6_isMachine := fun x h => List.mem_cons_of_mem _ (List.mem_append_right _ h)
set_option maxRecDepth 100000 in
set_option maxHeartbeats 4000000 in
theorem w_X6_isMachine_e {res : Int32} (C : Cx p s m args meth c cX6_isMachine 2 (some .boolean) RX6 wsX6_isMachine) (G : Gx D cs ad s) {Ls : Nat → SL} {Hs : SL} {T : SL} {dr : Int64} {hs : Int64} {o : Int64} {od : UInt64} {M : SL} {x1 : Int32} {H : Heap} {locs : List Loc} {ls : Array Slot} (hP : va_P D vwCl (wA cs ad Ls Hs T M dr hs o od) H) (hS : va_S (Afr ad s.heap.size) s.heap H locs) (hl : lv_has ls 2 [(0, .ref (ad 89)), (1, .int x1)]) (h : f_X6_isMachine M x1 = some res) : W p l e rmX6_isMachine s m args below meth c H locs 0 0 (MQ below (va_Qi (fun r' (_ : Unit) => r' = res) (fun _ t => va_P D vwCl (wA cs ad Ls Hs T M dr hs o od) t.heap) (Afr ad s.heap.size)) args s 0 0 (Afr ad s.heap.size)) (F0 m 0 ls []) := by
  unfold f_X6_isMachine at h
  refine lv_iload_n C.1 C.2.1 dX6_isMachine_0 rfl (lv_at hl 1 rfl) ?_
  refine lv_iconst (v := 0) C.1 C.2.1 dX6_isMachine_1 (by decide) ?_
  refine lv_aload_n C.1 C.2.1 dX6_isMachine_2 rfl (lv_at hl 0 rfl) ?_
  refine k_getf C G hP r_obj rfl 0 (by decide) n_X6_isMachine_X6 q_X6_isMachine_0 (v := .ref (ad (89 + 1))) rfl dX6_isMachine_3 ?_
  refine lv_iconst (v := 0) C.1 C.2.1 dX6_isMachine_6 (by decide) ?_
  obtain ⟨v1, ev1, h⟩ := lt_out h
  refine k_iald C G hP (r_arr (k := 1) (by decide)) (chk_in rfl) (j := 0) rfl ev1 dX6_isMachine_7 ?_
  refine lv_iconst (v := 1) C.1 C.2.1 dX6_isMachine_8 (by decide) ?_
  obtain ⟨v2, ev2, h⟩ := lt_out h
  refine k_isub C ev2 dX6_isMachine_9 ?_
  obtain ⟨r3, c4, h⟩ := bd_out h
  refine k_callSi C G hP hS (m_X6_within l G.2.1 _  c4) (va_cwS 3 C.2.2.2.2.2.1 gX6_isMachine_X6_within rfl rfl rfl (by decide +kernel) ⟨Nat.le_of_ble_eq_true rfl, Nat.le_of_ble_eq_true rfl⟩) (As := [.int x1, .int 0, .int v2]) rfl hl.1 rfl (Nat.le_of_ble_eq_true rfl) dX6_isMachine_10 ⟨Nat.le_of_ble_eq_true rfl, Nat.le_of_ble_eq_true rfl⟩ (fun H locs hP hS => ?_)
  obtain ⟨g5, h⟩ := gd_out h
  have g5 := isB_nar g5
  cases h
  exact k_zret C hP hS g5 dX6_isMachine_13
set_option maxRecDepth 100000 in
set_option maxHeartbeats 4000000 in
theorem m_X6_isMachine (l : Launch) {D : va_G} {cs : Nat → ClassId} {ad : Nat → Nat} (hAd : adOK ad) (sz : Nat) {Ls : Nat → SL} {Hs : SL} {T : SL} {M : SL} {dr : Int64} {hs : Int64} {o : Int64} {od : UInt64} {x1 : Int32} {res : Int32} (h : f_X6_isMachine M x1 = some res) : Met l yX6_isMachine wsX6_isMachine rmX6_isMachine (PA D cs sz (wA cs ad Ls Hs T M dr hs o od) [.ref (ad 89), .int x1]) (va_Qi (fun r' (_ : Unit) => r' = res) (fun _ t => va_P D vwCl (wA cs ad Ls Hs T M dr hs o od) t.heap) (Afr ad sz)) 0 0 (Afr ad sz) :=
  k_met (by decide) rfl (Nat.le_of_ble_eq_true rfl) hAd (fun p e s m below meth c ls C G hP hsz hl hS => by
    subst hsz
    exact w_X6_isMachine_e C G  hP hS hl  h)
/-! X6 of -/
abbrev rmX6_of : Room := { frames := 0, cells := 0, slots := 0, locals := 0 }
set_option maxRecDepth 100000 in
set_option maxHeartbeats 4000000 in
theorem w_X6_of_e {res : Int32} (C : Cx p s m args meth c cX6_of 1 (some .int) RX6 wsX6_of) (G : Gx D cs ad s) {Ls : Nat → SL} {Hs : SL} {T : SL} {M : SL} {dr : Int64} {hs : Int64} {o : Int64} {od : UInt64} {x0 : Int32} {H : Heap} {locs : List Loc} {ls : Array Slot} (hP : va_P D vwCl (wA cs ad Ls Hs T M dr hs o od) H) (hS : va_S (Afr ad s.heap.size) s.heap H locs) (hl : lv_has ls 1 [(0, .int x0)]) (h : f_X6_of x0 = some res) : W p l e rmX6_of s m args below meth c H locs 0 0 (MQ below (va_Qi (fun r' (_ : Unit) => r' = res) (fun _ t => va_P D vwCl (wA cs ad Ls Hs T M dr hs o od) t.heap) (Afr ad s.heap.size)) args s 0 0 (Afr ad s.heap.size)) (F0 m 0 ls []) := by
  unfold f_X6_of at h
  refine lv_iconst (v := 3) C.1 C.2.1 dX6_of_0 (by decide) ?_
  refine lv_bipush (v := 16) C.1 C.2.1 dX6_of_1 (by decide) ?_
  refine lv_iload_n C.1 C.2.1 dX6_of_3 rfl (lv_at hl 0 rfl) ?_
  obtain ⟨v1, ev1, h⟩ := lt_out h
  refine k_imul C ev1 dX6_of_4 ?_
  obtain ⟨v2, ev2, h⟩ := lt_out h
  refine k_iadd C ev2 dX6_of_5 ?_
  cases h
  exact k_iret C hP hS dX6_of_6
set_option maxRecDepth 100000 in
set_option maxHeartbeats 4000000 in
theorem m_X6_of (l : Launch) {D : va_G} {cs : Nat → ClassId} {ad : Nat → Nat} (hAd : adOK ad) (sz : Nat) {Ls : Nat → SL} {Hs : SL} {T : SL} {M : SL} {dr : Int64} {hs : Int64} {o : Int64} {od : UInt64} {x0 : Int32} {res : Int32} (h : f_X6_of x0 = some res) : Met l yX6_of wsX6_of rmX6_of (PA D cs sz (wA cs ad Ls Hs T M dr hs o od) [.int x0]) (va_Qi (fun r' (_ : Unit) => r' = res) (fun _ t => va_P D vwCl (wA cs ad Ls Hs T M dr hs o od) t.heap) (Afr ad sz)) 0 0 (Afr ad sz) :=
  k_met (by decide) rfl (Nat.le_of_ble_eq_true rfl) hAd (fun p e s m below meth c ls C G hP hsz hl hS => by
    subst hsz
    exact w_X6_of_e C G  hP hS hl  h)
/-! X6 saves -/
abbrev rmX6_saves : Room := { frames := 0, cells := 0, slots := 0, locals := 0 }
theorem q_X6_saves_0 : Cond.fieldLink RX6 33 "LineBuffersModel" "saved" "I" ∈ wsX6_saves := List.mem_of_getElem? (i := 1) rfl
theorem q_X6_saves_1 : Cond.fieldLink RX6 13 "LineBuffersModel" "past" "[I" ∈ wsX6_saves := List.mem_of_getElem? (i := 2) rfl
theorem q_X6_saves_2 : Cond.fieldLink RX6 7 "LineBuffersModel" "now" "[I" ∈ wsX6_saves := List.mem_of_getElem? (i := 3) rfl
theorem n_X6_saves_X6 : ∀ x ∈ u_ws RX6 TX6 12, x ∈ wsX6_saves := fun x h => List.mem_cons_of_mem _ (List.mem_append_right _ h)
set_option maxRecDepth 100000 in
set_option maxHeartbeats 4000000 in
theorem w_X6_saves_b51 {res : SL} (C : Cx p s m args meth c cX6_saves 2 none RX6 wsX6_saves) (G : Gx D cs ad s) {Ls : Nat → SL} {Hs : SL} {T : SL} {dr : Int64} {hs : Int64} {o : Int64} {od : UInt64} {K51 : SL → Int32 → Option (SL)} (hK51 : ∀ {M : SL} {x1 : Int32} {H : Heap} {locs : List Loc} {ls : Array Slot}, va_P D vwCl (wA cs ad Ls Hs T M dr hs o od) H → va_S (Afr ad s.heap.size) s.heap H locs → lv_has ls 2 [(0, .ref (ad 89)), (1, .int x1)] → K51 M x1 = some res → W p l e rmX6_saves s m args below meth c H locs 0 0 (MQ below (va_Qv (fun (_ : Unit) => True) (fun _ t => va_P D vwCl (wA cs ad Ls Hs T res dr hs o od) t.heap) (Afr ad s.heap.size)) args s 0 0 (Afr ad s.heap.size)) (F0 m 51 ls [])) {M : SL} {x1 : Int32} {H : Heap} {locs : List Loc} {ls : Array Slot} (hP : va_P D vwCl (wA cs ad Ls Hs T M dr hs o od) H) (hS : va_S (Afr ad s.heap.size) s.heap H locs) (hl : lv_has ls 2 [(0, .ref (ad 89)), (1, .int x1)]) (h : f_X6_saves_b51 K51 M x1 = some res) : W p l e rmX6_saves s m args below meth c H locs 0 0 (MQ below (va_Qv (fun (_ : Unit) => True) (fun _ t => va_P D vwCl (wA cs ad Ls Hs T res dr hs o od) t.heap) (Afr ad s.heap.size)) args s 0 0 (Afr ad s.heap.size)) (F0 m 51 ls []) := by
  unfold f_X6_saves_b51 at h
  refine lv_iload_n C.1 C.2.1 dX6_saves_51 rfl (lv_at hl 1 rfl) ?_
  refine lv_sipush (v := 251) C.1 C.2.1 dX6_saves_52 (by decide) ?_
  refine lv_icmp_ge (tgt := 85) C.1 C.2.1 dX6_saves_55 (by decide) (fun c1 => ?_) (fun c1 => ?_)
  · have h := if_t c1 h
    refine lv_aload_n C.1 C.2.1 dX6_saves_85 rfl (lv_at hl 0 rfl) ?_
    refine lv_dup C.1 C.2.1 dX6_saves_86 rfl ?_
    obtain ⟨v2, ev2, h⟩ := lt_out h
    refine k_geti C G hP r_obj rfl 3 (by decide) n_X6_saves_X6 q_X6_saves_0 rfl ev2 dX6_saves_87 ?_
    refine lv_iconst (v := 1) C.1 C.2.1 dX6_saves_90 (by decide) ?_
    obtain ⟨v3, ev3, h⟩ := lt_out h
    refine k_iadd C ev3 dX6_saves_91 ?_
    obtain ⟨M4, eM4, h⟩ := lt_out h
    refine k_puti C G hP hS r_obj rfl 3 (by decide) n_X6_saves_X6 q_X6_saves_0 tyX6_ok nmX6 rfl (tyX6_ok 3 (by decide)) (Nat.le_of_ble_eq_true rfl) r_objS3 dX6_saves_92 (fun H locs hP hS => ?_)
    rw [← eM4] at hP
    cases h
    exact k_vret C hP hS dX6_saves_95
  · have h := if_f c1 h
    refine lv_aload_n C.1 C.2.1 dX6_saves_58 rfl (lv_at hl 0 rfl) ?_
    refine k_getf C G hP r_obj rfl 1 (by decide) n_X6_saves_X6 q_X6_saves_1 (v := .ref (ad (89 + 2))) rfl dX6_saves_59 ?_
    refine lv_sipush (v := 251) C.1 C.2.1 dX6_saves_62 (by decide) ?_
    refine lv_aload_n C.1 C.2.1 dX6_saves_65 rfl (lv_at hl 0 rfl) ?_
    obtain ⟨v5, ev5, h⟩ := lt_out h
    refine k_geti C G hP r_obj rfl 3 (by decide) n_X6_saves_X6 q_X6_saves_0 rfl ev5 dX6_saves_66 ?_
    obtain ⟨v6, ev6, h⟩ := lt_out h
    refine k_imul C ev6 dX6_saves_69 ?_
    refine lv_iload_n C.1 C.2.1 dX6_saves_70 rfl (lv_at hl 1 rfl) ?_
    obtain ⟨v7, ev7, h⟩ := lt_out h
    refine k_iadd C ev7 dX6_saves_71 ?_
    refine lv_aload_n C.1 C.2.1 dX6_saves_72 rfl (lv_at hl 0 rfl) ?_
    refine k_getf C G hP r_obj rfl 0 (by decide) n_X6_saves_X6 q_X6_saves_2 (v := .ref (ad (89 + 1))) rfl dX6_saves_73 ?_
    refine lv_iload_n C.1 C.2.1 dX6_saves_76 rfl (lv_at hl 1 rfl) ?_
    obtain ⟨g8, h⟩ := gd_out h
    have g8 := chk_in g8
    obtain ⟨v9, ev9, h⟩ := lt_out h
    refine k_iald C G hP (r_arr (k := 1) (by decide)) g8 (j := x1.toNatClampNeg) rfl ev9 dX6_saves_77 ?_
    obtain ⟨g10, h⟩ := gd_out h
    have g10 := chk_in g10
    obtain ⟨M11, eM11, h⟩ := lt_out h
    refine k_iast C G hP hS (r_arr (k := 2) (by decide)) g10 (j := v7.toNatClampNeg) rfl (r_arrS (k := 2) (by decide)) dX6_saves_78 (fun H locs hP hS => ?_)
    rw [← eM11] at hP
    obtain ⟨z12, ez12, h⟩ := lt_out h
    refine lv_iinc (v := z12) (lv' := [(1, .int z12), (0, .ref (ad 89))]) C.1 C.2.1 dX6_saves_79 hl (k := 1) rfl (by rw [ez12]; rfl) (by decide) rfl (fun ls hl => ?_)
    refine lv_goto (tgt := 51) C.1 C.2.1 dX6_saves_82 (by decide) ?_
    exact hK51 hP hS (lv_sub hl [1, 0] rfl)  h
set_option maxRecDepth 100000 in
set_option maxHeartbeats 4000000 in
theorem w_X6_saves_h51 {res : SL} (C : Cx p s m args meth c cX6_saves 2 none RX6 wsX6_saves) (G : Gx D cs ad s) {Ls : Nat → SL} {Hs : SL} {T : SL} {dr : Int64} {hs : Int64} {o : Int64} {od : UInt64} : ∀ (n : Nat) {M : SL} {x1 : Int32} {H : Heap} {locs : List Loc} {ls : Array Slot}, va_P D vwCl (wA cs ad Ls Hs T M dr hs o od) H → va_S (Afr ad s.heap.size) s.heap H locs → lv_has ls 2 [(0, .ref (ad 89)), (1, .int x1)] → f_X6_saves_h51 n M x1 = some res → W p l e rmX6_saves s m args below meth c H locs 0 0 (MQ below (va_Qv (fun (_ : Unit) => True) (fun _ t => va_P D vwCl (wA cs ad Ls Hs T res dr hs o od) t.heap) (Afr ad s.heap.size)) args s 0 0 (Afr ad s.heap.size)) (F0 m 51 ls []) := by
  intro n
  induction n with
  | zero => intro M x1 H locs ls hP hS hl  h; cases h
  | succ n ih => intro M x1 H locs ls hP hS hl  h; exact w_X6_saves_b51 C G    ih hP hS hl  h
set_option maxRecDepth 100000 in
set_option maxHeartbeats 4000000 in
theorem w_X6_saves_b49 {res : SL} (C : Cx p s m args meth c cX6_saves 2 none RX6 wsX6_saves) (G : Gx D cs ad s) {Ls : Nat → SL} {Hs : SL} {T : SL} {dr : Int64} {hs : Int64} {o : Int64} {od : UInt64} {M : SL} {H : Heap} {locs : List Loc} {ls : Array Slot} (hP : va_P D vwCl (wA cs ad Ls Hs T M dr hs o od) H) (hS : va_S (Afr ad s.heap.size) s.heap H locs) (hl : lv_has ls 2 [(0, .ref (ad 89))]) (h : f_X6_saves_b49 M = some res) : W p l e rmX6_saves s m args below meth c H locs 0 0 (MQ below (va_Qv (fun (_ : Unit) => True) (fun _ t => va_P D vwCl (wA cs ad Ls Hs T res dr hs o od) t.heap) (Afr ad s.heap.size)) args s 0 0 (Afr ad s.heap.size)) (F0 m 49 ls []) := by
  unfold f_X6_saves_b49 at h
  refine lv_iconst (v := 0) C.1 C.2.1 dX6_saves_49 (by decide) ?_
  refine lv_istore_n (lv' := [(1, .int 0), (0, .ref (ad 89))]) C.1 C.2.1 dX6_saves_50 rfl hl (by decide) rfl (fun ls hl => ?_)
  exact w_X6_saves_h51 C G fuel hP hS (lv_sub hl [1, 0] rfl) h
set_option maxRecDepth 100000 in
set_option maxHeartbeats 4000000 in
theorem w_X6_saves_b10 {res : SL} (C : Cx p s m args meth c cX6_saves 2 none RX6 wsX6_saves) (G : Gx D cs ad s) {Ls : Nat → SL} {Hs : SL} {T : SL} {dr : Int64} {hs : Int64} {o : Int64} {od : UInt64} {K10 : SL → Int32 → Option (SL)} (hK10 : ∀ {M : SL} {x1 : Int32} {H : Heap} {locs : List Loc} {ls : Array Slot}, va_P D vwCl (wA cs ad Ls Hs T M dr hs o od) H → va_S (Afr ad s.heap.size) s.heap H locs → lv_has ls 2 [(0, .ref (ad 89)), (1, .int x1)] → K10 M x1 = some res → W p l e rmX6_saves s m args below meth c H locs 0 0 (MQ below (va_Qv (fun (_ : Unit) => True) (fun _ t => va_P D vwCl (wA cs ad Ls Hs T res dr hs o od) t.heap) (Afr ad s.heap.size)) args s 0 0 (Afr ad s.heap.size)) (F0 m 10 ls [])) {M : SL} {x1 : Int32} {H : Heap} {locs : List Loc} {ls : Array Slot} (hP : va_P D vwCl (wA cs ad Ls Hs T M dr hs o od) H) (hS : va_S (Afr ad s.heap.size) s.heap H locs) (hl : lv_has ls 2 [(0, .ref (ad 89)), (1, .int x1)]) (h : f_X6_saves_b10 K10 M x1 = some res) : W p l e rmX6_saves s m args below meth c H locs 0 0 (MQ below (va_Qv (fun (_ : Unit) => True) (fun _ t => va_P D vwCl (wA cs ad Ls Hs T res dr hs o od) t.heap) (Afr ad s.heap.size)) args s 0 0 (Afr ad s.heap.size)) (F0 m 10 ls []) := by
  unfold f_X6_saves_b10 at h
  refine lv_iload_n C.1 C.2.1 dX6_saves_10 rfl (lv_at hl 1 rfl) ?_
  refine lv_sipush (v := 753) C.1 C.2.1 dX6_saves_11 (by decide) ?_
  refine lv_icmp_ge (tgt := 39) C.1 C.2.1 dX6_saves_14 (by decide) (fun c1 => ?_) (fun c1 => ?_)
  · have h := if_t c1 h
    refine lv_aload_n C.1 C.2.1 dX6_saves_39 rfl (lv_at hl 0 rfl) ?_
    refine lv_dup C.1 C.2.1 dX6_saves_40 rfl ?_
    obtain ⟨v2, ev2, h⟩ := lt_out h
    refine k_geti C G hP r_obj rfl 3 (by decide) n_X6_saves_X6 q_X6_saves_0 rfl ev2 dX6_saves_41 ?_
    refine lv_iconst (v := 1) C.1 C.2.1 dX6_saves_44 (by decide) ?_
    obtain ⟨v3, ev3, h⟩ := lt_out h
    refine k_isub C ev3 dX6_saves_45 ?_
    obtain ⟨M4, eM4, h⟩ := lt_out h
    refine k_puti C G hP hS r_obj rfl 3 (by decide) n_X6_saves_X6 q_X6_saves_0 tyX6_ok nmX6 rfl (tyX6_ok 3 (by decide)) (Nat.le_of_ble_eq_true rfl) r_objS3 dX6_saves_46 (fun H locs hP hS => ?_)
    rw [← eM4] at hP
    exact w_X6_saves_b49 C G hP hS (lv_sub hl [0] rfl) h
  · have h := if_f c1 h
    refine lv_aload_n C.1 C.2.1 dX6_saves_17 rfl (lv_at hl 0 rfl) ?_
    refine k_getf C G hP r_obj rfl 1 (by decide) n_X6_saves_X6 q_X6_saves_1 (v := .ref (ad (89 + 2))) rfl dX6_saves_18 ?_
    refine lv_iload_n C.1 C.2.1 dX6_saves_21 rfl (lv_at hl 1 rfl) ?_
    refine lv_aload_n C.1 C.2.1 dX6_saves_22 rfl (lv_at hl 0 rfl) ?_
    refine k_getf C G hP r_obj rfl 1 (by decide) n_X6_saves_X6 q_X6_saves_1 (v := .ref (ad (89 + 2))) rfl dX6_saves_23 ?_
    refine lv_iload_n C.1 C.2.1 dX6_saves_26 rfl (lv_at hl 1 rfl) ?_
    refine lv_sipush (v := 251) C.1 C.2.1 dX6_saves_27 (by decide) ?_
    obtain ⟨v5, ev5, h⟩ := lt_out h
    refine k_iadd C ev5 dX6_saves_30 ?_
    obtain ⟨g6, h⟩ := gd_out h
    have g6 := chk_in g6
    obtain ⟨v7, ev7, h⟩ := lt_out h
    refine k_iald C G hP (r_arr (k := 2) (by decide)) g6 (j := v5.toNatClampNeg) rfl ev7 dX6_saves_31 ?_
    obtain ⟨g8, h⟩ := gd_out h
    have g8 := chk_in g8
    obtain ⟨M9, eM9, h⟩ := lt_out h
    refine k_iast C G hP hS (r_arr (k := 2) (by decide)) g8 (j := x1.toNatClampNeg) rfl (r_arrS (k := 2) (by decide)) dX6_saves_32 (fun H locs hP hS => ?_)
    rw [← eM9] at hP
    obtain ⟨z10, ez10, h⟩ := lt_out h
    refine lv_iinc (v := z10) (lv' := [(1, .int z10), (0, .ref (ad 89))]) C.1 C.2.1 dX6_saves_33 hl (k := 1) rfl (by rw [ez10]; rfl) (by decide) rfl (fun ls hl => ?_)
    refine lv_goto (tgt := 10) C.1 C.2.1 dX6_saves_36 (by decide) ?_
    exact hK10 hP hS (lv_sub hl [1, 0] rfl)  h
set_option maxRecDepth 100000 in
set_option maxHeartbeats 4000000 in
theorem w_X6_saves_h10 {res : SL} (C : Cx p s m args meth c cX6_saves 2 none RX6 wsX6_saves) (G : Gx D cs ad s) {Ls : Nat → SL} {Hs : SL} {T : SL} {dr : Int64} {hs : Int64} {o : Int64} {od : UInt64} : ∀ (n : Nat) {M : SL} {x1 : Int32} {H : Heap} {locs : List Loc} {ls : Array Slot}, va_P D vwCl (wA cs ad Ls Hs T M dr hs o od) H → va_S (Afr ad s.heap.size) s.heap H locs → lv_has ls 2 [(0, .ref (ad 89)), (1, .int x1)] → f_X6_saves_h10 n M x1 = some res → W p l e rmX6_saves s m args below meth c H locs 0 0 (MQ below (va_Qv (fun (_ : Unit) => True) (fun _ t => va_P D vwCl (wA cs ad Ls Hs T res dr hs o od) t.heap) (Afr ad s.heap.size)) args s 0 0 (Afr ad s.heap.size)) (F0 m 10 ls []) := by
  intro n
  induction n with
  | zero => intro M x1 H locs ls hP hS hl  h; cases h
  | succ n ih => intro M x1 H locs ls hP hS hl  h; exact w_X6_saves_b10 C G    ih hP hS hl  h
set_option maxRecDepth 100000 in
set_option maxHeartbeats 4000000 in
theorem w_X6_saves_e {res : SL} (C : Cx p s m args meth c cX6_saves 2 none RX6 wsX6_saves) (G : Gx D cs ad s) {Ls : Nat → SL} {Hs : SL} {T : SL} {dr : Int64} {hs : Int64} {o : Int64} {od : UInt64} {M : SL} {H : Heap} {locs : List Loc} {ls : Array Slot} (hP : va_P D vwCl (wA cs ad Ls Hs T M dr hs o od) H) (hS : va_S (Afr ad s.heap.size) s.heap H locs) (hl : lv_has ls 2 [(0, .ref (ad 89))]) (h : f_X6_saves M = some res) : W p l e rmX6_saves s m args below meth c H locs 0 0 (MQ below (va_Qv (fun (_ : Unit) => True) (fun _ t => va_P D vwCl (wA cs ad Ls Hs T res dr hs o od) t.heap) (Afr ad s.heap.size)) args s 0 0 (Afr ad s.heap.size)) (F0 m 0 ls []) := by
  unfold f_X6_saves at h
  refine lv_aload_n C.1 C.2.1 dX6_saves_0 rfl (lv_at hl 0 rfl) ?_
  obtain ⟨v1, ev1, h⟩ := lt_out h
  refine k_geti C G hP r_obj rfl 3 (by decide) n_X6_saves_X6 q_X6_saves_0 rfl ev1 dX6_saves_1 ?_
  refine lv_iconst (v := 4) C.1 C.2.1 dX6_saves_4 (by decide) ?_
  refine lv_icmp_ne (tgt := 49) C.1 C.2.1 dX6_saves_5 (by decide) (fun c2 => ?_) (fun c2 => ?_)
  · have h := if_t c2 h
    exact w_X6_saves_b49 C G hP hS (lv_sub hl [0] rfl) h
  · have h := if_n c2 h
    refine lv_iconst (v := 0) C.1 C.2.1 dX6_saves_8 (by decide) ?_
    refine lv_istore_n (lv' := [(1, .int 0), (0, .ref (ad 89))]) C.1 C.2.1 dX6_saves_9 rfl hl (by decide) rfl (fun ls hl => ?_)
    exact w_X6_saves_h10 C G fuel hP hS (lv_sub hl [1, 0] rfl) h
set_option maxRecDepth 100000 in
set_option maxHeartbeats 4000000 in
theorem m_X6_saves (l : Launch) {D : va_G} {cs : Nat → ClassId} {ad : Nat → Nat} (hAd : adOK ad) (sz : Nat) {Ls : Nat → SL} {Hs : SL} {T : SL} {M : SL} {dr : Int64} {hs : Int64} {o : Int64} {od : UInt64} {res : SL} (h : f_X6_saves M = some res) : Met l yX6_saves wsX6_saves rmX6_saves (PA D cs sz (wA cs ad Ls Hs T M dr hs o od) [.ref (ad 89)]) (va_Qv (fun (_ : Unit) => True) (fun _ t => va_P D vwCl (wA cs ad Ls Hs T res dr hs o od) t.heap) (Afr ad sz)) 0 0 (Afr ad sz) :=
  k_met (by decide) rfl (Nat.le_of_ble_eq_true rfl) hAd (fun p e s m below meth c ls C G hP hsz hl hS => by
    subst hsz
    exact w_X6_saves_e C G  hP hS hl  h)
/-! X6 undo -/
abbrev rmX6_undo : Room := { frames := 1, cells := 0, slots := 0, locals := 21 }
theorem q_X6_undo_0 : Cond.fieldLink RX6 33 "LineBuffersModel" "saved" "I" ∈ wsX6_undo := List.mem_of_getElem? (i := 1) rfl
theorem q_X6_undo_1 : Cond.fieldLink RX6 7 "LineBuffersModel" "now" "[I" ∈ wsX6_undo := List.mem_of_getElem? (i := 2) rfl
theorem q_X6_undo_2 : Cond.fieldLink RX6 13 "LineBuffersModel" "past" "[I" ∈ wsX6_undo := List.mem_of_getElem? (i := 3) rfl
theorem n_X6_undo_X6 : ∀ x ∈ u_ws RX6 TX6 12, x ∈ wsX6_undo := fun x h => List.mem_cons_of_mem _ (List.mem_append_right _ h)
set_option maxRecDepth 100000 in
set_option maxHeartbeats 4000000 in
theorem w_X6_undo_b33 {res : Int32 × SL} (C : Cx p s m args meth c cX6_undo 2 (some .int) RX6 wsX6_undo) (G : Gx D cs ad s) {Ls : Nat → SL} {Hs : SL} {T : SL} {dr : Int64} {hs : Int64} {o : Int64} {od : UInt64} {K33 : SL → Int32 → Option (Int32 × SL)} (hK33 : ∀ {M : SL} {x1 : Int32} {H : Heap} {locs : List Loc} {ls : Array Slot}, va_P D vwCl (wA cs ad Ls Hs T M dr hs o od) H → va_S (Afr ad s.heap.size) s.heap H locs → lv_has ls 2 [(0, .ref (ad 89)), (1, .int x1)] → K33 M x1 = some res → W p l e rmX6_undo s m args below meth c H locs 0 0 (MQ below (va_Qi (fun r' (_ : Unit) => r' = res.1) (fun _ t => va_P D vwCl (wA cs ad Ls Hs T res.2 dr hs o od) t.heap) (Afr ad s.heap.size)) args s 0 0 (Afr ad s.heap.size)) (F0 m 33 ls [])) {M : SL} {x1 : Int32} {H : Heap} {locs : List Loc} {ls : Array Slot} (hP : va_P D vwCl (wA cs ad Ls Hs T M dr hs o od) H) (hS : va_S (Afr ad s.heap.size) s.heap H locs) (hl : lv_has ls 2 [(0, .ref (ad 89)), (1, .int x1)]) (h : f_X6_undo_b33 K33 M x1 = some res) : W p l e rmX6_undo s m args below meth c H locs 0 0 (MQ below (va_Qi (fun r' (_ : Unit) => r' = res.1) (fun _ t => va_P D vwCl (wA cs ad Ls Hs T res.2 dr hs o od) t.heap) (Afr ad s.heap.size)) args s 0 0 (Afr ad s.heap.size)) (F0 m 33 ls []) := by
  unfold f_X6_undo_b33 at h
  refine lv_iload_n C.1 C.2.1 dX6_undo_33 rfl (lv_at hl 1 rfl) ?_
  refine lv_sipush (v := 251) C.1 C.2.1 dX6_undo_34 (by decide) ?_
  refine lv_icmp_ge (tgt := 67) C.1 C.2.1 dX6_undo_37 (by decide) (fun c1 => ?_) (fun c1 => ?_)
  · have h := if_t c1 h
    refine lv_aload_n C.1 C.2.1 dX6_undo_67 rfl (lv_at hl 0 rfl) ?_
    obtain ⟨v2, ev2, h⟩ := lt_out h
    refine k_geti C G hP r_obj rfl 3 (by decide) n_X6_undo_X6 q_X6_undo_0 rfl ev2 dX6_undo_68 ?_
    cases h
    exact k_iret C hP hS dX6_undo_71
  · have h := if_f c1 h
    refine lv_aload_n C.1 C.2.1 dX6_undo_40 rfl (lv_at hl 0 rfl) ?_
    refine k_getf C G hP r_obj rfl 0 (by decide) n_X6_undo_X6 q_X6_undo_1 (v := .ref (ad (89 + 1))) rfl dX6_undo_41 ?_
    refine lv_iload_n C.1 C.2.1 dX6_undo_44 rfl (lv_at hl 1 rfl) ?_
    refine lv_aload_n C.1 C.2.1 dX6_undo_45 rfl (lv_at hl 0 rfl) ?_
    refine k_getf C G hP r_obj rfl 1 (by decide) n_X6_undo_X6 q_X6_undo_2 (v := .ref (ad (89 + 2))) rfl dX6_undo_46 ?_
    refine lv_sipush (v := 251) C.1 C.2.1 dX6_undo_49 (by decide) ?_
    refine lv_aload_n C.1 C.2.1 dX6_undo_52 rfl (lv_at hl 0 rfl) ?_
    obtain ⟨v3, ev3, h⟩ := lt_out h
    refine k_geti C G hP r_obj rfl 3 (by decide) n_X6_undo_X6 q_X6_undo_0 rfl ev3 dX6_undo_53 ?_
    obtain ⟨v4, ev4, h⟩ := lt_out h
    refine k_imul C ev4 dX6_undo_56 ?_
    refine lv_iload_n C.1 C.2.1 dX6_undo_57 rfl (lv_at hl 1 rfl) ?_
    obtain ⟨v5, ev5, h⟩ := lt_out h
    refine k_iadd C ev5 dX6_undo_58 ?_
    obtain ⟨g6, h⟩ := gd_out h
    have g6 := chk_in g6
    obtain ⟨v7, ev7, h⟩ := lt_out h
    refine k_iald C G hP (r_arr (k := 2) (by decide)) g6 (j := v5.toNatClampNeg) rfl ev7 dX6_undo_59 ?_
    obtain ⟨g8, h⟩ := gd_out h
    have g8 := chk_in g8
    obtain ⟨M9, eM9, h⟩ := lt_out h
    refine k_iast C G hP hS (r_arr (k := 1) (by decide)) g8 (j := x1.toNatClampNeg) rfl (r_arrS (k := 1) (by decide)) dX6_undo_60 (fun H locs hP hS => ?_)
    rw [← eM9] at hP
    obtain ⟨z10, ez10, h⟩ := lt_out h
    refine lv_iinc (v := z10) (lv' := [(1, .int z10), (0, .ref (ad 89))]) C.1 C.2.1 dX6_undo_61 hl (k := 1) rfl (by rw [ez10]; rfl) (by decide) rfl (fun ls hl => ?_)
    refine lv_goto (tgt := 33) C.1 C.2.1 dX6_undo_64 (by decide) ?_
    exact hK33 hP hS (lv_sub hl [1, 0] rfl)  h
set_option maxRecDepth 100000 in
set_option maxHeartbeats 4000000 in
theorem w_X6_undo_h33 {res : Int32 × SL} (C : Cx p s m args meth c cX6_undo 2 (some .int) RX6 wsX6_undo) (G : Gx D cs ad s) {Ls : Nat → SL} {Hs : SL} {T : SL} {dr : Int64} {hs : Int64} {o : Int64} {od : UInt64} : ∀ (n : Nat) {M : SL} {x1 : Int32} {H : Heap} {locs : List Loc} {ls : Array Slot}, va_P D vwCl (wA cs ad Ls Hs T M dr hs o od) H → va_S (Afr ad s.heap.size) s.heap H locs → lv_has ls 2 [(0, .ref (ad 89)), (1, .int x1)] → f_X6_undo_h33 n M x1 = some res → W p l e rmX6_undo s m args below meth c H locs 0 0 (MQ below (va_Qi (fun r' (_ : Unit) => r' = res.1) (fun _ t => va_P D vwCl (wA cs ad Ls Hs T res.2 dr hs o od) t.heap) (Afr ad s.heap.size)) args s 0 0 (Afr ad s.heap.size)) (F0 m 33 ls []) := by
  intro n
  induction n with
  | zero => intro M x1 H locs ls hP hS hl  h; cases h
  | succ n ih => intro M x1 H locs ls hP hS hl  h; exact w_X6_undo_b33 C G    ih hP hS hl  h
set_option maxRecDepth 100000 in
set_option maxHeartbeats 4000000 in
theorem w_X6_undo_b13 {res : Int32 × SL} (C : Cx p s m args meth c cX6_undo 2 (some .int) RX6 wsX6_undo) (G : Gx D cs ad s) {Ls : Nat → SL} {Hs : SL} {T : SL} {dr : Int64} {hs : Int64} {o : Int64} {od : UInt64} {M : SL} {s1 : Int32} {H : Heap} {locs : List Loc} {ls : Array Slot} (hP : va_P D vwCl (wA cs ad Ls Hs T M dr hs o od) H) (hS : va_S (Afr ad s.heap.size) s.heap H locs) (hl : lv_has ls 2 [(0, .ref (ad 89))]) (h : f_X6_undo_b13 M s1 = some res) : W p l e rmX6_undo s m args below meth c H locs 0 0 (MQ below (va_Qi (fun r' (_ : Unit) => r' = res.1) (fun _ t => va_P D vwCl (wA cs ad Ls Hs T res.2 dr hs o od) t.heap) (Afr ad s.heap.size)) args s 0 0 (Afr ad s.heap.size)) (F0 m 13 ls [.int s1, .ref (ad 89)]) := by
  unfold f_X6_undo_b13 at h
  obtain ⟨r1, M2, c3, h⟩ := bd2_out h
  refine k_callVi C G hP hS (m_X6_refused l G.2.1 _  c3) r_obj rfl (cwV 1 C.2.2.2.2.2.1 gX6_undo_X6_refused rfl rfl rfl (by decide +kernel) ⟨Nat.le_of_ble_eq_true rfl, Nat.le_of_ble_eq_true rfl⟩) (As := [.int s1]) rfl hl.1 rfl (Nat.le_of_ble_eq_true rfl) dX6_undo_13 ⟨Nat.le_of_ble_eq_true rfl, Nat.le_of_ble_eq_true rfl⟩ (fun H locs hP hS => ?_)
  refine lv_if_eq (tgt := 21) C.1 C.2.1 dX6_undo_16 (by decide) (fun c4 => ?_) (fun c4 => ?_)
  · have h := if_t c4 h
    refine lv_aload_n C.1 C.2.1 dX6_undo_21 rfl (lv_at hl 0 rfl) ?_
    refine lv_dup C.1 C.2.1 dX6_undo_22 rfl ?_
    obtain ⟨v5, ev5, h⟩ := lt_out h
    refine k_geti C G hP r_obj rfl 3 (by decide) n_X6_undo_X6 q_X6_undo_0 rfl ev5 dX6_undo_23 ?_
    refine lv_iconst (v := 1) C.1 C.2.1 dX6_undo_26 (by decide) ?_
    obtain ⟨v6, ev6, h⟩ := lt_out h
    refine k_isub C ev6 dX6_undo_27 ?_
    obtain ⟨M7, eM7, h⟩ := lt_out h
    refine k_puti C G hP hS r_obj rfl 3 (by decide) n_X6_undo_X6 q_X6_undo_0 tyX6_ok nmX6 rfl (tyX6_ok 3 (by decide)) (Nat.le_of_ble_eq_true rfl) r_objS3 dX6_undo_28 (fun H locs hP hS => ?_)
    rw [← eM7] at hP
    refine lv_iconst (v := 0) C.1 C.2.1 dX6_undo_31 (by decide) ?_
    refine lv_istore_n (lv' := [(1, .int 0), (0, .ref (ad 89))]) C.1 C.2.1 dX6_undo_32 rfl hl (by decide) rfl (fun ls hl => ?_)
    exact w_X6_undo_h33 C G fuel hP hS (lv_sub hl [1, 0] rfl) h
  · have h := if_f c4 h
    refine lv_iconst (v := 0) C.1 C.2.1 dX6_undo_19 (by decide) ?_
    cases h
    exact k_iret C hP hS dX6_undo_20
set_option maxRecDepth 100000 in
set_option maxHeartbeats 4000000 in
theorem w_X6_undo_e {res : Int32 × SL} (C : Cx p s m args meth c cX6_undo 2 (some .int) RX6 wsX6_undo) (G : Gx D cs ad s) {Ls : Nat → SL} {Hs : SL} {T : SL} {dr : Int64} {hs : Int64} {o : Int64} {od : UInt64} {M : SL} {H : Heap} {locs : List Loc} {ls : Array Slot} (hP : va_P D vwCl (wA cs ad Ls Hs T M dr hs o od) H) (hS : va_S (Afr ad s.heap.size) s.heap H locs) (hl : lv_has ls 2 [(0, .ref (ad 89))]) (h : f_X6_undo M = some res) : W p l e rmX6_undo s m args below meth c H locs 0 0 (MQ below (va_Qi (fun r' (_ : Unit) => r' = res.1) (fun _ t => va_P D vwCl (wA cs ad Ls Hs T res.2 dr hs o od) t.heap) (Afr ad s.heap.size)) args s 0 0 (Afr ad s.heap.size)) (F0 m 0 ls []) := by
  unfold f_X6_undo at h
  refine lv_aload_n C.1 C.2.1 dX6_undo_0 rfl (lv_at hl 0 rfl) ?_
  refine lv_aload_n C.1 C.2.1 dX6_undo_1 rfl (lv_at hl 0 rfl) ?_
  obtain ⟨v1, ev1, h⟩ := lt_out h
  refine k_geti C G hP r_obj rfl 3 (by decide) n_X6_undo_X6 q_X6_undo_0 rfl ev1 dX6_undo_2 ?_
  refine lv_if_ne (tgt := 12) C.1 C.2.1 dX6_undo_5 (by decide) (fun c2 => ?_) (fun c2 => ?_)
  · have h := if_t c2 h
    refine lv_iconst (v := 0) C.1 C.2.1 dX6_undo_12 (by decide) ?_
    exact w_X6_undo_b13 C G hP hS (lv_sub hl [0] rfl) h
  · have h := if_n c2 h
    refine lv_iconst (v := 1) C.1 C.2.1 dX6_undo_8 (by decide) ?_
    refine lv_goto (tgt := 13) C.1 C.2.1 dX6_undo_9 (by decide) ?_
    exact w_X6_undo_b13 C G hP hS (lv_sub hl [0] rfl) h
set_option maxRecDepth 100000 in
set_option maxHeartbeats 4000000 in
theorem m_X6_undo (l : Launch) {D : va_G} {cs : Nat → ClassId} {ad : Nat → Nat} (hAd : adOK ad) (sz : Nat) {Ls : Nat → SL} {Hs : SL} {T : SL} {M : SL} {dr : Int64} {hs : Int64} {o : Int64} {od : UInt64} {res : Int32 × SL} (h : f_X6_undo M = some res) : Met l yX6_undo wsX6_undo rmX6_undo (PA D cs sz (wA cs ad Ls Hs T M dr hs o od) [.ref (ad 89)]) (va_Qi (fun r' (_ : Unit) => r' = res.1) (fun _ t => va_P D vwCl (wA cs ad Ls Hs T res.2 dr hs o od) t.heap) (Afr ad sz)) 0 0 (Afr ad sz) :=
  k_met (by decide) rfl (Nat.le_of_ble_eq_true rfl) hAd (fun p e s m below meth c ls C G hP hsz hl hS => by
    subst hsz
    exact w_X6_undo_e C G  hP hS hl  h)
/-! X6 keeps -/
abbrev rmX6_keeps : Room := { frames := 0, cells := 0, slots := 0, locals := 0 }
theorem q_X6_keeps_0 : Cond.fieldLink RX6 16 "LineBuffersModel" "aside" "[I" ∈ wsX6_keeps := List.mem_of_getElem? (i := 1) rfl
theorem q_X6_keeps_1 : Cond.fieldLink RX6 7 "LineBuffersModel" "now" "[I" ∈ wsX6_keeps := List.mem_of_getElem? (i := 2) rfl
theorem n_X6_keeps_X6 : ∀ x ∈ u_ws RX6 TX6 12, x ∈ wsX6_keeps := fun x h => List.mem_cons_of_mem _ (List.mem_append_right _ h)
set_option maxRecDepth 100000 in
set_option maxHeartbeats 4000000 in
theorem w_X6_keeps_b2 {res : SL} (C : Cx p s m args meth c cX6_keeps 2 none RX6 wsX6_keeps) (G : Gx D cs ad s) {Ls : Nat → SL} {Hs : SL} {T : SL} {dr : Int64} {hs : Int64} {o : Int64} {od : UInt64} {K2 : SL → Int32 → Option (SL)} (hK2 : ∀ {M : SL} {x1 : Int32} {H : Heap} {locs : List Loc} {ls : Array Slot}, va_P D vwCl (wA cs ad Ls Hs T M dr hs o od) H → va_S (Afr ad s.heap.size) s.heap H locs → lv_has ls 2 [(0, .ref (ad 89)), (1, .int x1)] → K2 M x1 = some res → W p l e rmX6_keeps s m args below meth c H locs 0 0 (MQ below (va_Qv (fun (_ : Unit) => True) (fun _ t => va_P D vwCl (wA cs ad Ls Hs T res dr hs o od) t.heap) (Afr ad s.heap.size)) args s 0 0 (Afr ad s.heap.size)) (F0 m 2 ls [])) {M : SL} {x1 : Int32} {H : Heap} {locs : List Loc} {ls : Array Slot} (hP : va_P D vwCl (wA cs ad Ls Hs T M dr hs o od) H) (hS : va_S (Afr ad s.heap.size) s.heap H locs) (hl : lv_has ls 2 [(0, .ref (ad 89)), (1, .int x1)]) (h : f_X6_keeps_b2 K2 M x1 = some res) : W p l e rmX6_keeps s m args below meth c H locs 0 0 (MQ below (va_Qv (fun (_ : Unit) => True) (fun _ t => va_P D vwCl (wA cs ad Ls Hs T res dr hs o od) t.heap) (Afr ad s.heap.size)) args s 0 0 (Afr ad s.heap.size)) (F0 m 2 ls []) := by
  unfold f_X6_keeps_b2 at h
  refine lv_iload_n C.1 C.2.1 dX6_keeps_2 rfl (lv_at hl 1 rfl) ?_
  refine lv_sipush (v := 251) C.1 C.2.1 dX6_keeps_3 (by decide) ?_
  refine lv_icmp_ge (tgt := 27) C.1 C.2.1 dX6_keeps_6 (by decide) (fun c1 => ?_) (fun c1 => ?_)
  · have h := if_t c1 h
    cases h
    exact k_vret C hP hS dX6_keeps_27
  · have h := if_f c1 h
    refine lv_aload_n C.1 C.2.1 dX6_keeps_9 rfl (lv_at hl 0 rfl) ?_
    refine k_getf C G hP r_obj rfl 2 (by decide) n_X6_keeps_X6 q_X6_keeps_0 (v := .ref (ad (89 + 3))) rfl dX6_keeps_10 ?_
    refine lv_iload_n C.1 C.2.1 dX6_keeps_13 rfl (lv_at hl 1 rfl) ?_
    refine lv_aload_n C.1 C.2.1 dX6_keeps_14 rfl (lv_at hl 0 rfl) ?_
    refine k_getf C G hP r_obj rfl 0 (by decide) n_X6_keeps_X6 q_X6_keeps_1 (v := .ref (ad (89 + 1))) rfl dX6_keeps_15 ?_
    refine lv_iload_n C.1 C.2.1 dX6_keeps_18 rfl (lv_at hl 1 rfl) ?_
    obtain ⟨g2, h⟩ := gd_out h
    have g2 := chk_in g2
    obtain ⟨v3, ev3, h⟩ := lt_out h
    refine k_iald C G hP (r_arr (k := 1) (by decide)) g2 (j := x1.toNatClampNeg) rfl ev3 dX6_keeps_19 ?_
    obtain ⟨M4, eM4, h⟩ := lt_out h
    refine k_iast C G hP hS (r_arr (k := 3) (by decide)) g2 (j := x1.toNatClampNeg) rfl (r_arrS (k := 3) (by decide)) dX6_keeps_20 (fun H locs hP hS => ?_)
    rw [← eM4] at hP
    obtain ⟨z5, ez5, h⟩ := lt_out h
    refine lv_iinc (v := z5) (lv' := [(1, .int z5), (0, .ref (ad 89))]) C.1 C.2.1 dX6_keeps_21 hl (k := 1) rfl (by rw [ez5]; rfl) (by decide) rfl (fun ls hl => ?_)
    refine lv_goto (tgt := 2) C.1 C.2.1 dX6_keeps_24 (by decide) ?_
    exact hK2 hP hS (lv_sub hl [1, 0] rfl)  h
set_option maxRecDepth 100000 in
set_option maxHeartbeats 4000000 in
theorem w_X6_keeps_h2 {res : SL} (C : Cx p s m args meth c cX6_keeps 2 none RX6 wsX6_keeps) (G : Gx D cs ad s) {Ls : Nat → SL} {Hs : SL} {T : SL} {dr : Int64} {hs : Int64} {o : Int64} {od : UInt64} : ∀ (n : Nat) {M : SL} {x1 : Int32} {H : Heap} {locs : List Loc} {ls : Array Slot}, va_P D vwCl (wA cs ad Ls Hs T M dr hs o od) H → va_S (Afr ad s.heap.size) s.heap H locs → lv_has ls 2 [(0, .ref (ad 89)), (1, .int x1)] → f_X6_keeps_h2 n M x1 = some res → W p l e rmX6_keeps s m args below meth c H locs 0 0 (MQ below (va_Qv (fun (_ : Unit) => True) (fun _ t => va_P D vwCl (wA cs ad Ls Hs T res dr hs o od) t.heap) (Afr ad s.heap.size)) args s 0 0 (Afr ad s.heap.size)) (F0 m 2 ls []) := by
  intro n
  induction n with
  | zero => intro M x1 H locs ls hP hS hl  h; cases h
  | succ n ih => intro M x1 H locs ls hP hS hl  h; exact w_X6_keeps_b2 C G    ih hP hS hl  h
set_option maxRecDepth 100000 in
set_option maxHeartbeats 4000000 in
theorem w_X6_keeps_e {res : SL} (C : Cx p s m args meth c cX6_keeps 2 none RX6 wsX6_keeps) (G : Gx D cs ad s) {Ls : Nat → SL} {Hs : SL} {T : SL} {dr : Int64} {hs : Int64} {o : Int64} {od : UInt64} {M : SL} {H : Heap} {locs : List Loc} {ls : Array Slot} (hP : va_P D vwCl (wA cs ad Ls Hs T M dr hs o od) H) (hS : va_S (Afr ad s.heap.size) s.heap H locs) (hl : lv_has ls 2 [(0, .ref (ad 89))]) (h : f_X6_keeps M = some res) : W p l e rmX6_keeps s m args below meth c H locs 0 0 (MQ below (va_Qv (fun (_ : Unit) => True) (fun _ t => va_P D vwCl (wA cs ad Ls Hs T res dr hs o od) t.heap) (Afr ad s.heap.size)) args s 0 0 (Afr ad s.heap.size)) (F0 m 0 ls []) := by
  unfold f_X6_keeps at h
  refine lv_iconst (v := 0) C.1 C.2.1 dX6_keeps_0 (by decide) ?_
  refine lv_istore_n (lv' := [(1, .int 0), (0, .ref (ad 89))]) C.1 C.2.1 dX6_keeps_1 rfl hl (by decide) rfl (fun ls hl => ?_)
  exact w_X6_keeps_h2 C G fuel hP hS (lv_sub hl [1, 0] rfl) h
set_option maxRecDepth 100000 in
set_option maxHeartbeats 4000000 in
theorem m_X6_keeps (l : Launch) {D : va_G} {cs : Nat → ClassId} {ad : Nat → Nat} (hAd : adOK ad) (sz : Nat) {Ls : Nat → SL} {Hs : SL} {T : SL} {M : SL} {dr : Int64} {hs : Int64} {o : Int64} {od : UInt64} {res : SL} (h : f_X6_keeps M = some res) : Met l yX6_keeps wsX6_keeps rmX6_keeps (PA D cs sz (wA cs ad Ls Hs T M dr hs o od) [.ref (ad 89)]) (va_Qv (fun (_ : Unit) => True) (fun _ t => va_P D vwCl (wA cs ad Ls Hs T res dr hs o od) t.heap) (Afr ad sz)) 0 0 (Afr ad sz) :=
  k_met (by decide) rfl (Nat.le_of_ble_eq_true rfl) hAd (fun p e s m below meth c ls C G hP hsz hl hS => by
    subst hsz
    exact w_X6_keeps_e C G  hP hS hl  h)
/-! X6 takesBack -/
abbrev rmX6_takesBack : Room := { frames := 0, cells := 0, slots := 0, locals := 0 }
theorem q_X6_takesBack_0 : Cond.fieldLink RX6 7 "LineBuffersModel" "now" "[I" ∈ wsX6_takesBack := List.mem_of_getElem? (i := 1) rfl
theorem q_X6_takesBack_1 : Cond.fieldLink RX6 16 "LineBuffersModel" "aside" "[I" ∈ wsX6_takesBack := List.mem_of_getElem? (i := 2) rfl
theorem n_X6_takesBack_X6 : ∀ x ∈ u_ws RX6 TX6 12, x ∈ wsX6_takesBack := fun x h => List.mem_cons_of_mem _ (List.mem_append_right _ h)
set_option maxRecDepth 100000 in
set_option maxHeartbeats 4000000 in
theorem w_X6_takesBack_b2 {res : SL} (C : Cx p s m args meth c cX6_takesBack 2 none RX6 wsX6_takesBack) (G : Gx D cs ad s) {Ls : Nat → SL} {Hs : SL} {T : SL} {dr : Int64} {hs : Int64} {o : Int64} {od : UInt64} {K2 : SL → Int32 → Option (SL)} (hK2 : ∀ {M : SL} {x1 : Int32} {H : Heap} {locs : List Loc} {ls : Array Slot}, va_P D vwCl (wA cs ad Ls Hs T M dr hs o od) H → va_S (Afr ad s.heap.size) s.heap H locs → lv_has ls 2 [(0, .ref (ad 89)), (1, .int x1)] → K2 M x1 = some res → W p l e rmX6_takesBack s m args below meth c H locs 0 0 (MQ below (va_Qv (fun (_ : Unit) => True) (fun _ t => va_P D vwCl (wA cs ad Ls Hs T res dr hs o od) t.heap) (Afr ad s.heap.size)) args s 0 0 (Afr ad s.heap.size)) (F0 m 2 ls [])) {M : SL} {x1 : Int32} {H : Heap} {locs : List Loc} {ls : Array Slot} (hP : va_P D vwCl (wA cs ad Ls Hs T M dr hs o od) H) (hS : va_S (Afr ad s.heap.size) s.heap H locs) (hl : lv_has ls 2 [(0, .ref (ad 89)), (1, .int x1)]) (h : f_X6_takesBack_b2 K2 M x1 = some res) : W p l e rmX6_takesBack s m args below meth c H locs 0 0 (MQ below (va_Qv (fun (_ : Unit) => True) (fun _ t => va_P D vwCl (wA cs ad Ls Hs T res dr hs o od) t.heap) (Afr ad s.heap.size)) args s 0 0 (Afr ad s.heap.size)) (F0 m 2 ls []) := by
  unfold f_X6_takesBack_b2 at h
  refine lv_iload_n C.1 C.2.1 dX6_takesBack_2 rfl (lv_at hl 1 rfl) ?_
  refine lv_sipush (v := 251) C.1 C.2.1 dX6_takesBack_3 (by decide) ?_
  refine lv_icmp_ge (tgt := 27) C.1 C.2.1 dX6_takesBack_6 (by decide) (fun c1 => ?_) (fun c1 => ?_)
  · have h := if_t c1 h
    cases h
    exact k_vret C hP hS dX6_takesBack_27
  · have h := if_f c1 h
    refine lv_aload_n C.1 C.2.1 dX6_takesBack_9 rfl (lv_at hl 0 rfl) ?_
    refine k_getf C G hP r_obj rfl 0 (by decide) n_X6_takesBack_X6 q_X6_takesBack_0 (v := .ref (ad (89 + 1))) rfl dX6_takesBack_10 ?_
    refine lv_iload_n C.1 C.2.1 dX6_takesBack_13 rfl (lv_at hl 1 rfl) ?_
    refine lv_aload_n C.1 C.2.1 dX6_takesBack_14 rfl (lv_at hl 0 rfl) ?_
    refine k_getf C G hP r_obj rfl 2 (by decide) n_X6_takesBack_X6 q_X6_takesBack_1 (v := .ref (ad (89 + 3))) rfl dX6_takesBack_15 ?_
    refine lv_iload_n C.1 C.2.1 dX6_takesBack_18 rfl (lv_at hl 1 rfl) ?_
    obtain ⟨g2, h⟩ := gd_out h
    have g2 := chk_in g2
    obtain ⟨v3, ev3, h⟩ := lt_out h
    refine k_iald C G hP (r_arr (k := 3) (by decide)) g2 (j := x1.toNatClampNeg) rfl ev3 dX6_takesBack_19 ?_
    obtain ⟨M4, eM4, h⟩ := lt_out h
    refine k_iast C G hP hS (r_arr (k := 1) (by decide)) g2 (j := x1.toNatClampNeg) rfl (r_arrS (k := 1) (by decide)) dX6_takesBack_20 (fun H locs hP hS => ?_)
    rw [← eM4] at hP
    obtain ⟨z5, ez5, h⟩ := lt_out h
    refine lv_iinc (v := z5) (lv' := [(1, .int z5), (0, .ref (ad 89))]) C.1 C.2.1 dX6_takesBack_21 hl (k := 1) rfl (by rw [ez5]; rfl) (by decide) rfl (fun ls hl => ?_)
    refine lv_goto (tgt := 2) C.1 C.2.1 dX6_takesBack_24 (by decide) ?_
    exact hK2 hP hS (lv_sub hl [1, 0] rfl)  h
set_option maxRecDepth 100000 in
set_option maxHeartbeats 4000000 in
theorem w_X6_takesBack_h2 {res : SL} (C : Cx p s m args meth c cX6_takesBack 2 none RX6 wsX6_takesBack) (G : Gx D cs ad s) {Ls : Nat → SL} {Hs : SL} {T : SL} {dr : Int64} {hs : Int64} {o : Int64} {od : UInt64} : ∀ (n : Nat) {M : SL} {x1 : Int32} {H : Heap} {locs : List Loc} {ls : Array Slot}, va_P D vwCl (wA cs ad Ls Hs T M dr hs o od) H → va_S (Afr ad s.heap.size) s.heap H locs → lv_has ls 2 [(0, .ref (ad 89)), (1, .int x1)] → f_X6_takesBack_h2 n M x1 = some res → W p l e rmX6_takesBack s m args below meth c H locs 0 0 (MQ below (va_Qv (fun (_ : Unit) => True) (fun _ t => va_P D vwCl (wA cs ad Ls Hs T res dr hs o od) t.heap) (Afr ad s.heap.size)) args s 0 0 (Afr ad s.heap.size)) (F0 m 2 ls []) := by
  intro n
  induction n with
  | zero => intro M x1 H locs ls hP hS hl  h; cases h
  | succ n ih => intro M x1 H locs ls hP hS hl  h; exact w_X6_takesBack_b2 C G    ih hP hS hl  h
set_option maxRecDepth 100000 in
set_option maxHeartbeats 4000000 in
theorem w_X6_takesBack_e {res : SL} (C : Cx p s m args meth c cX6_takesBack 2 none RX6 wsX6_takesBack) (G : Gx D cs ad s) {Ls : Nat → SL} {Hs : SL} {T : SL} {dr : Int64} {hs : Int64} {o : Int64} {od : UInt64} {M : SL} {H : Heap} {locs : List Loc} {ls : Array Slot} (hP : va_P D vwCl (wA cs ad Ls Hs T M dr hs o od) H) (hS : va_S (Afr ad s.heap.size) s.heap H locs) (hl : lv_has ls 2 [(0, .ref (ad 89))]) (h : f_X6_takesBack M = some res) : W p l e rmX6_takesBack s m args below meth c H locs 0 0 (MQ below (va_Qv (fun (_ : Unit) => True) (fun _ t => va_P D vwCl (wA cs ad Ls Hs T res dr hs o od) t.heap) (Afr ad s.heap.size)) args s 0 0 (Afr ad s.heap.size)) (F0 m 0 ls []) := by
  unfold f_X6_takesBack at h
  refine lv_iconst (v := 0) C.1 C.2.1 dX6_takesBack_0 (by decide) ?_
  refine lv_istore_n (lv' := [(1, .int 0), (0, .ref (ad 89))]) C.1 C.2.1 dX6_takesBack_1 rfl hl (by decide) rfl (fun ls hl => ?_)
  exact w_X6_takesBack_h2 C G fuel hP hS (lv_sub hl [1, 0] rfl) h
set_option maxRecDepth 100000 in
set_option maxHeartbeats 4000000 in
theorem m_X6_takesBack (l : Launch) {D : va_G} {cs : Nat → ClassId} {ad : Nat → Nat} (hAd : adOK ad) (sz : Nat) {Ls : Nat → SL} {Hs : SL} {T : SL} {M : SL} {dr : Int64} {hs : Int64} {o : Int64} {od : UInt64} {res : SL} (h : f_X6_takesBack M = some res) : Met l yX6_takesBack wsX6_takesBack rmX6_takesBack (PA D cs sz (wA cs ad Ls Hs T M dr hs o od) [.ref (ad 89)]) (va_Qv (fun (_ : Unit) => True) (fun _ t => va_P D vwCl (wA cs ad Ls Hs T res dr hs o od) t.heap) (Afr ad sz)) 0 0 (Afr ad sz) :=
  k_met (by decide) rfl (Nat.le_of_ble_eq_true rfl) hAd (fun p e s m below meth c ls C G hP hsz hl hS => by
    subst hsz
    exact w_X6_takesBack_e C G  hP hS hl  h)
/-! X6 areCycles -/
abbrev rmX6_areCycles : Room := { frames := 1, cells := 0, slots := 0, locals := 22 }
set_option maxRecDepth 100000 in
set_option maxHeartbeats 4000000 in
theorem w_X6_areCycles_b23 {res : Int32} (C : Cx p s m args meth c cX6_areCycles 2 (some .boolean) RX6 wsX6_areCycles) (G : Gx D cs ad s) {Ls : Nat → SL} {Hs : SL} {T : SL} {M : SL} {dr : Int64} {hs : Int64} {o : Int64} {od : UInt64} {H : Heap} {locs : List Loc} {ls : Array Slot} (hP : va_P D vwCl (wA cs ad Ls Hs T M dr hs o od) H) (hS : va_S (Afr ad s.heap.size) s.heap H locs) (hl : lv_has ls 2 []) (h : f_X6_areCycles_b23 = some res) : W p l e rmX6_areCycles s m args below meth c H locs 0 0 (MQ below (va_Qi (fun r' (_ : Unit) => r' = res) (fun _ t => va_P D vwCl (wA cs ad Ls Hs T M dr hs o od) t.heap) (Afr ad s.heap.size)) args s 0 0 (Afr ad s.heap.size)) (F0 m 23 ls []) := by
  unfold f_X6_areCycles_b23 at h
  refine lv_iconst (v := 0) C.1 C.2.1 dX6_areCycles_23 (by decide) ?_
  cases h
  exact k_zret C hP hS nar_0 dX6_areCycles_24
set_option maxRecDepth 100000 in
set_option maxHeartbeats 4000000 in
theorem w_X6_areCycles_e {res : Int32} (C : Cx p s m args meth c cX6_areCycles 2 (some .boolean) RX6 wsX6_areCycles) (G : Gx D cs ad s) {Ls : Nat → SL} {Hs : SL} {T : SL} {M : SL} {dr : Int64} {hs : Int64} {o : Int64} {od : UInt64} {x0 : Int32} {x1 : Int32} {H : Heap} {locs : List Loc} {ls : Array Slot} (hP : va_P D vwCl (wA cs ad Ls Hs T M dr hs o od) H) (hS : va_S (Afr ad s.heap.size) s.heap H locs) (hl : lv_has ls 2 [(0, .int x0), (1, .int x1)]) (h : f_X6_areCycles x0 x1 = some res) : W p l e rmX6_areCycles s m args below meth c H locs 0 0 (MQ below (va_Qi (fun r' (_ : Unit) => r' = res) (fun _ t => va_P D vwCl (wA cs ad Ls Hs T M dr hs o od) t.heap) (Afr ad s.heap.size)) args s 0 0 (Afr ad s.heap.size)) (F0 m 0 ls []) := by
  unfold f_X6_areCycles at h
  refine lv_iload_n C.1 C.2.1 dX6_areCycles_0 rfl (lv_at hl 0 rfl) ?_
  refine lv_iconst (v := 1) C.1 C.2.1 dX6_areCycles_1 (by decide) ?_
  refine lv_bipush (v := 20) C.1 C.2.1 dX6_areCycles_2 (by decide) ?_
  obtain ⟨r1, c2, h⟩ := bd_out h
  refine k_callSi C G hP hS (m_X6_within l G.2.1 _  c2) (va_cwS 3 C.2.2.2.2.2.1 gX6_areCycles_X6_within rfl rfl rfl (by decide +kernel) ⟨Nat.le_of_ble_eq_true rfl, Nat.le_of_ble_eq_true rfl⟩) (As := [.int x0, .int 1, .int 20]) rfl hl.1 rfl (Nat.le_of_ble_eq_true rfl) dX6_areCycles_4 ⟨Nat.le_of_ble_eq_true rfl, Nat.le_of_ble_eq_true rfl⟩ (fun H locs hP hS => ?_)
  refine lv_if_eq (tgt := 23) C.1 C.2.1 dX6_areCycles_7 (by decide) (fun c3 => ?_) (fun c3 => ?_)
  · have h := if_t c3 h
    exact w_X6_areCycles_b23 C G hP hS (lv_sub hl [] rfl) h
  · have h := if_f c3 h
    refine lv_iload_n C.1 C.2.1 dX6_areCycles_10 rfl (lv_at hl 1 rfl) ?_
    refine lv_iconst (v := 1) C.1 C.2.1 dX6_areCycles_11 (by decide) ?_
    refine lv_iload_n C.1 C.2.1 dX6_areCycles_12 rfl (lv_at hl 0 rfl) ?_
    obtain ⟨r4, c5, h⟩ := bd_out h
    refine k_callSi C G hP hS (m_X6_within l G.2.1 _  c5) (va_cwS 3 C.2.2.2.2.2.1 gX6_areCycles_X6_within rfl rfl rfl (by decide +kernel) ⟨Nat.le_of_ble_eq_true rfl, Nat.le_of_ble_eq_true rfl⟩) (As := [.int x1, .int 1, .int x0]) rfl hl.1 rfl (Nat.le_of_ble_eq_true rfl) dX6_areCycles_13 ⟨Nat.le_of_ble_eq_true rfl, Nat.le_of_ble_eq_true rfl⟩ (fun H locs hP hS => ?_)
    refine lv_if_eq (tgt := 23) C.1 C.2.1 dX6_areCycles_16 (by decide) (fun c6 => ?_) (fun c6 => ?_)
    · have h := if_t c6 h
      exact w_X6_areCycles_b23 C G hP hS (lv_sub hl [] rfl) h
    · have h := if_f c6 h
      refine lv_iconst (v := 1) C.1 C.2.1 dX6_areCycles_19 (by decide) ?_
      refine lv_goto (tgt := 24) C.1 C.2.1 dX6_areCycles_20 (by decide) ?_
      cases h
      exact k_zret C hP hS nar_1 dX6_areCycles_24
set_option maxRecDepth 100000 in
set_option maxHeartbeats 4000000 in
theorem m_X6_areCycles (l : Launch) {D : va_G} {cs : Nat → ClassId} {ad : Nat → Nat} (hAd : adOK ad) (sz : Nat) {Ls : Nat → SL} {Hs : SL} {T : SL} {M : SL} {dr : Int64} {hs : Int64} {o : Int64} {od : UInt64} {x0 : Int32} {x1 : Int32} {res : Int32} (h : f_X6_areCycles x0 x1 = some res) : Met l yX6_areCycles wsX6_areCycles rmX6_areCycles (PA D cs sz (wA cs ad Ls Hs T M dr hs o od) [.int x0, .int x1]) (va_Qi (fun r' (_ : Unit) => r' = res) (fun _ t => va_P D vwCl (wA cs ad Ls Hs T M dr hs o od) t.heap) (Afr ad sz)) 0 0 (Afr ad sz) :=
  k_met (by decide) rfl (Nat.le_of_ble_eq_true rfl) hAd (fun p e s m below meth c ls C G hP hsz hl hS => by
    subst hsz
    exact w_X6_areCycles_e C G  hP hS hl  h)
/-! X6 isCapacity -/
abbrev rmX6_isCapacity : Room := { frames := 1, cells := 0, slots := 0, locals := 22 }
set_option maxRecDepth 100000 in
set_option maxHeartbeats 4000000 in
theorem w_X6_isCapacity_e {res : Int32} (C : Cx p s m args meth c cX6_isCapacity 1 (some .boolean) RX6 wsX6_isCapacity) (G : Gx D cs ad s) {Ls : Nat → SL} {Hs : SL} {T : SL} {M : SL} {dr : Int64} {hs : Int64} {o : Int64} {od : UInt64} {x0 : Int32} {H : Heap} {locs : List Loc} {ls : Array Slot} (hP : va_P D vwCl (wA cs ad Ls Hs T M dr hs o od) H) (hS : va_S (Afr ad s.heap.size) s.heap H locs) (hl : lv_has ls 1 [(0, .int x0)]) (h : f_X6_isCapacity x0 = some res) : W p l e rmX6_isCapacity s m args below meth c H locs 0 0 (MQ below (va_Qi (fun r' (_ : Unit) => r' = res) (fun _ t => va_P D vwCl (wA cs ad Ls Hs T M dr hs o od) t.heap) (Afr ad s.heap.size)) args s 0 0 (Afr ad s.heap.size)) (F0 m 0 ls []) := by
  unfold f_X6_isCapacity at h
  refine lv_iload_n C.1 C.2.1 dX6_isCapacity_0 rfl (lv_at hl 0 rfl) ?_
  refine lv_iconst (v := 0) C.1 C.2.1 dX6_isCapacity_1 (by decide) ?_
  refine lv_bipush (v := 40) C.1 C.2.1 dX6_isCapacity_2 (by decide) ?_
  obtain ⟨r1, c2, h⟩ := bd_out h
  refine k_callSi C G hP hS (m_X6_within l G.2.1 _  c2) (va_cwS 3 C.2.2.2.2.2.1 gX6_isCapacity_X6_within rfl rfl rfl (by decide +kernel) ⟨Nat.le_of_ble_eq_true rfl, Nat.le_of_ble_eq_true rfl⟩) (As := [.int x0, .int 0, .int 40]) rfl hl.1 rfl (Nat.le_of_ble_eq_true rfl) dX6_isCapacity_4 ⟨Nat.le_of_ble_eq_true rfl, Nat.le_of_ble_eq_true rfl⟩ (fun H locs hP hS => ?_)
  obtain ⟨g3, h⟩ := gd_out h
  have g3 := isB_nar g3
  cases h
  exact k_zret C hP hS g3 dX6_isCapacity_7
set_option maxRecDepth 100000 in
set_option maxHeartbeats 4000000 in
theorem m_X6_isCapacity (l : Launch) {D : va_G} {cs : Nat → ClassId} {ad : Nat → Nat} (hAd : adOK ad) (sz : Nat) {Ls : Nat → SL} {Hs : SL} {T : SL} {M : SL} {dr : Int64} {hs : Int64} {o : Int64} {od : UInt64} {x0 : Int32} {res : Int32} (h : f_X6_isCapacity x0 = some res) : Met l yX6_isCapacity wsX6_isCapacity rmX6_isCapacity (PA D cs sz (wA cs ad Ls Hs T M dr hs o od) [.int x0]) (va_Qi (fun r' (_ : Unit) => r' = res) (fun _ t => va_P D vwCl (wA cs ad Ls Hs T M dr hs o od) t.heap) (Afr ad sz)) 0 0 (Afr ad sz) :=
  k_met (by decide) rfl (Nat.le_of_ble_eq_true rfl) hAd (fun p e s m below meth c ls C G hP hsz hl hS => by
    subst hsz
    exact w_X6_isCapacity_e C G  hP hS hl  h)
/-! X6 adds -/
abbrev rmX6_adds : Room := { frames := 1, cells := 0, slots := 0, locals := 20 }
theorem q_X6_adds_0 : Cond.fieldLink RX6 7 "LineBuffersModel" "now" "[I" ∈ wsX6_adds := List.mem_of_getElem? (i := 1) rfl
theorem n_X6_adds_X6 : ∀ x ∈ u_ws RX6 TX6 12, x ∈ wsX6_adds := fun x h => List.mem_cons_of_mem _ (List.mem_append_right _ h)
set_option maxRecDepth 100000 in
set_option maxHeartbeats 4000000 in
theorem w_X6_adds_b14 {res : SL} (C : Cx p s m args meth c cX6_adds 6 none RX6 wsX6_adds) (G : Gx D cs ad s) {Ls : Nat → SL} {Hs : SL} {T : SL} {dr : Int64} {hs : Int64} {o : Int64} {od : UInt64} {K14 : SL → Int32 → Int32 → Int32 → Int32 → Int32 → Option (SL)} (hK14 : ∀ {M : SL} {x1 : Int32} {x2 : Int32} {x3 : Int32} {x4 : Int32} {x5 : Int32} {H : Heap} {locs : List Loc} {ls : Array Slot}, va_P D vwCl (wA cs ad Ls Hs T M dr hs o od) H → va_S (Afr ad s.heap.size) s.heap H locs → lv_has ls 6 [(0, .ref (ad 89)), (1, .int x1), (2, .int x2), (3, .int x3), (4, .int x4), (5, .int x5)] → K14 M x1 x2 x3 x4 x5 = some res → W p l e rmX6_adds s m args below meth c H locs 0 0 (MQ below (va_Qv (fun (_ : Unit) => True) (fun _ t => va_P D vwCl (wA cs ad Ls Hs T res dr hs o od) t.heap) (Afr ad s.heap.size)) args s 0 0 (Afr ad s.heap.size)) (F0 m 14 ls [])) {M : SL} {x1 : Int32} {x2 : Int32} {x3 : Int32} {x4 : Int32} {x5 : Int32} {H : Heap} {locs : List Loc} {ls : Array Slot} (hP : va_P D vwCl (wA cs ad Ls Hs T M dr hs o od) H) (hS : va_S (Afr ad s.heap.size) s.heap H locs) (hl : lv_has ls 6 [(0, .ref (ad 89)), (1, .int x1), (2, .int x2), (3, .int x3), (4, .int x4), (5, .int x5)]) (h : f_X6_adds_b14 K14 M x1 x2 x3 x4 x5 = some res) : W p l e rmX6_adds s m args below meth c H locs 0 0 (MQ below (va_Qv (fun (_ : Unit) => True) (fun _ t => va_P D vwCl (wA cs ad Ls Hs T res dr hs o od) t.heap) (Afr ad s.heap.size)) args s 0 0 (Afr ad s.heap.size)) (F0 m 14 ls []) := by
  unfold f_X6_adds_b14 at h
  refine lv_iload C.1 C.2.1 dX6_adds_14 (lv_at hl 5 rfl) ?_
  refine lv_bipush (v := 16) C.1 C.2.1 dX6_adds_16 (by decide) ?_
  refine lv_icmp_ge (tgt := 38) C.1 C.2.1 dX6_adds_18 (by decide) (fun c1 => ?_) (fun c1 => ?_)
  · have h := if_t c1 h
    refine lv_aload_n C.1 C.2.1 dX6_adds_38 rfl (lv_at hl 0 rfl) ?_
    refine k_getf C G hP r_obj rfl 0 (by decide) n_X6_adds_X6 q_X6_adds_0 (v := .ref (ad (89 + 1))) rfl dX6_adds_39 ?_
    refine lv_iload C.1 C.2.1 dX6_adds_42 (lv_at hl 4 rfl) ?_
    refine lv_iconst (v := 0) C.1 C.2.1 dX6_adds_44 (by decide) ?_
    obtain ⟨v2, ev2, h⟩ := lt_out h
    refine k_iadd C ev2 dX6_adds_45 ?_
    refine lv_iload_n C.1 C.2.1 dX6_adds_46 rfl (lv_at hl 1 rfl) ?_
    obtain ⟨g3, h⟩ := gd_out h
    have g3 := chk_in g3
    obtain ⟨M4, eM4, h⟩ := lt_out h
    refine k_iast C G hP hS (r_arr (k := 1) (by decide)) g3 (j := v2.toNatClampNeg) rfl (r_arrS (k := 1) (by decide)) dX6_adds_47 (fun H locs hP hS => ?_)
    rw [← eM4] at hP
    refine lv_aload_n C.1 C.2.1 dX6_adds_48 rfl (lv_at hl 0 rfl) ?_
    refine k_getf C G hP r_obj rfl 0 (by decide) n_X6_adds_X6 q_X6_adds_0 (v := .ref (ad (89 + 1))) rfl dX6_adds_49 ?_
    refine lv_iload C.1 C.2.1 dX6_adds_52 (lv_at hl 4 rfl) ?_
    refine lv_iconst (v := 1) C.1 C.2.1 dX6_adds_54 (by decide) ?_
    obtain ⟨v5, ev5, h⟩ := lt_out h
    refine k_iadd C ev5 dX6_adds_55 ?_
    refine lv_iload_n C.1 C.2.1 dX6_adds_56 rfl (lv_at hl 2 rfl) ?_
    obtain ⟨g6, h⟩ := gd_out h
    have g6 := chk_in g6
    obtain ⟨M7, eM7, h⟩ := lt_out h
    refine k_iast C G hP hS (r_arr (k := 1) (by decide)) g6 (j := v5.toNatClampNeg) rfl (r_arrS (k := 1) (by decide)) dX6_adds_57 (fun H locs hP hS => ?_)
    rw [← eM7] at hP
    refine lv_aload_n C.1 C.2.1 dX6_adds_58 rfl (lv_at hl 0 rfl) ?_
    refine k_getf C G hP r_obj rfl 0 (by decide) n_X6_adds_X6 q_X6_adds_0 (v := .ref (ad (89 + 1))) rfl dX6_adds_59 ?_
    refine lv_iload C.1 C.2.1 dX6_adds_62 (lv_at hl 4 rfl) ?_
    refine lv_iconst (v := 3) C.1 C.2.1 dX6_adds_64 (by decide) ?_
    obtain ⟨v8, ev8, h⟩ := lt_out h
    refine k_iadd C ev8 dX6_adds_65 ?_
    refine lv_bipush (v := 40) C.1 C.2.1 dX6_adds_66 (by decide) ?_
    obtain ⟨g9, h⟩ := gd_out h
    have g9 := chk_in g9
    obtain ⟨M10, eM10, h⟩ := lt_out h
    refine k_iast C G hP hS (r_arr (k := 1) (by decide)) g9 (j := v8.toNatClampNeg) rfl (r_arrS (k := 1) (by decide)) dX6_adds_68 (fun H locs hP hS => ?_)
    rw [← eM10] at hP
    refine lv_aload_n C.1 C.2.1 dX6_adds_69 rfl (lv_at hl 0 rfl) ?_
    refine k_getf C G hP r_obj rfl 0 (by decide) n_X6_adds_X6 q_X6_adds_0 (v := .ref (ad (89 + 1))) rfl dX6_adds_70 ?_
    refine lv_iload C.1 C.2.1 dX6_adds_73 (lv_at hl 4 rfl) ?_
    refine lv_iconst (v := 4) C.1 C.2.1 dX6_adds_75 (by decide) ?_
    obtain ⟨v11, ev11, h⟩ := lt_out h
    refine k_iadd C ev11 dX6_adds_76 ?_
    refine lv_iload_n C.1 C.2.1 dX6_adds_77 rfl (lv_at hl 3 rfl) ?_
    obtain ⟨g12, h⟩ := gd_out h
    have g12 := chk_in g12
    obtain ⟨M13, eM13, h⟩ := lt_out h
    refine k_iast C G hP hS (r_arr (k := 1) (by decide)) g12 (j := v11.toNatClampNeg) rfl (r_arrS (k := 1) (by decide)) dX6_adds_78 (fun H locs hP hS => ?_)
    rw [← eM13] at hP
    refine lv_aload_n C.1 C.2.1 dX6_adds_79 rfl (lv_at hl 0 rfl) ?_
    refine k_getf C G hP r_obj rfl 0 (by decide) n_X6_adds_X6 q_X6_adds_0 (v := .ref (ad (89 + 1))) rfl dX6_adds_80 ?_
    refine lv_iload C.1 C.2.1 dX6_adds_83 (lv_at hl 4 rfl) ?_
    refine lv_bipush (v := 6) C.1 C.2.1 dX6_adds_85 (by decide) ?_
    obtain ⟨v14, ev14, h⟩ := lt_out h
    refine k_iadd C ev14 dX6_adds_87 ?_
    refine lv_iconst (v := (-1)) C.1 C.2.1 dX6_adds_88 (by decide) ?_
    obtain ⟨g15, h⟩ := gd_out h
    have g15 := chk_in g15
    obtain ⟨M16, eM16, h⟩ := lt_out h
    refine k_iast C G hP hS (r_arr (k := 1) (by decide)) g15 (j := v14.toNatClampNeg) rfl (r_arrS (k := 1) (by decide)) dX6_adds_89 (fun H locs hP hS => ?_)
    rw [← eM16] at hP
    refine lv_aload_n C.1 C.2.1 dX6_adds_90 rfl (lv_at hl 0 rfl) ?_
    refine k_getf C G hP r_obj rfl 0 (by decide) n_X6_adds_X6 q_X6_adds_0 (v := .ref (ad (89 + 1))) rfl dX6_adds_91 ?_
    refine lv_iload C.1 C.2.1 dX6_adds_94 (lv_at hl 4 rfl) ?_
    refine lv_bipush (v := 7) C.1 C.2.1 dX6_adds_96 (by decide) ?_
    obtain ⟨v17, ev17, h⟩ := lt_out h
    refine k_iadd C ev17 dX6_adds_98 ?_
    refine lv_iconst (v := 1) C.1 C.2.1 dX6_adds_99 (by decide) ?_
    obtain ⟨g18, h⟩ := gd_out h
    have g18 := chk_in g18
    obtain ⟨M19, eM19, h⟩ := lt_out h
    refine k_iast C G hP hS (r_arr (k := 1) (by decide)) g18 (j := v17.toNatClampNeg) rfl (r_arrS (k := 1) (by decide)) dX6_adds_100 (fun H locs hP hS => ?_)
    rw [← eM19] at hP
    refine lv_aload_n C.1 C.2.1 dX6_adds_101 rfl (lv_at hl 0 rfl) ?_
    refine k_getf C G hP r_obj rfl 0 (by decide) n_X6_adds_X6 q_X6_adds_0 (v := .ref (ad (89 + 1))) rfl dX6_adds_102 ?_
    refine lv_iconst (v := 0) C.1 C.2.1 dX6_adds_105 (by decide) ?_
    refine lv_dup2_11 C.1 C.2.1 dX6_adds_106 rfl rfl ?_
    obtain ⟨v20, ev20, h⟩ := lt_out h
    refine k_iald C G hP (r_arr (k := 1) (by decide)) (chk_in rfl) (j := 0) rfl ev20 dX6_adds_107 ?_
    refine lv_iconst (v := 1) C.1 C.2.1 dX6_adds_108 (by decide) ?_
    obtain ⟨v21, ev21, h⟩ := lt_out h
    refine k_iadd C ev21 dX6_adds_109 ?_
    obtain ⟨M22, eM22, h⟩ := lt_out h
    refine k_iast C G hP hS (r_arr (k := 1) (by decide)) (chk_in rfl) (j := 0) rfl (r_arrS (k := 1) (by decide)) dX6_adds_110 (fun H locs hP hS => ?_)
    rw [← eM22] at hP
    cases h
    exact k_vret C hP hS dX6_adds_111
  · have h := if_f c1 h
    refine lv_aload_n C.1 C.2.1 dX6_adds_21 rfl (lv_at hl 0 rfl) ?_
    refine k_getf C G hP r_obj rfl 0 (by decide) n_X6_adds_X6 q_X6_adds_0 (v := .ref (ad (89 + 1))) rfl dX6_adds_22 ?_
    refine lv_iload C.1 C.2.1 dX6_adds_25 (lv_at hl 4 rfl) ?_
    refine lv_iload C.1 C.2.1 dX6_adds_27 (lv_at hl 5 rfl) ?_
    obtain ⟨v23, ev23, h⟩ := lt_out h
    refine k_iadd C ev23 dX6_adds_29 ?_
    refine lv_iconst (v := 0) C.1 C.2.1 dX6_adds_30 (by decide) ?_
    obtain ⟨g24, h⟩ := gd_out h
    have g24 := chk_in g24
    obtain ⟨M25, eM25, h⟩ := lt_out h
    refine k_iast C G hP hS (r_arr (k := 1) (by decide)) g24 (j := v23.toNatClampNeg) rfl (r_arrS (k := 1) (by decide)) dX6_adds_31 (fun H locs hP hS => ?_)
    rw [← eM25] at hP
    obtain ⟨z26, ez26, h⟩ := lt_out h
    refine lv_iinc (v := z26) (lv' := [(5, .int z26), (0, .ref (ad 89)), (1, .int x1), (2, .int x2), (3, .int x3), (4, .int x4)]) C.1 C.2.1 dX6_adds_32 hl (k := 5) rfl (by rw [ez26]; rfl) (by decide) rfl (fun ls hl => ?_)
    refine lv_goto (tgt := 14) C.1 C.2.1 dX6_adds_35 (by decide) ?_
    exact hK14 hP hS (lv_sub hl [1, 2, 3, 4, 5, 0] rfl)  h
set_option maxRecDepth 100000 in
set_option maxHeartbeats 4000000 in
theorem w_X6_adds_h14 {res : SL} (C : Cx p s m args meth c cX6_adds 6 none RX6 wsX6_adds) (G : Gx D cs ad s) {Ls : Nat → SL} {Hs : SL} {T : SL} {dr : Int64} {hs : Int64} {o : Int64} {od : UInt64} : ∀ (n : Nat) {M : SL} {x1 : Int32} {x2 : Int32} {x3 : Int32} {x4 : Int32} {x5 : Int32} {H : Heap} {locs : List Loc} {ls : Array Slot}, va_P D vwCl (wA cs ad Ls Hs T M dr hs o od) H → va_S (Afr ad s.heap.size) s.heap H locs → lv_has ls 6 [(0, .ref (ad 89)), (1, .int x1), (2, .int x2), (3, .int x3), (4, .int x4), (5, .int x5)] → f_X6_adds_h14 n M x1 x2 x3 x4 x5 = some res → W p l e rmX6_adds s m args below meth c H locs 0 0 (MQ below (va_Qv (fun (_ : Unit) => True) (fun _ t => va_P D vwCl (wA cs ad Ls Hs T res dr hs o od) t.heap) (Afr ad s.heap.size)) args s 0 0 (Afr ad s.heap.size)) (F0 m 14 ls []) := by
  intro n
  induction n with
  | zero => intro M x1 x2 x3 x4 x5 H locs ls hP hS hl  h; cases h
  | succ n ih => intro M x1 x2 x3 x4 x5 H locs ls hP hS hl  h; exact w_X6_adds_b14 C G    ih hP hS hl  h
set_option maxRecDepth 100000 in
set_option maxHeartbeats 4000000 in
theorem w_X6_adds_e {res : SL} (C : Cx p s m args meth c cX6_adds 6 none RX6 wsX6_adds) (G : Gx D cs ad s) {Ls : Nat → SL} {Hs : SL} {T : SL} {dr : Int64} {hs : Int64} {o : Int64} {od : UInt64} {M : SL} {x1 : Int32} {x2 : Int32} {x3 : Int32} {H : Heap} {locs : List Loc} {ls : Array Slot} (hP : va_P D vwCl (wA cs ad Ls Hs T M dr hs o od) H) (hS : va_S (Afr ad s.heap.size) s.heap H locs) (hl : lv_has ls 6 [(0, .ref (ad 89)), (1, .int x1), (2, .int x2), (3, .int x3)]) (h : f_X6_adds M x1 x2 x3 = some res) : W p l e rmX6_adds s m args below meth c H locs 0 0 (MQ below (va_Qv (fun (_ : Unit) => True) (fun _ t => va_P D vwCl (wA cs ad Ls Hs T res dr hs o od) t.heap) (Afr ad s.heap.size)) args s 0 0 (Afr ad s.heap.size)) (F0 m 0 ls []) := by
  unfold f_X6_adds at h
  refine lv_aload_n C.1 C.2.1 dX6_adds_0 rfl (lv_at hl 0 rfl) ?_
  refine k_getf C G hP r_obj rfl 0 (by decide) n_X6_adds_X6 q_X6_adds_0 (v := .ref (ad (89 + 1))) rfl dX6_adds_1 ?_
  refine lv_iconst (v := 0) C.1 C.2.1 dX6_adds_4 (by decide) ?_
  obtain ⟨v1, ev1, h⟩ := lt_out h
  refine k_iald C G hP (r_arr (k := 1) (by decide)) (chk_in rfl) (j := 0) rfl ev1 dX6_adds_5 ?_
  obtain ⟨r2, c3, h⟩ := bd_out h
  refine k_callSi C G hP hS (m_X6_of l G.2.1 _  c3) (va_cwS 1 C.2.2.2.2.2.1 gX6_adds_X6_of rfl rfl rfl (by decide +kernel) ⟨Nat.le_of_ble_eq_true rfl, Nat.le_of_ble_eq_true rfl⟩) (As := [.int v1]) rfl hl.1 rfl (Nat.le_of_ble_eq_true rfl) dX6_adds_6 ⟨Nat.le_of_ble_eq_true rfl, Nat.le_of_ble_eq_true rfl⟩ (fun H locs hP hS => ?_)
  refine lv_istore (lv' := [(4, .int r2), (0, .ref (ad 89)), (1, .int x1), (2, .int x2), (3, .int x3)]) C.1 C.2.1 dX6_adds_9 hl (by decide) rfl (fun ls hl => ?_)
  refine lv_iconst (v := 0) C.1 C.2.1 dX6_adds_11 (by decide) ?_
  refine lv_istore (lv' := [(5, .int 0), (4, .int r2), (0, .ref (ad 89)), (1, .int x1), (2, .int x2), (3, .int x3)]) C.1 C.2.1 dX6_adds_12 hl (by decide) rfl (fun ls hl => ?_)
  exact w_X6_adds_h14 C G fuel hP hS (lv_sub hl [2, 3, 4, 5, 1, 0] rfl) h
set_option maxRecDepth 100000 in
set_option maxHeartbeats 4000000 in
theorem m_X6_adds (l : Launch) {D : va_G} {cs : Nat → ClassId} {ad : Nat → Nat} (hAd : adOK ad) (sz : Nat) {Ls : Nat → SL} {Hs : SL} {T : SL} {M : SL} {dr : Int64} {hs : Int64} {o : Int64} {od : UInt64} {x1 : Int32} {x2 : Int32} {x3 : Int32} {res : SL} (h : f_X6_adds M x1 x2 x3 = some res) : Met l yX6_adds wsX6_adds rmX6_adds (PA D cs sz (wA cs ad Ls Hs T M dr hs o od) [.ref (ad 89), .int x1, .int x2, .int x3]) (va_Qv (fun (_ : Unit) => True) (fun _ t => va_P D vwCl (wA cs ad Ls Hs T res dr hs o od) t.heap) (Afr ad sz)) 0 0 (Afr ad sz) :=
  k_met (by decide) rfl (Nat.le_of_ble_eq_true rfl) hAd (fun p e s m below meth c ls C G hP hsz hl hS => by
    subst hsz
    exact w_X6_adds_e C G  hP hS hl  h)
/-! X6 addMachine -/
abbrev rmX6_addMachine : Room := { frames := 2, cells := 0, slots := 0, locals := 45 }
theorem q_X6_addMachine_0 : Cond.fieldLink RX6 7 "LineBuffersModel" "now" "[I" ∈ wsX6_addMachine := List.mem_of_getElem? (i := 1) rfl
theorem n_X6_addMachine_X6 : ∀ x ∈ u_ws RX6 TX6 12, x ∈ wsX6_addMachine := fun x h => List.mem_cons_of_mem _ (List.mem_append_right _ h)
set_option maxRecDepth 100000 in
set_option maxHeartbeats 4000000 in
theorem w_X6_addMachine_b45 {res : Int32 × SL} (C : Cx p s m args meth c cX6_addMachine 4 (some .int) RX6 wsX6_addMachine) (G : Gx D cs ad s) {Ls : Nat → SL} {Hs : SL} {T : SL} {dr : Int64} {hs : Int64} {o : Int64} {od : UInt64} {M : SL} {x1 : Int32} {x2 : Int32} {x3 : Int32} {s1 : Int32} {H : Heap} {locs : List Loc} {ls : Array Slot} (hP : va_P D vwCl (wA cs ad Ls Hs T M dr hs o od) H) (hS : va_S (Afr ad s.heap.size) s.heap H locs) (hl : lv_has ls 4 [(0, .ref (ad 89)), (1, .int x1), (2, .int x2), (3, .int x3)]) (h : f_X6_addMachine_b45 M x1 x2 x3 s1 = some res) : W p l e rmX6_addMachine s m args below meth c H locs 0 0 (MQ below (va_Qi (fun r' (_ : Unit) => r' = res.1) (fun _ t => va_P D vwCl (wA cs ad Ls Hs T res.2 dr hs o od) t.heap) (Afr ad s.heap.size)) args s 0 0 (Afr ad s.heap.size)) (F0 m 45 ls [.int s1, .ref (ad 89)]) := by
  unfold f_X6_addMachine_b45 at h
  obtain ⟨r1, M2, c3, h⟩ := bd2_out h
  refine k_callVi C G hP hS (m_X6_refused l G.2.1 _  c3) r_obj rfl (cwV 1 C.2.2.2.2.2.1 gX6_addMachine_X6_refused rfl rfl rfl (by decide +kernel) ⟨Nat.le_of_ble_eq_true rfl, Nat.le_of_ble_eq_true rfl⟩) (As := [.int s1]) rfl hl.1 rfl (Nat.le_of_ble_eq_true rfl) dX6_addMachine_45 ⟨Nat.le_of_ble_eq_true rfl, Nat.le_of_ble_eq_true rfl⟩ (fun H locs hP hS => ?_)
  refine lv_if_eq (tgt := 53) C.1 C.2.1 dX6_addMachine_48 (by decide) (fun c4 => ?_) (fun c4 => ?_)
  · have h := if_t c4 h
    refine lv_aload_n C.1 C.2.1 dX6_addMachine_53 rfl (lv_at hl 0 rfl) ?_
    obtain ⟨M5, c6, h⟩ := bd_out h
    refine k_callVv C G hP hS (m_X6_saves l G.2.1 _  c6) r_obj rfl (cwV 0 C.2.2.2.2.2.1 gX6_addMachine_X6_saves rfl rfl rfl (by decide +kernel) ⟨Nat.le_of_ble_eq_true rfl, Nat.le_of_ble_eq_true rfl⟩) (As := []) rfl hl.1 rfl (Nat.le_of_ble_eq_true rfl) dX6_addMachine_54 ⟨Nat.le_of_ble_eq_true rfl, Nat.le_of_ble_eq_true rfl⟩ (fun H locs hP hS => ?_)
    refine lv_aload_n C.1 C.2.1 dX6_addMachine_57 rfl (lv_at hl 0 rfl) ?_
    refine lv_iload_n C.1 C.2.1 dX6_addMachine_58 rfl (lv_at hl 1 rfl) ?_
    refine lv_iload_n C.1 C.2.1 dX6_addMachine_59 rfl (lv_at hl 2 rfl) ?_
    refine lv_iload_n C.1 C.2.1 dX6_addMachine_60 rfl (lv_at hl 3 rfl) ?_
    obtain ⟨M7, c8, h⟩ := bd_out h
    refine k_callVv C G hP hS (m_X6_adds l G.2.1 _  c8) r_obj rfl (cwV 3 C.2.2.2.2.2.1 gX6_addMachine_X6_adds rfl rfl rfl (by decide +kernel) ⟨Nat.le_of_ble_eq_true rfl, Nat.le_of_ble_eq_true rfl⟩) (As := [.int x1, .int x2, .int x3]) rfl hl.1 rfl (Nat.le_of_ble_eq_true rfl) dX6_addMachine_61 ⟨Nat.le_of_ble_eq_true rfl, Nat.le_of_ble_eq_true rfl⟩ (fun H locs hP hS => ?_)
    refine lv_aload_n C.1 C.2.1 dX6_addMachine_64 rfl (lv_at hl 0 rfl) ?_
    refine k_getf C G hP r_obj rfl 0 (by decide) n_X6_addMachine_X6 q_X6_addMachine_0 (v := .ref (ad (89 + 1))) rfl dX6_addMachine_65 ?_
    refine lv_iconst (v := 0) C.1 C.2.1 dX6_addMachine_68 (by decide) ?_
    obtain ⟨v9, ev9, h⟩ := lt_out h
    refine k_iald C G hP (r_arr (k := 1) (by decide)) (chk_in rfl) (j := 0) rfl ev9 dX6_addMachine_69 ?_
    refine lv_iconst (v := 1) C.1 C.2.1 dX6_addMachine_70 (by decide) ?_
    obtain ⟨v10, ev10, h⟩ := lt_out h
    refine k_isub C ev10 dX6_addMachine_71 ?_
    cases h
    exact k_iret C hP hS dX6_addMachine_72
  · have h := if_f c4 h
    refine lv_iconst (v := 0) C.1 C.2.1 dX6_addMachine_51 (by decide) ?_
    cases h
    exact k_iret C hP hS dX6_addMachine_52
set_option maxRecDepth 100000 in
set_option maxHeartbeats 4000000 in
theorem w_X6_addMachine_b16 {res : Int32 × SL} (C : Cx p s m args meth c cX6_addMachine 4 (some .int) RX6 wsX6_addMachine) (G : Gx D cs ad s) {Ls : Nat → SL} {Hs : SL} {T : SL} {dr : Int64} {hs : Int64} {o : Int64} {od : UInt64} {M : SL} {x1 : Int32} {x2 : Int32} {x3 : Int32} {H : Heap} {locs : List Loc} {ls : Array Slot} (hP : va_P D vwCl (wA cs ad Ls Hs T M dr hs o od) H) (hS : va_S (Afr ad s.heap.size) s.heap H locs) (hl : lv_has ls 4 [(0, .ref (ad 89)), (1, .int x1), (2, .int x2), (3, .int x3)]) (h : f_X6_addMachine_b16 M x1 x2 x3 = some res) : W p l e rmX6_addMachine s m args below meth c H locs 0 0 (MQ below (va_Qi (fun r' (_ : Unit) => r' = res.1) (fun _ t => va_P D vwCl (wA cs ad Ls Hs T res.2 dr hs o od) t.heap) (Afr ad s.heap.size)) args s 0 0 (Afr ad s.heap.size)) (F0 m 16 ls [.ref (ad 89)]) := by
  unfold f_X6_addMachine_b16 at h
  refine lv_iconst (v := 1) C.1 C.2.1 dX6_addMachine_16 (by decide) ?_
  refine lv_goto (tgt := 45) C.1 C.2.1 dX6_addMachine_17 (by decide) ?_
  exact w_X6_addMachine_b45 C G hP hS (lv_sub hl [0, 1, 2, 3] rfl) h
set_option maxRecDepth 100000 in
set_option maxHeartbeats 4000000 in
theorem w_X6_addMachine_b40 {res : Int32 × SL} (C : Cx p s m args meth c cX6_addMachine 4 (some .int) RX6 wsX6_addMachine) (G : Gx D cs ad s) {Ls : Nat → SL} {Hs : SL} {T : SL} {dr : Int64} {hs : Int64} {o : Int64} {od : UInt64} {M : SL} {x1 : Int32} {x2 : Int32} {x3 : Int32} {H : Heap} {locs : List Loc} {ls : Array Slot} (hP : va_P D vwCl (wA cs ad Ls Hs T M dr hs o od) H) (hS : va_S (Afr ad s.heap.size) s.heap H locs) (hl : lv_has ls 4 [(0, .ref (ad 89)), (1, .int x1), (2, .int x2), (3, .int x3)]) (h : f_X6_addMachine_b40 M x1 x2 x3 = some res) : W p l e rmX6_addMachine s m args below meth c H locs 0 0 (MQ below (va_Qi (fun r' (_ : Unit) => r' = res.1) (fun _ t => va_P D vwCl (wA cs ad Ls Hs T res.2 dr hs o od) t.heap) (Afr ad s.heap.size)) args s 0 0 (Afr ad s.heap.size)) (F0 m 40 ls [.ref (ad 89)]) := by
  unfold f_X6_addMachine_b40 at h
  refine lv_iconst (v := 2) C.1 C.2.1 dX6_addMachine_40 (by decide) ?_
  refine lv_goto (tgt := 45) C.1 C.2.1 dX6_addMachine_41 (by decide) ?_
  exact w_X6_addMachine_b45 C G hP hS (lv_sub hl [0, 1, 2, 3] rfl) h
set_option maxRecDepth 100000 in
set_option maxHeartbeats 4000000 in
theorem w_X6_addMachine_e {res : Int32 × SL} (C : Cx p s m args meth c cX6_addMachine 4 (some .int) RX6 wsX6_addMachine) (G : Gx D cs ad s) {Ls : Nat → SL} {Hs : SL} {T : SL} {dr : Int64} {hs : Int64} {o : Int64} {od : UInt64} {M : SL} {x1 : Int32} {x2 : Int32} {x3 : Int32} {H : Heap} {locs : List Loc} {ls : Array Slot} (hP : va_P D vwCl (wA cs ad Ls Hs T M dr hs o od) H) (hS : va_S (Afr ad s.heap.size) s.heap H locs) (hl : lv_has ls 4 [(0, .ref (ad 89)), (1, .int x1), (2, .int x2), (3, .int x3)]) (h : f_X6_addMachine M x1 x2 x3 = some res) : W p l e rmX6_addMachine s m args below meth c H locs 0 0 (MQ below (va_Qi (fun r' (_ : Unit) => r' = res.1) (fun _ t => va_P D vwCl (wA cs ad Ls Hs T res.2 dr hs o od) t.heap) (Afr ad s.heap.size)) args s 0 0 (Afr ad s.heap.size)) (F0 m 0 ls []) := by
  unfold f_X6_addMachine at h
  refine lv_aload_n C.1 C.2.1 dX6_addMachine_0 rfl (lv_at hl 0 rfl) ?_
  refine lv_iload_n C.1 C.2.1 dX6_addMachine_1 rfl (lv_at hl 1 rfl) ?_
  refine lv_iload_n C.1 C.2.1 dX6_addMachine_2 rfl (lv_at hl 2 rfl) ?_
  obtain ⟨r1, c2, h⟩ := bd_out h
  refine k_callSi C G hP hS (m_X6_areCycles l G.2.1 _  c2) (va_cwS 2 C.2.2.2.2.2.1 gX6_addMachine_X6_areCycles rfl rfl rfl (by decide +kernel) ⟨Nat.le_of_ble_eq_true rfl, Nat.le_of_ble_eq_true rfl⟩) (As := [.int x1, .int x2]) rfl hl.1 rfl (Nat.le_of_ble_eq_true rfl) dX6_addMachine_3 ⟨Nat.le_of_ble_eq_true rfl, Nat.le_of_ble_eq_true rfl⟩ (fun H locs hP hS => ?_)
  refine lv_if_eq (tgt := 16) C.1 C.2.1 dX6_addMachine_6 (by decide) (fun c3 => ?_) (fun c3 => ?_)
  · have h := if_t c3 h
    exact w_X6_addMachine_b16 C G hP hS (lv_sub hl [0, 1, 2, 3] rfl) h
  · have h := if_f c3 h
    refine lv_iload_n C.1 C.2.1 dX6_addMachine_9 rfl (lv_at hl 3 rfl) ?_
    obtain ⟨r4, c5, h⟩ := bd_out h
    refine k_callSi C G hP hS (m_X6_isCapacity l G.2.1 _  c5) (va_cwS 1 C.2.2.2.2.2.1 gX6_addMachine_X6_isCapacity rfl rfl rfl (by decide +kernel) ⟨Nat.le_of_ble_eq_true rfl, Nat.le_of_ble_eq_true rfl⟩) (As := [.int x3]) rfl hl.1 rfl (Nat.le_of_ble_eq_true rfl) dX6_addMachine_10 ⟨Nat.le_of_ble_eq_true rfl, Nat.le_of_ble_eq_true rfl⟩ (fun H locs hP hS => ?_)
    refine lv_if_ne (tgt := 20) C.1 C.2.1 dX6_addMachine_13 (by decide) (fun c6 => ?_) (fun c6 => ?_)
    · have h := if_t c6 h
      refine lv_aload_n C.1 C.2.1 dX6_addMachine_20 rfl (lv_at hl 0 rfl) ?_
      refine k_getf C G hP r_obj rfl 0 (by decide) n_X6_addMachine_X6 q_X6_addMachine_0 (v := .ref (ad (89 + 1))) rfl dX6_addMachine_21 ?_
      refine lv_iconst (v := 0) C.1 C.2.1 dX6_addMachine_24 (by decide) ?_
      obtain ⟨v7, ev7, h⟩ := lt_out h
      refine k_iald C G hP (r_arr (k := 1) (by decide)) (chk_in rfl) (j := 0) rfl ev7 dX6_addMachine_25 ?_
      refine lv_bipush (v := 8) C.1 C.2.1 dX6_addMachine_26 (by decide) ?_
      refine lv_icmp_eq (tgt := 40) C.1 C.2.1 dX6_addMachine_28 (by decide) (fun c8 => ?_) (fun c8 => ?_)
      · have h := if_t c8 h
        exact w_X6_addMachine_b40 C G hP hS (lv_sub hl [0, 1, 2, 3] rfl) h
      · have h := if_f c8 h
        refine lv_aload_n C.1 C.2.1 dX6_addMachine_31 rfl (lv_at hl 0 rfl) ?_
        refine k_getf C G hP r_obj rfl 0 (by decide) n_X6_addMachine_X6 q_X6_addMachine_0 (v := .ref (ad (89 + 1))) rfl dX6_addMachine_32 ?_
        refine lv_iconst (v := 1) C.1 C.2.1 dX6_addMachine_35 (by decide) ?_
        obtain ⟨v9, ev9, h⟩ := lt_out h
        refine k_iald C G hP (r_arr (k := 1) (by decide)) (chk_in rfl) (j := 1) rfl ev9 dX6_addMachine_36 ?_
        refine lv_if_le (tgt := 44) C.1 C.2.1 dX6_addMachine_37 (by decide) (fun c10 => ?_) (fun c10 => ?_)
        · have h := if_t c10 h
          refine lv_iconst (v := 0) C.1 C.2.1 dX6_addMachine_44 (by decide) ?_
          exact w_X6_addMachine_b45 C G hP hS (lv_sub hl [0, 1, 2, 3] rfl) h
        · have h := if_f c10 h
          exact w_X6_addMachine_b40 C G hP hS (lv_sub hl [0, 1, 2, 3] rfl) h
    · have h := if_n c6 h
      exact w_X6_addMachine_b16 C G hP hS (lv_sub hl [0, 1, 2, 3] rfl) h
set_option maxRecDepth 100000 in
set_option maxHeartbeats 4000000 in
theorem m_X6_addMachine (l : Launch) {D : va_G} {cs : Nat → ClassId} {ad : Nat → Nat} (hAd : adOK ad) (sz : Nat) {Ls : Nat → SL} {Hs : SL} {T : SL} {M : SL} {dr : Int64} {hs : Int64} {o : Int64} {od : UInt64} {x1 : Int32} {x2 : Int32} {x3 : Int32} {res : Int32 × SL} (h : f_X6_addMachine M x1 x2 x3 = some res) : Met l yX6_addMachine wsX6_addMachine rmX6_addMachine (PA D cs sz (wA cs ad Ls Hs T M dr hs o od) [.ref (ad 89), .int x1, .int x2, .int x3]) (va_Qi (fun r' (_ : Unit) => r' = res.1) (fun _ t => va_P D vwCl (wA cs ad Ls Hs T res.2 dr hs o od) t.heap) (Afr ad sz)) 0 0 (Afr ad sz) :=
  k_met (by decide) rfl (Nat.le_of_ble_eq_true rfl) hAd (fun p e s m below meth c ls C G hP hsz hl hS => by
    subst hsz
    exact w_X6_addMachine_e C G  hP hS hl  h)
/-! X6 areMarks -/
abbrev rmX6_areMarks : Room := { frames := 1, cells := 0, slots := 0, locals := 22 }
set_option maxRecDepth 100000 in
set_option maxHeartbeats 4000000 in
theorem w_X6_areMarks_b23 {res : Int32} (C : Cx p s m args meth c cX6_areMarks 2 (some .boolean) RX6 wsX6_areMarks) (G : Gx D cs ad s) {Ls : Nat → SL} {Hs : SL} {T : SL} {M : SL} {dr : Int64} {hs : Int64} {o : Int64} {od : UInt64} {H : Heap} {locs : List Loc} {ls : Array Slot} (hP : va_P D vwCl (wA cs ad Ls Hs T M dr hs o od) H) (hS : va_S (Afr ad s.heap.size) s.heap H locs) (hl : lv_has ls 2 []) (h : f_X6_areMarks_b23 = some res) : W p l e rmX6_areMarks s m args below meth c H locs 0 0 (MQ below (va_Qi (fun r' (_ : Unit) => r' = res) (fun _ t => va_P D vwCl (wA cs ad Ls Hs T M dr hs o od) t.heap) (Afr ad s.heap.size)) args s 0 0 (Afr ad s.heap.size)) (F0 m 23 ls []) := by
  unfold f_X6_areMarks_b23 at h
  refine lv_iconst (v := 0) C.1 C.2.1 dX6_areMarks_23 (by decide) ?_
  cases h
  exact k_zret C hP hS nar_0 dX6_areMarks_24
set_option maxRecDepth 100000 in
set_option maxHeartbeats 4000000 in
theorem w_X6_areMarks_e {res : Int32} (C : Cx p s m args meth c cX6_areMarks 2 (some .boolean) RX6 wsX6_areMarks) (G : Gx D cs ad s) {Ls : Nat → SL} {Hs : SL} {T : SL} {M : SL} {dr : Int64} {hs : Int64} {o : Int64} {od : UInt64} {x0 : Int32} {x1 : Int32} {H : Heap} {locs : List Loc} {ls : Array Slot} (hP : va_P D vwCl (wA cs ad Ls Hs T M dr hs o od) H) (hS : va_S (Afr ad s.heap.size) s.heap H locs) (hl : lv_has ls 2 [(0, .int x0), (1, .int x1)]) (h : f_X6_areMarks x0 x1 = some res) : W p l e rmX6_areMarks s m args below meth c H locs 0 0 (MQ below (va_Qi (fun r' (_ : Unit) => r' = res) (fun _ t => va_P D vwCl (wA cs ad Ls Hs T M dr hs o od) t.heap) (Afr ad s.heap.size)) args s 0 0 (Afr ad s.heap.size)) (F0 m 0 ls []) := by
  unfold f_X6_areMarks at h
  refine lv_iload_n C.1 C.2.1 dX6_areMarks_0 rfl (lv_at hl 1 rfl) ?_
  refine lv_iconst (v := 0) C.1 C.2.1 dX6_areMarks_1 (by decide) ?_
  refine lv_bipush (v := 40) C.1 C.2.1 dX6_areMarks_2 (by decide) ?_
  obtain ⟨r1, c2, h⟩ := bd_out h
  refine k_callSi C G hP hS (m_X6_within l G.2.1 _  c2) (va_cwS 3 C.2.2.2.2.2.1 gX6_areMarks_X6_within rfl rfl rfl (by decide +kernel) ⟨Nat.le_of_ble_eq_true rfl, Nat.le_of_ble_eq_true rfl⟩) (As := [.int x1, .int 0, .int 40]) rfl hl.1 rfl (Nat.le_of_ble_eq_true rfl) dX6_areMarks_4 ⟨Nat.le_of_ble_eq_true rfl, Nat.le_of_ble_eq_true rfl⟩ (fun H locs hP hS => ?_)
  refine lv_if_eq (tgt := 23) C.1 C.2.1 dX6_areMarks_7 (by decide) (fun c3 => ?_) (fun c3 => ?_)
  · have h := if_t c3 h
    exact w_X6_areMarks_b23 C G hP hS (lv_sub hl [] rfl) h
  · have h := if_f c3 h
    refine lv_iload_n C.1 C.2.1 dX6_areMarks_10 rfl (lv_at hl 0 rfl) ?_
    refine lv_iconst (v := 0) C.1 C.2.1 dX6_areMarks_11 (by decide) ?_
    refine lv_iload_n C.1 C.2.1 dX6_areMarks_12 rfl (lv_at hl 1 rfl) ?_
    obtain ⟨r4, c5, h⟩ := bd_out h
    refine k_callSi C G hP hS (m_X6_within l G.2.1 _  c5) (va_cwS 3 C.2.2.2.2.2.1 gX6_areMarks_X6_within rfl rfl rfl (by decide +kernel) ⟨Nat.le_of_ble_eq_true rfl, Nat.le_of_ble_eq_true rfl⟩) (As := [.int x0, .int 0, .int x1]) rfl hl.1 rfl (Nat.le_of_ble_eq_true rfl) dX6_areMarks_13 ⟨Nat.le_of_ble_eq_true rfl, Nat.le_of_ble_eq_true rfl⟩ (fun H locs hP hS => ?_)
    refine lv_if_eq (tgt := 23) C.1 C.2.1 dX6_areMarks_16 (by decide) (fun c6 => ?_) (fun c6 => ?_)
    · have h := if_t c6 h
      exact w_X6_areMarks_b23 C G hP hS (lv_sub hl [] rfl) h
    · have h := if_f c6 h
      refine lv_iconst (v := 1) C.1 C.2.1 dX6_areMarks_19 (by decide) ?_
      refine lv_goto (tgt := 24) C.1 C.2.1 dX6_areMarks_20 (by decide) ?_
      cases h
      exact k_zret C hP hS nar_1 dX6_areMarks_24
set_option maxRecDepth 100000 in
set_option maxHeartbeats 4000000 in
theorem m_X6_areMarks (l : Launch) {D : va_G} {cs : Nat → ClassId} {ad : Nat → Nat} (hAd : adOK ad) (sz : Nat) {Ls : Nat → SL} {Hs : SL} {T : SL} {M : SL} {dr : Int64} {hs : Int64} {o : Int64} {od : UInt64} {x0 : Int32} {x1 : Int32} {res : Int32} (h : f_X6_areMarks x0 x1 = some res) : Met l yX6_areMarks wsX6_areMarks rmX6_areMarks (PA D cs sz (wA cs ad Ls Hs T M dr hs o od) [.int x0, .int x1]) (va_Qi (fun r' (_ : Unit) => r' = res) (fun _ t => va_P D vwCl (wA cs ad Ls Hs T M dr hs o od) t.heap) (Afr ad sz)) 0 0 (Afr ad sz) :=
  k_met (by decide) rfl (Nat.le_of_ble_eq_true rfl) hAd (fun p e s m below meth c ls C G hP hsz hl hS => by
    subst hsz
    exact w_X6_areMarks_e C G  hP hS hl  h)
/-! X6 setMachine -/
abbrev rmX6_setMachine : Room := { frames := 2, cells := 0, slots := 0, locals := 43 }
theorem q_X6_setMachine_0 : Cond.fieldLink RX6 7 "LineBuffersModel" "now" "[I" ∈ wsX6_setMachine := List.mem_of_getElem? (i := 1) rfl
theorem n_X6_setMachine_X6 : ∀ x ∈ u_ws RX6 TX6 12, x ∈ wsX6_setMachine := fun x h => List.mem_cons_of_mem _ (List.mem_append_right _ h)
set_option maxRecDepth 100000 in
set_option maxHeartbeats 4000000 in
theorem w_X6_setMachine_b36 {res : Int32 × SL} (C : Cx p s m args meth c cX6_setMachine 8 (some .int) RX6 wsX6_setMachine) (G : Gx D cs ad s) {Ls : Nat → SL} {Hs : SL} {T : SL} {dr : Int64} {hs : Int64} {o : Int64} {od : UInt64} {M : SL} {x1 : Int32} {x2 : Int32} {x3 : Int32} {x4 : Int32} {x5 : Int32} {s1 : Int32} {H : Heap} {locs : List Loc} {ls : Array Slot} (hP : va_P D vwCl (wA cs ad Ls Hs T M dr hs o od) H) (hS : va_S (Afr ad s.heap.size) s.heap H locs) (hl : lv_has ls 8 [(0, .ref (ad 89)), (1, .int x1), (2, .int x2), (3, .int x3), (4, .int x4), (5, .int x5)]) (h : f_X6_setMachine_b36 M x1 x2 x3 x4 x5 s1 = some res) : W p l e rmX6_setMachine s m args below meth c H locs 0 0 (MQ below (va_Qi (fun r' (_ : Unit) => r' = res.1) (fun _ t => va_P D vwCl (wA cs ad Ls Hs T res.2 dr hs o od) t.heap) (Afr ad s.heap.size)) args s 0 0 (Afr ad s.heap.size)) (F0 m 36 ls [.int s1, .ref (ad 89)]) := by
  unfold f_X6_setMachine_b36 at h
  obtain ⟨r1, M2, c3, h⟩ := bd2_out h
  refine k_callVi C G hP hS (m_X6_refused l G.2.1 _  c3) r_obj rfl (cwV 1 C.2.2.2.2.2.1 gX6_setMachine_X6_refused rfl rfl rfl (by decide +kernel) ⟨Nat.le_of_ble_eq_true rfl, Nat.le_of_ble_eq_true rfl⟩) (As := [.int s1]) rfl hl.1 rfl (Nat.le_of_ble_eq_true rfl) dX6_setMachine_36 ⟨Nat.le_of_ble_eq_true rfl, Nat.le_of_ble_eq_true rfl⟩ (fun H locs hP hS => ?_)
  refine lv_if_eq (tgt := 44) C.1 C.2.1 dX6_setMachine_39 (by decide) (fun c4 => ?_) (fun c4 => ?_)
  · have h := if_t c4 h
    refine lv_aload_n C.1 C.2.1 dX6_setMachine_44 rfl (lv_at hl 0 rfl) ?_
    obtain ⟨M5, c6, h⟩ := bd_out h
    refine k_callVv C G hP hS (m_X6_saves l G.2.1 _  c6) r_obj rfl (cwV 0 C.2.2.2.2.2.1 gX6_setMachine_X6_saves rfl rfl rfl (by decide +kernel) ⟨Nat.le_of_ble_eq_true rfl, Nat.le_of_ble_eq_true rfl⟩) (As := []) rfl hl.1 rfl (Nat.le_of_ble_eq_true rfl) dX6_setMachine_45 ⟨Nat.le_of_ble_eq_true rfl, Nat.le_of_ble_eq_true rfl⟩ (fun H locs hP hS => ?_)
    refine lv_iload_n C.1 C.2.1 dX6_setMachine_48 rfl (lv_at hl 1 rfl) ?_
    obtain ⟨r7, c8, h⟩ := bd_out h
    refine k_callSi C G hP hS (m_X6_of l G.2.1 _  c8) (va_cwS 1 C.2.2.2.2.2.1 gX6_setMachine_X6_of rfl rfl rfl (by decide +kernel) ⟨Nat.le_of_ble_eq_true rfl, Nat.le_of_ble_eq_true rfl⟩) (As := [.int x1]) rfl hl.1 rfl (Nat.le_of_ble_eq_true rfl) dX6_setMachine_49 ⟨Nat.le_of_ble_eq_true rfl, Nat.le_of_ble_eq_true rfl⟩ (fun H locs hP hS => ?_)
    refine lv_istore (lv' := [(6, .int r7), (0, .ref (ad 89)), (1, .int x1), (2, .int x2), (3, .int x3), (4, .int x4), (5, .int x5)]) C.1 C.2.1 dX6_setMachine_52 hl (by decide) rfl (fun ls hl => ?_)
    refine lv_aload_n C.1 C.2.1 dX6_setMachine_54 rfl (lv_at hl 1 rfl) ?_
    refine k_getf C G hP r_obj rfl 0 (by decide) n_X6_setMachine_X6 q_X6_setMachine_0 (v := .ref (ad (89 + 1))) rfl dX6_setMachine_55 ?_
    refine lv_iload C.1 C.2.1 dX6_setMachine_58 (lv_at hl 0 rfl) ?_
    refine lv_iconst (v := 1) C.1 C.2.1 dX6_setMachine_60 (by decide) ?_
    obtain ⟨v9, ev9, h⟩ := lt_out h
    refine k_iadd C ev9 dX6_setMachine_61 ?_
    obtain ⟨g10, h⟩ := gd_out h
    have g10 := chk_in g10
    obtain ⟨v11, ev11, h⟩ := lt_out h
    refine k_iald C G hP (r_arr (k := 1) (by decide)) g10 (j := v9.toNatClampNeg) rfl ev11 dX6_setMachine_62 ?_
    refine lv_istore (lv' := [(7, .int v11), (6, .int r7), (0, .ref (ad 89)), (1, .int x1), (2, .int x2), (3, .int x3), (4, .int x4), (5, .int x5)]) C.1 C.2.1 dX6_setMachine_63 hl (by decide) rfl (fun ls hl => ?_)
    refine lv_aload_n C.1 C.2.1 dX6_setMachine_65 rfl (lv_at hl 2 rfl) ?_
    refine k_getf C G hP r_obj rfl 0 (by decide) n_X6_setMachine_X6 q_X6_setMachine_0 (v := .ref (ad (89 + 1))) rfl dX6_setMachine_66 ?_
    refine lv_iload C.1 C.2.1 dX6_setMachine_69 (lv_at hl 1 rfl) ?_
    refine lv_iconst (v := 0) C.1 C.2.1 dX6_setMachine_71 (by decide) ?_
    obtain ⟨v12, ev12, h⟩ := lt_out h
    refine k_iadd C ev12 dX6_setMachine_72 ?_
    refine lv_iload_n C.1 C.2.1 dX6_setMachine_73 rfl (lv_at hl 4 rfl) ?_
    obtain ⟨g13, h⟩ := gd_out h
    have g13 := chk_in g13
    obtain ⟨M14, eM14, h⟩ := lt_out h
    refine k_iast C G hP hS (r_arr (k := 1) (by decide)) g13 (j := v12.toNatClampNeg) rfl (r_arrS (k := 1) (by decide)) dX6_setMachine_74 (fun H locs hP hS => ?_)
    rw [← eM14] at hP
    refine lv_aload_n C.1 C.2.1 dX6_setMachine_75 rfl (lv_at hl 2 rfl) ?_
    refine k_getf C G hP r_obj rfl 0 (by decide) n_X6_setMachine_X6 q_X6_setMachine_0 (v := .ref (ad (89 + 1))) rfl dX6_setMachine_76 ?_
    refine lv_iload C.1 C.2.1 dX6_setMachine_79 (lv_at hl 1 rfl) ?_
    refine lv_iconst (v := 1) C.1 C.2.1 dX6_setMachine_81 (by decide) ?_
    obtain ⟨v15, ev15, h⟩ := lt_out h
    refine k_iadd C ev15 dX6_setMachine_82 ?_
    refine lv_iload_n C.1 C.2.1 dX6_setMachine_83 rfl (lv_at hl 5 rfl) ?_
    obtain ⟨g16, h⟩ := gd_out h
    have g16 := chk_in g16
    obtain ⟨M17, eM17, h⟩ := lt_out h
    refine k_iast C G hP hS (r_arr (k := 1) (by decide)) g16 (j := v15.toNatClampNeg) rfl (r_arrS (k := 1) (by decide)) dX6_setMachine_84 (fun H locs hP hS => ?_)
    rw [← eM17] at hP
    refine lv_aload_n C.1 C.2.1 dX6_setMachine_85 rfl (lv_at hl 2 rfl) ?_
    refine k_getf C G hP r_obj rfl 0 (by decide) n_X6_setMachine_X6 q_X6_setMachine_0 (v := .ref (ad (89 + 1))) rfl dX6_setMachine_86 ?_
    refine lv_iload C.1 C.2.1 dX6_setMachine_89 (lv_at hl 1 rfl) ?_
    refine lv_iconst (v := 2) C.1 C.2.1 dX6_setMachine_91 (by decide) ?_
    obtain ⟨v18, ev18, h⟩ := lt_out h
    refine k_iadd C ev18 dX6_setMachine_92 ?_
    refine lv_iload C.1 C.2.1 dX6_setMachine_93 (lv_at hl 6 rfl) ?_
    obtain ⟨g19, h⟩ := gd_out h
    have g19 := chk_in g19
    obtain ⟨M20, eM20, h⟩ := lt_out h
    refine k_iast C G hP hS (r_arr (k := 1) (by decide)) g19 (j := v18.toNatClampNeg) rfl (r_arrS (k := 1) (by decide)) dX6_setMachine_95 (fun H locs hP hS => ?_)
    rw [← eM20] at hP
    refine lv_aload_n C.1 C.2.1 dX6_setMachine_96 rfl (lv_at hl 2 rfl) ?_
    refine k_getf C G hP r_obj rfl 0 (by decide) n_X6_setMachine_X6 q_X6_setMachine_0 (v := .ref (ad (89 + 1))) rfl dX6_setMachine_97 ?_
    refine lv_iload C.1 C.2.1 dX6_setMachine_100 (lv_at hl 1 rfl) ?_
    refine lv_iconst (v := 3) C.1 C.2.1 dX6_setMachine_102 (by decide) ?_
    obtain ⟨v21, ev21, h⟩ := lt_out h
    refine k_iadd C ev21 dX6_setMachine_103 ?_
    refine lv_iload C.1 C.2.1 dX6_setMachine_104 (lv_at hl 7 rfl) ?_
    obtain ⟨g22, h⟩ := gd_out h
    have g22 := chk_in g22
    obtain ⟨M23, eM23, h⟩ := lt_out h
    refine k_iast C G hP hS (r_arr (k := 1) (by decide)) g22 (j := v21.toNatClampNeg) rfl (r_arrS (k := 1) (by decide)) dX6_setMachine_106 (fun H locs hP hS => ?_)
    rw [← eM23] at hP
    refine lv_iload C.1 C.2.1 dX6_setMachine_107 (lv_at hl 0 rfl) ?_
    cases h
    exact k_iret C hP hS dX6_setMachine_109
  · have h := if_f c4 h
    refine lv_iconst (v := 0) C.1 C.2.1 dX6_setMachine_42 (by decide) ?_
    cases h
    exact k_iret C hP hS dX6_setMachine_43
set_option maxRecDepth 100000 in
set_option maxHeartbeats 4000000 in
theorem w_X6_setMachine_b35 {res : Int32 × SL} (C : Cx p s m args meth c cX6_setMachine 8 (some .int) RX6 wsX6_setMachine) (G : Gx D cs ad s) {Ls : Nat → SL} {Hs : SL} {T : SL} {dr : Int64} {hs : Int64} {o : Int64} {od : UInt64} {M : SL} {x1 : Int32} {x2 : Int32} {x3 : Int32} {x4 : Int32} {x5 : Int32} {H : Heap} {locs : List Loc} {ls : Array Slot} (hP : va_P D vwCl (wA cs ad Ls Hs T M dr hs o od) H) (hS : va_S (Afr ad s.heap.size) s.heap H locs) (hl : lv_has ls 8 [(0, .ref (ad 89)), (1, .int x1), (2, .int x2), (3, .int x3), (4, .int x4), (5, .int x5)]) (h : f_X6_setMachine_b35 M x1 x2 x3 x4 x5 = some res) : W p l e rmX6_setMachine s m args below meth c H locs 0 0 (MQ below (va_Qi (fun r' (_ : Unit) => r' = res.1) (fun _ t => va_P D vwCl (wA cs ad Ls Hs T res.2 dr hs o od) t.heap) (Afr ad s.heap.size)) args s 0 0 (Afr ad s.heap.size)) (F0 m 35 ls [.ref (ad 89)]) := by
  unfold f_X6_setMachine_b35 at h
  refine lv_iconst (v := 2) C.1 C.2.1 dX6_setMachine_35 (by decide) ?_
  exact w_X6_setMachine_b36 C G hP hS (lv_sub hl [0, 1, 2, 3, 4, 5] rfl) h
set_option maxRecDepth 100000 in
set_option maxHeartbeats 4000000 in
theorem w_X6_setMachine_e {res : Int32 × SL} (C : Cx p s m args meth c cX6_setMachine 8 (some .int) RX6 wsX6_setMachine) (G : Gx D cs ad s) {Ls : Nat → SL} {Hs : SL} {T : SL} {dr : Int64} {hs : Int64} {o : Int64} {od : UInt64} {M : SL} {x1 : Int32} {x2 : Int32} {x3 : Int32} {x4 : Int32} {x5 : Int32} {H : Heap} {locs : List Loc} {ls : Array Slot} (hP : va_P D vwCl (wA cs ad Ls Hs T M dr hs o od) H) (hS : va_S (Afr ad s.heap.size) s.heap H locs) (hl : lv_has ls 8 [(0, .ref (ad 89)), (1, .int x1), (2, .int x2), (3, .int x3), (4, .int x4), (5, .int x5)]) (h : f_X6_setMachine M x1 x2 x3 x4 x5 = some res) : W p l e rmX6_setMachine s m args below meth c H locs 0 0 (MQ below (va_Qi (fun r' (_ : Unit) => r' = res.1) (fun _ t => va_P D vwCl (wA cs ad Ls Hs T res.2 dr hs o od) t.heap) (Afr ad s.heap.size)) args s 0 0 (Afr ad s.heap.size)) (F0 m 0 ls []) := by
  unfold f_X6_setMachine at h
  refine lv_aload_n C.1 C.2.1 dX6_setMachine_0 rfl (lv_at hl 0 rfl) ?_
  refine lv_aload_n C.1 C.2.1 dX6_setMachine_1 rfl (lv_at hl 0 rfl) ?_
  refine lv_iload_n C.1 C.2.1 dX6_setMachine_2 rfl (lv_at hl 1 rfl) ?_
  obtain ⟨r1, c2, h⟩ := bd_out h
  refine k_callVi C G hP hS (m_X6_isMachine l G.2.1 _  c2) r_obj rfl (cwV 1 C.2.2.2.2.2.1 gX6_setMachine_X6_isMachine rfl rfl rfl (by decide +kernel) ⟨Nat.le_of_ble_eq_true rfl, Nat.le_of_ble_eq_true rfl⟩) (As := [.int x1]) rfl hl.1 rfl (Nat.le_of_ble_eq_true rfl) dX6_setMachine_3 ⟨Nat.le_of_ble_eq_true rfl, Nat.le_of_ble_eq_true rfl⟩ (fun H locs hP hS => ?_)
  refine lv_if_ne (tgt := 13) C.1 C.2.1 dX6_setMachine_6 (by decide) (fun c3 => ?_) (fun c3 => ?_)
  · have h := if_t c3 h
    refine lv_iload_n C.1 C.2.1 dX6_setMachine_13 rfl (lv_at hl 2 rfl) ?_
    refine lv_iload_n C.1 C.2.1 dX6_setMachine_14 rfl (lv_at hl 3 rfl) ?_
    obtain ⟨r4, c5, h⟩ := bd_out h
    refine k_callSi C G hP hS (m_X6_areCycles l G.2.1 _  c5) (va_cwS 2 C.2.2.2.2.2.1 gX6_setMachine_X6_areCycles rfl rfl rfl (by decide +kernel) ⟨Nat.le_of_ble_eq_true rfl, Nat.le_of_ble_eq_true rfl⟩) (As := [.int x2, .int x3]) rfl hl.1 rfl (Nat.le_of_ble_eq_true rfl) dX6_setMachine_15 ⟨Nat.le_of_ble_eq_true rfl, Nat.le_of_ble_eq_true rfl⟩ (fun H locs hP hS => ?_)
    refine lv_if_eq (tgt := 35) C.1 C.2.1 dX6_setMachine_18 (by decide) (fun c6 => ?_) (fun c6 => ?_)
    · have h := if_t c6 h
      exact w_X6_setMachine_b35 C G hP hS (lv_sub hl [0, 1, 2, 3, 4, 5] rfl) h
    · have h := if_f c6 h
      refine lv_iload C.1 C.2.1 dX6_setMachine_21 (lv_at hl 4 rfl) ?_
      refine lv_iload C.1 C.2.1 dX6_setMachine_23 (lv_at hl 5 rfl) ?_
      obtain ⟨r7, c8, h⟩ := bd_out h
      refine k_callSi C G hP hS (m_X6_areMarks l G.2.1 _  c8) (va_cwS 2 C.2.2.2.2.2.1 gX6_setMachine_X6_areMarks rfl rfl rfl (by decide +kernel) ⟨Nat.le_of_ble_eq_true rfl, Nat.le_of_ble_eq_true rfl⟩) (As := [.int x4, .int x5]) rfl hl.1 rfl (Nat.le_of_ble_eq_true rfl) dX6_setMachine_25 ⟨Nat.le_of_ble_eq_true rfl, Nat.le_of_ble_eq_true rfl⟩ (fun H locs hP hS => ?_)
      refine lv_if_eq (tgt := 35) C.1 C.2.1 dX6_setMachine_28 (by decide) (fun c9 => ?_) (fun c9 => ?_)
      · have h := if_t c9 h
        exact w_X6_setMachine_b35 C G hP hS (lv_sub hl [0, 1, 2, 3, 4, 5] rfl) h
      · have h := if_f c9 h
        refine lv_iconst (v := 0) C.1 C.2.1 dX6_setMachine_31 (by decide) ?_
        refine lv_goto (tgt := 36) C.1 C.2.1 dX6_setMachine_32 (by decide) ?_
        exact w_X6_setMachine_b36 C G hP hS (lv_sub hl [0, 1, 2, 3, 4, 5] rfl) h
  · have h := if_n c3 h
    refine lv_iconst (v := 1) C.1 C.2.1 dX6_setMachine_9 (by decide) ?_
    refine lv_goto (tgt := 36) C.1 C.2.1 dX6_setMachine_10 (by decide) ?_
    exact w_X6_setMachine_b36 C G hP hS (lv_sub hl [0, 1, 2, 3, 4, 5] rfl) h
set_option maxRecDepth 100000 in
set_option maxHeartbeats 4000000 in
theorem m_X6_setMachine (l : Launch) {D : va_G} {cs : Nat → ClassId} {ad : Nat → Nat} (hAd : adOK ad) (sz : Nat) {Ls : Nat → SL} {Hs : SL} {T : SL} {M : SL} {dr : Int64} {hs : Int64} {o : Int64} {od : UInt64} {x1 : Int32} {x2 : Int32} {x3 : Int32} {x4 : Int32} {x5 : Int32} {res : Int32 × SL} (h : f_X6_setMachine M x1 x2 x3 x4 x5 = some res) : Met l yX6_setMachine wsX6_setMachine rmX6_setMachine (PA D cs sz (wA cs ad Ls Hs T M dr hs o od) [.ref (ad 89), .int x1, .int x2, .int x3, .int x4, .int x5]) (va_Qi (fun r' (_ : Unit) => r' = res.1) (fun _ t => va_P D vwCl (wA cs ad Ls Hs T res.2 dr hs o od) t.heap) (Afr ad sz)) 0 0 (Afr ad sz) :=
  k_met (by decide) rfl (Nat.le_of_ble_eq_true rfl) hAd (fun p e s m below meth c ls C G hP hsz hl hS => by
    subst hsz
    exact w_X6_setMachine_e C G  hP hS hl  h)
/-! X6 setCapacity -/
abbrev rmX6_setCapacity : Room := { frames := 2, cells := 0, slots := 0, locals := 43 }
theorem q_X6_setCapacity_0 : Cond.fieldLink RX6 7 "LineBuffersModel" "now" "[I" ∈ wsX6_setCapacity := List.mem_of_getElem? (i := 1) rfl
theorem n_X6_setCapacity_X6 : ∀ x ∈ u_ws RX6 TX6 12, x ∈ wsX6_setCapacity := fun x h => List.mem_cons_of_mem _ (List.mem_append_right _ h)
set_option maxRecDepth 100000 in
set_option maxHeartbeats 4000000 in
theorem w_X6_setCapacity_b25 {res : Int32 × SL} (C : Cx p s m args meth c cX6_setCapacity 4 (some .int) RX6 wsX6_setCapacity) (G : Gx D cs ad s) {Ls : Nat → SL} {Hs : SL} {T : SL} {dr : Int64} {hs : Int64} {o : Int64} {od : UInt64} {M : SL} {x1 : Int32} {x2 : Int32} {s1 : Int32} {H : Heap} {locs : List Loc} {ls : Array Slot} (hP : va_P D vwCl (wA cs ad Ls Hs T M dr hs o od) H) (hS : va_S (Afr ad s.heap.size) s.heap H locs) (hl : lv_has ls 4 [(0, .ref (ad 89)), (1, .int x1), (2, .int x2)]) (h : f_X6_setCapacity_b25 M x1 x2 s1 = some res) : W p l e rmX6_setCapacity s m args below meth c H locs 0 0 (MQ below (va_Qi (fun r' (_ : Unit) => r' = res.1) (fun _ t => va_P D vwCl (wA cs ad Ls Hs T res.2 dr hs o od) t.heap) (Afr ad s.heap.size)) args s 0 0 (Afr ad s.heap.size)) (F0 m 25 ls [.int s1, .ref (ad 89)]) := by
  unfold f_X6_setCapacity_b25 at h
  obtain ⟨r1, M2, c3, h⟩ := bd2_out h
  refine k_callVi C G hP hS (m_X6_refused l G.2.1 _  c3) r_obj rfl (cwV 1 C.2.2.2.2.2.1 gX6_setCapacity_X6_refused rfl rfl rfl (by decide +kernel) ⟨Nat.le_of_ble_eq_true rfl, Nat.le_of_ble_eq_true rfl⟩) (As := [.int s1]) rfl hl.1 rfl (Nat.le_of_ble_eq_true rfl) dX6_setCapacity_25 ⟨Nat.le_of_ble_eq_true rfl, Nat.le_of_ble_eq_true rfl⟩ (fun H locs hP hS => ?_)
  refine lv_if_eq (tgt := 33) C.1 C.2.1 dX6_setCapacity_28 (by decide) (fun c4 => ?_) (fun c4 => ?_)
  · have h := if_t c4 h
    refine lv_aload_n C.1 C.2.1 dX6_setCapacity_33 rfl (lv_at hl 0 rfl) ?_
    obtain ⟨M5, c6, h⟩ := bd_out h
    refine k_callVv C G hP hS (m_X6_saves l G.2.1 _  c6) r_obj rfl (cwV 0 C.2.2.2.2.2.1 gX6_setCapacity_X6_saves rfl rfl rfl (by decide +kernel) ⟨Nat.le_of_ble_eq_true rfl, Nat.le_of_ble_eq_true rfl⟩) (As := []) rfl hl.1 rfl (Nat.le_of_ble_eq_true rfl) dX6_setCapacity_34 ⟨Nat.le_of_ble_eq_true rfl, Nat.le_of_ble_eq_true rfl⟩ (fun H locs hP hS => ?_)
    refine lv_aload_n C.1 C.2.1 dX6_setCapacity_37 rfl (lv_at hl 0 rfl) ?_
    refine k_getf C G hP r_obj rfl 0 (by decide) n_X6_setCapacity_X6 q_X6_setCapacity_0 (v := .ref (ad (89 + 1))) rfl dX6_setCapacity_38 ?_
    refine lv_iload_n C.1 C.2.1 dX6_setCapacity_41 rfl (lv_at hl 1 rfl) ?_
    obtain ⟨r7, c8, h⟩ := bd_out h
    refine k_callSi C G hP hS (m_X6_of l G.2.1 _  c8) (va_cwS 1 C.2.2.2.2.2.1 gX6_setCapacity_X6_of rfl rfl rfl (by decide +kernel) ⟨Nat.le_of_ble_eq_true rfl, Nat.le_of_ble_eq_true rfl⟩) (As := [.int x1]) rfl hl.1 rfl (Nat.le_of_ble_eq_true rfl) dX6_setCapacity_42 ⟨Nat.le_of_ble_eq_true rfl, Nat.le_of_ble_eq_true rfl⟩ (fun H locs hP hS => ?_)
    refine lv_iconst (v := 4) C.1 C.2.1 dX6_setCapacity_45 (by decide) ?_
    obtain ⟨v9, ev9, h⟩ := lt_out h
    refine k_iadd C ev9 dX6_setCapacity_46 ?_
    obtain ⟨g10, h⟩ := gd_out h
    have g10 := chk_in g10
    obtain ⟨v11, ev11, h⟩ := lt_out h
    refine k_iald C G hP (r_arr (k := 1) (by decide)) g10 (j := v9.toNatClampNeg) rfl ev11 dX6_setCapacity_47 ?_
    refine lv_istore_n (lv' := [(3, .int v11), (0, .ref (ad 89)), (1, .int x1), (2, .int x2)]) C.1 C.2.1 dX6_setCapacity_48 rfl hl (by decide) rfl (fun ls hl => ?_)
    refine lv_aload_n C.1 C.2.1 dX6_setCapacity_49 rfl (lv_at hl 1 rfl) ?_
    refine k_getf C G hP r_obj rfl 0 (by decide) n_X6_setCapacity_X6 q_X6_setCapacity_0 (v := .ref (ad (89 + 1))) rfl dX6_setCapacity_50 ?_
    refine lv_iload_n C.1 C.2.1 dX6_setCapacity_53 rfl (lv_at hl 2 rfl) ?_
    obtain ⟨r12, c13, h⟩ := bd_out h
    refine k_callSi C G hP hS (m_X6_of l G.2.1 _  c13) (va_cwS 1 C.2.2.2.2.2.1 gX6_setCapacity_X6_of rfl rfl rfl (by decide +kernel) ⟨Nat.le_of_ble_eq_true rfl, Nat.le_of_ble_eq_true rfl⟩) (As := [.int x1]) rfl hl.1 rfl (Nat.le_of_ble_eq_true rfl) dX6_setCapacity_54 ⟨Nat.le_of_ble_eq_true rfl, Nat.le_of_ble_eq_true rfl⟩ (fun H locs hP hS => ?_)
    refine lv_iconst (v := 4) C.1 C.2.1 dX6_setCapacity_57 (by decide) ?_
    obtain ⟨v14, ev14, h⟩ := lt_out h
    refine k_iadd C ev14 dX6_setCapacity_58 ?_
    refine lv_iload_n C.1 C.2.1 dX6_setCapacity_59 rfl (lv_at hl 3 rfl) ?_
    obtain ⟨g15, h⟩ := gd_out h
    have g15 := chk_in g15
    obtain ⟨M16, eM16, h⟩ := lt_out h
    refine k_iast C G hP hS (r_arr (k := 1) (by decide)) g15 (j := v14.toNatClampNeg) rfl (r_arrS (k := 1) (by decide)) dX6_setCapacity_60 (fun H locs hP hS => ?_)
    rw [← eM16] at hP
    refine lv_iload_n C.1 C.2.1 dX6_setCapacity_61 rfl (lv_at hl 0 rfl) ?_
    cases h
    exact k_iret C hP hS dX6_setCapacity_62
  · have h := if_f c4 h
    refine lv_iconst (v := 0) C.1 C.2.1 dX6_setCapacity_31 (by decide) ?_
    cases h
    exact k_iret C hP hS dX6_setCapacity_32
set_option maxRecDepth 100000 in
set_option maxHeartbeats 4000000 in
theorem w_X6_setCapacity_e {res : Int32 × SL} (C : Cx p s m args meth c cX6_setCapacity 4 (some .int) RX6 wsX6_setCapacity) (G : Gx D cs ad s) {Ls : Nat → SL} {Hs : SL} {T : SL} {dr : Int64} {hs : Int64} {o : Int64} {od : UInt64} {M : SL} {x1 : Int32} {x2 : Int32} {H : Heap} {locs : List Loc} {ls : Array Slot} (hP : va_P D vwCl (wA cs ad Ls Hs T M dr hs o od) H) (hS : va_S (Afr ad s.heap.size) s.heap H locs) (hl : lv_has ls 4 [(0, .ref (ad 89)), (1, .int x1), (2, .int x2)]) (h : f_X6_setCapacity M x1 x2 = some res) : W p l e rmX6_setCapacity s m args below meth c H locs 0 0 (MQ below (va_Qi (fun r' (_ : Unit) => r' = res.1) (fun _ t => va_P D vwCl (wA cs ad Ls Hs T res.2 dr hs o od) t.heap) (Afr ad s.heap.size)) args s 0 0 (Afr ad s.heap.size)) (F0 m 0 ls []) := by
  unfold f_X6_setCapacity at h
  refine lv_aload_n C.1 C.2.1 dX6_setCapacity_0 rfl (lv_at hl 0 rfl) ?_
  refine lv_aload_n C.1 C.2.1 dX6_setCapacity_1 rfl (lv_at hl 0 rfl) ?_
  refine lv_iload_n C.1 C.2.1 dX6_setCapacity_2 rfl (lv_at hl 1 rfl) ?_
  obtain ⟨r1, c2, h⟩ := bd_out h
  refine k_callVi C G hP hS (m_X6_isMachine l G.2.1 _  c2) r_obj rfl (cwV 1 C.2.2.2.2.2.1 gX6_setCapacity_X6_isMachine rfl rfl rfl (by decide +kernel) ⟨Nat.le_of_ble_eq_true rfl, Nat.le_of_ble_eq_true rfl⟩) (As := [.int x1]) rfl hl.1 rfl (Nat.le_of_ble_eq_true rfl) dX6_setCapacity_3 ⟨Nat.le_of_ble_eq_true rfl, Nat.le_of_ble_eq_true rfl⟩ (fun H locs hP hS => ?_)
  refine lv_if_ne (tgt := 13) C.1 C.2.1 dX6_setCapacity_6 (by decide) (fun c3 => ?_) (fun c3 => ?_)
  · have h := if_t c3 h
    refine lv_iload_n C.1 C.2.1 dX6_setCapacity_13 rfl (lv_at hl 2 rfl) ?_
    obtain ⟨r4, c5, h⟩ := bd_out h
    refine k_callSi C G hP hS (m_X6_isCapacity l G.2.1 _  c5) (va_cwS 1 C.2.2.2.2.2.1 gX6_setCapacity_X6_isCapacity rfl rfl rfl (by decide +kernel) ⟨Nat.le_of_ble_eq_true rfl, Nat.le_of_ble_eq_true rfl⟩) (As := [.int x2]) rfl hl.1 rfl (Nat.le_of_ble_eq_true rfl) dX6_setCapacity_14 ⟨Nat.le_of_ble_eq_true rfl, Nat.le_of_ble_eq_true rfl⟩ (fun H locs hP hS => ?_)
    refine lv_if_eq (tgt := 24) C.1 C.2.1 dX6_setCapacity_17 (by decide) (fun c6 => ?_) (fun c6 => ?_)
    · have h := if_t c6 h
      refine lv_iconst (v := 2) C.1 C.2.1 dX6_setCapacity_24 (by decide) ?_
      exact w_X6_setCapacity_b25 C G hP hS (lv_sub hl [0, 1, 2] rfl) h
    · have h := if_f c6 h
      refine lv_iconst (v := 0) C.1 C.2.1 dX6_setCapacity_20 (by decide) ?_
      refine lv_goto (tgt := 25) C.1 C.2.1 dX6_setCapacity_21 (by decide) ?_
      exact w_X6_setCapacity_b25 C G hP hS (lv_sub hl [0, 1, 2] rfl) h
  · have h := if_n c3 h
    refine lv_iconst (v := 1) C.1 C.2.1 dX6_setCapacity_9 (by decide) ?_
    refine lv_goto (tgt := 25) C.1 C.2.1 dX6_setCapacity_10 (by decide) ?_
    exact w_X6_setCapacity_b25 C G hP hS (lv_sub hl [0, 1, 2] rfl) h
set_option maxRecDepth 100000 in
set_option maxHeartbeats 4000000 in
theorem m_X6_setCapacity (l : Launch) {D : va_G} {cs : Nat → ClassId} {ad : Nat → Nat} (hAd : adOK ad) (sz : Nat) {Ls : Nat → SL} {Hs : SL} {T : SL} {M : SL} {dr : Int64} {hs : Int64} {o : Int64} {od : UInt64} {x1 : Int32} {x2 : Int32} {res : Int32 × SL} (h : f_X6_setCapacity M x1 x2 = some res) : Met l yX6_setCapacity wsX6_setCapacity rmX6_setCapacity (PA D cs sz (wA cs ad Ls Hs T M dr hs o od) [.ref (ad 89), .int x1, .int x2]) (va_Qi (fun r' (_ : Unit) => r' = res.1) (fun _ t => va_P D vwCl (wA cs ad Ls Hs T res.2 dr hs o od) t.heap) (Afr ad sz)) 0 0 (Afr ad sz) :=
  k_met (by decide) rfl (Nat.le_of_ble_eq_true rfl) hAd (fun p e s m below meth c ls C G hP hsz hl hS => by
    subst hsz
    exact w_X6_setCapacity_e C G  hP hS hl  h)
/-! X6 plans -/
abbrev rmX6_plans : Room := { frames := 0, cells := 0, slots := 0, locals := 0 }
theorem q_X6_plans_0 : Cond.fieldLink RX6 7 "LineBuffersModel" "now" "[I" ∈ wsX6_plans := List.mem_of_getElem? (i := 1) rfl
theorem n_X6_plans_X6 : ∀ x ∈ u_ws RX6 TX6 12, x ∈ wsX6_plans := fun x h => List.mem_cons_of_mem _ (List.mem_append_right _ h)
set_option maxRecDepth 100000 in
set_option maxHeartbeats 4000000 in
theorem w_X6_plans_e {res : SL} (C : Cx p s m args meth c cX6_plans 5 none RX6 wsX6_plans) (G : Gx D cs ad s) {Ls : Nat → SL} {Hs : SL} {T : SL} {dr : Int64} {hs : Int64} {o : Int64} {od : UInt64} {M : SL} {x1 : Int32} {x2 : Int32} {x3 : Int32} {H : Heap} {locs : List Loc} {ls : Array Slot} (hP : va_P D vwCl (wA cs ad Ls Hs T M dr hs o od) H) (hS : va_S (Afr ad s.heap.size) s.heap H locs) (hl : lv_has ls 5 [(0, .ref (ad 89)), (1, .int x1), (2, .int x2), (3, .int x3)]) (h : f_X6_plans M x1 x2 x3 = some res) : W p l e rmX6_plans s m args below meth c H locs 0 0 (MQ below (va_Qv (fun (_ : Unit) => True) (fun _ t => va_P D vwCl (wA cs ad Ls Hs T res dr hs o od) t.heap) (Afr ad s.heap.size)) args s 0 0 (Afr ad s.heap.size)) (F0 m 0 ls []) := by
  unfold f_X6_plans at h
  refine lv_sipush (v := 131) C.1 C.2.1 dX6_plans_0 (by decide) ?_
  refine lv_iconst (v := 3) C.1 C.2.1 dX6_plans_3 (by decide) ?_
  refine lv_aload_n C.1 C.2.1 dX6_plans_4 rfl (lv_at hl 0 rfl) ?_
  refine k_getf C G hP r_obj rfl 0 (by decide) n_X6_plans_X6 q_X6_plans_0 (v := .ref (ad (89 + 1))) rfl dX6_plans_5 ?_
  refine lv_iconst (v := 2) C.1 C.2.1 dX6_plans_8 (by decide) ?_
  obtain ⟨v1, ev1, h⟩ := lt_out h
  refine k_iald C G hP (r_arr (k := 1) (by decide)) (chk_in rfl) (j := 2) rfl ev1 dX6_plans_9 ?_
  obtain ⟨v2, ev2, h⟩ := lt_out h
  refine k_imul C ev2 dX6_plans_10 ?_
  obtain ⟨v3, ev3, h⟩ := lt_out h
  refine k_iadd C ev3 dX6_plans_11 ?_
  refine lv_istore (lv' := [(4, .int v3), (0, .ref (ad 89)), (1, .int x1), (2, .int x2), (3, .int x3)]) C.1 C.2.1 dX6_plans_12 hl (by decide) rfl (fun ls hl => ?_)
  refine lv_aload_n C.1 C.2.1 dX6_plans_14 rfl (lv_at hl 1 rfl) ?_
  refine k_getf C G hP r_obj rfl 0 (by decide) n_X6_plans_X6 q_X6_plans_0 (v := .ref (ad (89 + 1))) rfl dX6_plans_15 ?_
  refine lv_iload C.1 C.2.1 dX6_plans_18 (lv_at hl 0 rfl) ?_
  refine lv_iload_n C.1 C.2.1 dX6_plans_20 rfl (lv_at hl 2 rfl) ?_
  obtain ⟨g4, h⟩ := gd_out h
  have g4 := chk_in g4
  obtain ⟨M5, eM5, h⟩ := lt_out h
  refine k_iast C G hP hS (r_arr (k := 1) (by decide)) g4 (j := v3.toNatClampNeg) rfl (r_arrS (k := 1) (by decide)) dX6_plans_21 (fun H locs hP hS => ?_)
  rw [← eM5] at hP
  refine lv_aload_n C.1 C.2.1 dX6_plans_22 rfl (lv_at hl 1 rfl) ?_
  refine k_getf C G hP r_obj rfl 0 (by decide) n_X6_plans_X6 q_X6_plans_0 (v := .ref (ad (89 + 1))) rfl dX6_plans_23 ?_
  refine lv_iload C.1 C.2.1 dX6_plans_26 (lv_at hl 0 rfl) ?_
  refine lv_iconst (v := 1) C.1 C.2.1 dX6_plans_28 (by decide) ?_
  obtain ⟨v6, ev6, h⟩ := lt_out h
  refine k_iadd C ev6 dX6_plans_29 ?_
  refine lv_iload_n C.1 C.2.1 dX6_plans_30 rfl (lv_at hl 3 rfl) ?_
  obtain ⟨g7, h⟩ := gd_out h
  have g7 := chk_in g7
  obtain ⟨M8, eM8, h⟩ := lt_out h
  refine k_iast C G hP hS (r_arr (k := 1) (by decide)) g7 (j := v6.toNatClampNeg) rfl (r_arrS (k := 1) (by decide)) dX6_plans_31 (fun H locs hP hS => ?_)
  rw [← eM8] at hP
  refine lv_aload_n C.1 C.2.1 dX6_plans_32 rfl (lv_at hl 1 rfl) ?_
  refine k_getf C G hP r_obj rfl 0 (by decide) n_X6_plans_X6 q_X6_plans_0 (v := .ref (ad (89 + 1))) rfl dX6_plans_33 ?_
  refine lv_iload C.1 C.2.1 dX6_plans_36 (lv_at hl 0 rfl) ?_
  refine lv_iconst (v := 2) C.1 C.2.1 dX6_plans_38 (by decide) ?_
  obtain ⟨v9, ev9, h⟩ := lt_out h
  refine k_iadd C ev9 dX6_plans_39 ?_
  refine lv_iload_n C.1 C.2.1 dX6_plans_40 rfl (lv_at hl 4 rfl) ?_
  obtain ⟨g10, h⟩ := gd_out h
  have g10 := chk_in g10
  obtain ⟨M11, eM11, h⟩ := lt_out h
  refine k_iast C G hP hS (r_arr (k := 1) (by decide)) g10 (j := v9.toNatClampNeg) rfl (r_arrS (k := 1) (by decide)) dX6_plans_41 (fun H locs hP hS => ?_)
  rw [← eM11] at hP
  refine lv_aload_n C.1 C.2.1 dX6_plans_42 rfl (lv_at hl 1 rfl) ?_
  refine k_getf C G hP r_obj rfl 0 (by decide) n_X6_plans_X6 q_X6_plans_0 (v := .ref (ad (89 + 1))) rfl dX6_plans_43 ?_
  refine lv_iconst (v := 2) C.1 C.2.1 dX6_plans_46 (by decide) ?_
  refine lv_dup2_11 C.1 C.2.1 dX6_plans_47 rfl rfl ?_
  obtain ⟨v12, ev12, h⟩ := lt_out h
  refine k_iald C G hP (r_arr (k := 1) (by decide)) (chk_in rfl) (j := 2) rfl ev12 dX6_plans_48 ?_
  refine lv_iconst (v := 1) C.1 C.2.1 dX6_plans_49 (by decide) ?_
  obtain ⟨v13, ev13, h⟩ := lt_out h
  refine k_iadd C ev13 dX6_plans_50 ?_
  obtain ⟨M14, eM14, h⟩ := lt_out h
  refine k_iast C G hP hS (r_arr (k := 1) (by decide)) (chk_in rfl) (j := 2) rfl (r_arrS (k := 1) (by decide)) dX6_plans_51 (fun H locs hP hS => ?_)
  rw [← eM14] at hP
  cases h
  exact k_vret C hP hS dX6_plans_52
set_option maxRecDepth 100000 in
set_option maxHeartbeats 4000000 in
theorem m_X6_plans (l : Launch) {D : va_G} {cs : Nat → ClassId} {ad : Nat → Nat} (hAd : adOK ad) (sz : Nat) {Ls : Nat → SL} {Hs : SL} {T : SL} {M : SL} {dr : Int64} {hs : Int64} {o : Int64} {od : UInt64} {x1 : Int32} {x2 : Int32} {x3 : Int32} {res : SL} (h : f_X6_plans M x1 x2 x3 = some res) : Met l yX6_plans wsX6_plans rmX6_plans (PA D cs sz (wA cs ad Ls Hs T M dr hs o od) [.ref (ad 89), .int x1, .int x2, .int x3]) (va_Qv (fun (_ : Unit) => True) (fun _ t => va_P D vwCl (wA cs ad Ls Hs T res dr hs o od) t.heap) (Afr ad sz)) 0 0 (Afr ad sz) :=
  k_met (by decide) rfl (Nat.le_of_ble_eq_true rfl) hAd (fun p e s m below meth c ls C G hP hsz hl hS => by
    subst hsz
    exact w_X6_plans_e C G  hP hS hl  h)
/-! X6 addStop -/
abbrev rmX6_addStop : Room := { frames := 2, cells := 0, slots := 0, locals := 43 }
theorem q_X6_addStop_0 : Cond.fieldLink RX6 7 "LineBuffersModel" "now" "[I" ∈ wsX6_addStop := List.mem_of_getElem? (i := 1) rfl
theorem n_X6_addStop_X6 : ∀ x ∈ u_ws RX6 TX6 12, x ∈ wsX6_addStop := fun x h => List.mem_cons_of_mem _ (List.mem_append_right _ h)
set_option maxRecDepth 100000 in
set_option maxHeartbeats 4000000 in
theorem w_X6_addStop_b74 {res : Int32 × SL} (C : Cx p s m args meth c cX6_addStop 5 (some .int) RX6 wsX6_addStop) (G : Gx D cs ad s) {Ls : Nat → SL} {Hs : SL} {T : SL} {dr : Int64} {hs : Int64} {o : Int64} {od : UInt64} {M : SL} {x1 : Int32} {x2 : Int32} {x3 : Int32} {s1 : Int32} {H : Heap} {locs : List Loc} {ls : Array Slot} (hP : va_P D vwCl (wA cs ad Ls Hs T M dr hs o od) H) (hS : va_S (Afr ad s.heap.size) s.heap H locs) (hl : lv_has ls 5 [(0, .ref (ad 89)), (1, .int x1), (2, .int x2), (3, .int x3)]) (h : f_X6_addStop_b74 M x1 x2 x3 s1 = some res) : W p l e rmX6_addStop s m args below meth c H locs 0 0 (MQ below (va_Qi (fun r' (_ : Unit) => r' = res.1) (fun _ t => va_P D vwCl (wA cs ad Ls Hs T res.2 dr hs o od) t.heap) (Afr ad s.heap.size)) args s 0 0 (Afr ad s.heap.size)) (F0 m 74 ls [.int s1, .ref (ad 89)]) := by
  unfold f_X6_addStop_b74 at h
  obtain ⟨r1, M2, c3, h⟩ := bd2_out h
  refine k_callVi C G hP hS (m_X6_refused l G.2.1 _  c3) r_obj rfl (cwV 1 C.2.2.2.2.2.1 gX6_addStop_X6_refused rfl rfl rfl (by decide +kernel) ⟨Nat.le_of_ble_eq_true rfl, Nat.le_of_ble_eq_true rfl⟩) (As := [.int s1]) rfl hl.1 rfl (Nat.le_of_ble_eq_true rfl) dX6_addStop_74 ⟨Nat.le_of_ble_eq_true rfl, Nat.le_of_ble_eq_true rfl⟩ (fun H locs hP hS => ?_)
  refine lv_if_eq (tgt := 82) C.1 C.2.1 dX6_addStop_77 (by decide) (fun c4 => ?_) (fun c4 => ?_)
  · have h := if_t c4 h
    refine lv_aload_n C.1 C.2.1 dX6_addStop_82 rfl (lv_at hl 0 rfl) ?_
    obtain ⟨M5, c6, h⟩ := bd_out h
    refine k_callVv C G hP hS (m_X6_saves l G.2.1 _  c6) r_obj rfl (cwV 0 C.2.2.2.2.2.1 gX6_addStop_X6_saves rfl rfl rfl (by decide +kernel) ⟨Nat.le_of_ble_eq_true rfl, Nat.le_of_ble_eq_true rfl⟩) (As := []) rfl hl.1 rfl (Nat.le_of_ble_eq_true rfl) dX6_addStop_83 ⟨Nat.le_of_ble_eq_true rfl, Nat.le_of_ble_eq_true rfl⟩ (fun H locs hP hS => ?_)
    refine lv_aload_n C.1 C.2.1 dX6_addStop_86 rfl (lv_at hl 0 rfl) ?_
    refine lv_iload_n C.1 C.2.1 dX6_addStop_87 rfl (lv_at hl 1 rfl) ?_
    refine lv_iload_n C.1 C.2.1 dX6_addStop_88 rfl (lv_at hl 2 rfl) ?_
    refine lv_iload_n C.1 C.2.1 dX6_addStop_89 rfl (lv_at hl 3 rfl) ?_
    obtain ⟨M7, c8, h⟩ := bd_out h
    refine k_callVv C G hP hS (m_X6_plans l G.2.1 _  c8) r_obj rfl (cwV 3 C.2.2.2.2.2.1 gX6_addStop_X6_plans rfl rfl rfl (by decide +kernel) ⟨Nat.le_of_ble_eq_true rfl, Nat.le_of_ble_eq_true rfl⟩) (As := [.int x1, .int x2, .int x3]) rfl hl.1 rfl (Nat.le_of_ble_eq_true rfl) dX6_addStop_90 ⟨Nat.le_of_ble_eq_true rfl, Nat.le_of_ble_eq_true rfl⟩ (fun H locs hP hS => ?_)
    refine lv_aload_n C.1 C.2.1 dX6_addStop_93 rfl (lv_at hl 0 rfl) ?_
    refine k_getf C G hP r_obj rfl 0 (by decide) n_X6_addStop_X6 q_X6_addStop_0 (v := .ref (ad (89 + 1))) rfl dX6_addStop_94 ?_
    refine lv_iconst (v := 2) C.1 C.2.1 dX6_addStop_97 (by decide) ?_
    obtain ⟨v9, ev9, h⟩ := lt_out h
    refine k_iald C G hP (r_arr (k := 1) (by decide)) (chk_in rfl) (j := 2) rfl ev9 dX6_addStop_98 ?_
    cases h
    exact k_iret C hP hS dX6_addStop_99
  · have h := if_f c4 h
    refine lv_iconst (v := 0) C.1 C.2.1 dX6_addStop_80 (by decide) ?_
    cases h
    exact k_iret C hP hS dX6_addStop_81
set_option maxRecDepth 100000 in
set_option maxHeartbeats 4000000 in
theorem w_X6_addStop_b34 {res : Int32 × SL} (C : Cx p s m args meth c cX6_addStop 5 (some .int) RX6 wsX6_addStop) (G : Gx D cs ad s) {Ls : Nat → SL} {Hs : SL} {T : SL} {dr : Int64} {hs : Int64} {o : Int64} {od : UInt64} {M : SL} {x1 : Int32} {x2 : Int32} {x3 : Int32} {s0 : Int32} {H : Heap} {locs : List Loc} {ls : Array Slot} (hP : va_P D vwCl (wA cs ad Ls Hs T M dr hs o od) H) (hS : va_S (Afr ad s.heap.size) s.heap H locs) (hl : lv_has ls 5 [(0, .ref (ad 89)), (1, .int x1), (2, .int x2), (3, .int x3)]) (h : f_X6_addStop_b34 M x1 x2 x3 s0 = some res) : W p l e rmX6_addStop s m args below meth c H locs 0 0 (MQ below (va_Qi (fun r' (_ : Unit) => r' = res.1) (fun _ t => va_P D vwCl (wA cs ad Ls Hs T res.2 dr hs o od) t.heap) (Afr ad s.heap.size)) args s 0 0 (Afr ad s.heap.size)) (F0 m 34 ls [.int s0]) := by
  unfold f_X6_addStop_b34 at h
  refine lv_istore (lv' := [(4, .int s0), (0, .ref (ad 89)), (1, .int x1), (2, .int x2), (3, .int x3)]) C.1 C.2.1 dX6_addStop_34 hl (by decide) rfl (fun ls hl => ?_)
  refine lv_aload_n C.1 C.2.1 dX6_addStop_36 rfl (lv_at hl 1 rfl) ?_
  refine lv_aload_n C.1 C.2.1 dX6_addStop_37 rfl (lv_at hl 1 rfl) ?_
  refine lv_iload_n C.1 C.2.1 dX6_addStop_38 rfl (lv_at hl 2 rfl) ?_
  obtain ⟨r1, c2, h⟩ := bd_out h
  refine k_callVi C G hP hS (m_X6_isMachine l G.2.1 _  c2) r_obj rfl (cwV 1 C.2.2.2.2.2.1 gX6_addStop_X6_isMachine rfl rfl rfl (by decide +kernel) ⟨Nat.le_of_ble_eq_true rfl, Nat.le_of_ble_eq_true rfl⟩) (As := [.int x1]) rfl hl.1 rfl (Nat.le_of_ble_eq_true rfl) dX6_addStop_39 ⟨Nat.le_of_ble_eq_true rfl, Nat.le_of_ble_eq_true rfl⟩ (fun H locs hP hS => ?_)
  refine lv_if_ne (tgt := 49) C.1 C.2.1 dX6_addStop_42 (by decide) (fun c3 => ?_) (fun c3 => ?_)
  · have h := if_t c3 h
    refine lv_iload C.1 C.2.1 dX6_addStop_49 (lv_at hl 0 rfl) ?_
    refine lv_if_ne (tgt := 58) C.1 C.2.1 dX6_addStop_51 (by decide) (fun c4 => ?_) (fun c4 => ?_)
    · have h := if_t c4 h
      refine lv_aload_n C.1 C.2.1 dX6_addStop_58 rfl (lv_at hl 1 rfl) ?_
      refine k_getf C G hP r_obj rfl 0 (by decide) n_X6_addStop_X6 q_X6_addStop_0 (v := .ref (ad (89 + 1))) rfl dX6_addStop_59 ?_
      refine lv_iconst (v := 2) C.1 C.2.1 dX6_addStop_62 (by decide) ?_
      obtain ⟨v5, ev5, h⟩ := lt_out h
      refine k_iald C G hP (r_arr (k := 1) (by decide)) (chk_in rfl) (j := 2) rfl ev5 dX6_addStop_63 ?_
      refine lv_bipush (v := 40) C.1 C.2.1 dX6_addStop_64 (by decide) ?_
      refine lv_icmp_ne (tgt := 73) C.1 C.2.1 dX6_addStop_66 (by decide) (fun c6 => ?_) (fun c6 => ?_)
      · have h := if_t c6 h
        refine lv_iconst (v := 0) C.1 C.2.1 dX6_addStop_73 (by decide) ?_
        exact w_X6_addStop_b74 C G hP hS (lv_sub hl [1, 2, 3, 4] rfl) h
      · have h := if_n c6 h
        refine lv_iconst (v := 3) C.1 C.2.1 dX6_addStop_69 (by decide) ?_
        refine lv_goto (tgt := 74) C.1 C.2.1 dX6_addStop_70 (by decide) ?_
        exact w_X6_addStop_b74 C G hP hS (lv_sub hl [1, 2, 3, 4] rfl) h
    · have h := if_n c4 h
      refine lv_iconst (v := 2) C.1 C.2.1 dX6_addStop_54 (by decide) ?_
      refine lv_goto (tgt := 74) C.1 C.2.1 dX6_addStop_55 (by decide) ?_
      exact w_X6_addStop_b74 C G hP hS (lv_sub hl [1, 2, 3, 4] rfl) h
  · have h := if_n c3 h
    refine lv_iconst (v := 1) C.1 C.2.1 dX6_addStop_45 (by decide) ?_
    refine lv_goto (tgt := 74) C.1 C.2.1 dX6_addStop_46 (by decide) ?_
    exact w_X6_addStop_b74 C G hP hS (lv_sub hl [1, 2, 3, 4] rfl) h
set_option maxRecDepth 100000 in
set_option maxHeartbeats 4000000 in
theorem w_X6_addStop_b33 {res : Int32 × SL} (C : Cx p s m args meth c cX6_addStop 5 (some .int) RX6 wsX6_addStop) (G : Gx D cs ad s) {Ls : Nat → SL} {Hs : SL} {T : SL} {dr : Int64} {hs : Int64} {o : Int64} {od : UInt64} {M : SL} {x1 : Int32} {x2 : Int32} {x3 : Int32} {H : Heap} {locs : List Loc} {ls : Array Slot} (hP : va_P D vwCl (wA cs ad Ls Hs T M dr hs o od) H) (hS : va_S (Afr ad s.heap.size) s.heap H locs) (hl : lv_has ls 5 [(0, .ref (ad 89)), (1, .int x1), (2, .int x2), (3, .int x3)]) (h : f_X6_addStop_b33 M x1 x2 x3 = some res) : W p l e rmX6_addStop s m args below meth c H locs 0 0 (MQ below (va_Qi (fun r' (_ : Unit) => r' = res.1) (fun _ t => va_P D vwCl (wA cs ad Ls Hs T res.2 dr hs o od) t.heap) (Afr ad s.heap.size)) args s 0 0 (Afr ad s.heap.size)) (F0 m 33 ls []) := by
  unfold f_X6_addStop_b33 at h
  refine lv_iconst (v := 0) C.1 C.2.1 dX6_addStop_33 (by decide) ?_
  exact w_X6_addStop_b34 C G hP hS (lv_sub hl [0, 1, 2, 3] rfl) h
set_option maxRecDepth 100000 in
set_option maxHeartbeats 4000000 in
theorem w_X6_addStop_e {res : Int32 × SL} (C : Cx p s m args meth c cX6_addStop 5 (some .int) RX6 wsX6_addStop) (G : Gx D cs ad s) {Ls : Nat → SL} {Hs : SL} {T : SL} {dr : Int64} {hs : Int64} {o : Int64} {od : UInt64} {M : SL} {x1 : Int32} {x2 : Int32} {x3 : Int32} {H : Heap} {locs : List Loc} {ls : Array Slot} (hP : va_P D vwCl (wA cs ad Ls Hs T M dr hs o od) H) (hS : va_S (Afr ad s.heap.size) s.heap H locs) (hl : lv_has ls 5 [(0, .ref (ad 89)), (1, .int x1), (2, .int x2), (3, .int x3)]) (h : f_X6_addStop M x1 x2 x3 = some res) : W p l e rmX6_addStop s m args below meth c H locs 0 0 (MQ below (va_Qi (fun r' (_ : Unit) => r' = res.1) (fun _ t => va_P D vwCl (wA cs ad Ls Hs T res.2 dr hs o od) t.heap) (Afr ad s.heap.size)) args s 0 0 (Afr ad s.heap.size)) (F0 m 0 ls []) := by
  unfold f_X6_addStop at h
  refine lv_iload_n C.1 C.2.1 dX6_addStop_0 rfl (lv_at hl 2 rfl) ?_
  refine lv_aload_n C.1 C.2.1 dX6_addStop_1 rfl (lv_at hl 0 rfl) ?_
  refine k_getf C G hP r_obj rfl 0 (by decide) n_X6_addStop_X6 q_X6_addStop_0 (v := .ref (ad (89 + 1))) rfl dX6_addStop_2 ?_
  refine lv_iconst (v := 1) C.1 C.2.1 dX6_addStop_5 (by decide) ?_
  obtain ⟨v1, ev1, h⟩ := lt_out h
  refine k_iald C G hP (r_arr (k := 1) (by decide)) (chk_in rfl) (j := 1) rfl ev1 dX6_addStop_6 ?_
  refine lv_iconst (v := 1) C.1 C.2.1 dX6_addStop_7 (by decide) ?_
  obtain ⟨v2, ev2, h⟩ := lt_out h
  refine k_iadd C ev2 dX6_addStop_8 ?_
  refine lv_sipush (v := 10000) C.1 C.2.1 dX6_addStop_9 (by decide) ?_
  obtain ⟨r3, c4, h⟩ := bd_out h
  refine k_callSi C G hP hS (m_X6_within l G.2.1 _  c4) (va_cwS 3 C.2.2.2.2.2.1 gX6_addStop_X6_within rfl rfl rfl (by decide +kernel) ⟨Nat.le_of_ble_eq_true rfl, Nat.le_of_ble_eq_true rfl⟩) (As := [.int x2, .int v2, .int 10000]) rfl hl.1 rfl (Nat.le_of_ble_eq_true rfl) dX6_addStop_12 ⟨Nat.le_of_ble_eq_true rfl, Nat.le_of_ble_eq_true rfl⟩ (fun H locs hP hS => ?_)
  refine lv_if_eq (tgt := 33) C.1 C.2.1 dX6_addStop_15 (by decide) (fun c5 => ?_) (fun c5 => ?_)
  · have h := if_t c5 h
    exact w_X6_addStop_b33 C G hP hS (lv_sub hl [0, 1, 2, 3] rfl) h
  · have h := if_f c5 h
    refine lv_iload_n C.1 C.2.1 dX6_addStop_18 rfl (lv_at hl 3 rfl) ?_
    refine lv_iconst (v := 1) C.1 C.2.1 dX6_addStop_19 (by decide) ?_
    refine lv_sipush (v := 200) C.1 C.2.1 dX6_addStop_20 (by decide) ?_
    obtain ⟨r6, c7, h⟩ := bd_out h
    refine k_callSi C G hP hS (m_X6_within l G.2.1 _  c7) (va_cwS 3 C.2.2.2.2.2.1 gX6_addStop_X6_within rfl rfl rfl (by decide +kernel) ⟨Nat.le_of_ble_eq_true rfl, Nat.le_of_ble_eq_true rfl⟩) (As := [.int x3, .int 1, .int 200]) rfl hl.1 rfl (Nat.le_of_ble_eq_true rfl) dX6_addStop_23 ⟨Nat.le_of_ble_eq_true rfl, Nat.le_of_ble_eq_true rfl⟩ (fun H locs hP hS => ?_)
    refine lv_if_eq (tgt := 33) C.1 C.2.1 dX6_addStop_26 (by decide) (fun c8 => ?_) (fun c8 => ?_)
    · have h := if_t c8 h
      exact w_X6_addStop_b33 C G hP hS (lv_sub hl [0, 1, 2, 3] rfl) h
    · have h := if_f c8 h
      refine lv_iconst (v := 1) C.1 C.2.1 dX6_addStop_29 (by decide) ?_
      refine lv_goto (tgt := 34) C.1 C.2.1 dX6_addStop_30 (by decide) ?_
      exact w_X6_addStop_b34 C G hP hS (lv_sub hl [0, 1, 2, 3] rfl) h
set_option maxRecDepth 100000 in
set_option maxHeartbeats 4000000 in
theorem m_X6_addStop (l : Launch) {D : va_G} {cs : Nat → ClassId} {ad : Nat → Nat} (hAd : adOK ad) (sz : Nat) {Ls : Nat → SL} {Hs : SL} {T : SL} {M : SL} {dr : Int64} {hs : Int64} {o : Int64} {od : UInt64} {x1 : Int32} {x2 : Int32} {x3 : Int32} {res : Int32 × SL} (h : f_X6_addStop M x1 x2 x3 = some res) : Met l yX6_addStop wsX6_addStop rmX6_addStop (PA D cs sz (wA cs ad Ls Hs T M dr hs o od) [.ref (ad 89), .int x1, .int x2, .int x3]) (va_Qi (fun r' (_ : Unit) => r' = res.1) (fun _ t => va_P D vwCl (wA cs ad Ls Hs T res.2 dr hs o od) t.heap) (Afr ad sz)) 0 0 (Afr ad sz) :=
  k_met (by decide) rfl (Nat.le_of_ble_eq_true rfl) hAd (fun p e s m below meth c ls C G hP hsz hl hS => by
    subst hsz
    exact w_X6_addStop_e C G  hP hS hl  h)
/-! X6 draws -/
abbrev rmX6_draws : Room := { frames := 0, cells := 0, slots := 0, locals := 0 }
theorem q_X6_draws_0 : Cond.constantLong RX6 67 (1103515245) ∈ wsX6_draws := List.mem_of_getElem? (i := 1) rfl
theorem q_X6_draws_1 : Cond.fieldLink RX6 69 "LineBuffersModel" "draw" "J" ∈ wsX6_draws := List.mem_of_getElem? (i := 2) rfl
theorem q_X6_draws_2 : Cond.constantLong RX6 73 (12345) ∈ wsX6_draws := List.mem_of_getElem? (i := 3) rfl
theorem q_X6_draws_3 : Cond.constantLong RX6 75 (2147483648) ∈ wsX6_draws := List.mem_of_getElem? (i := 4) rfl
theorem q_X6_draws_4 : Cond.constantLong RX6 77 (65536) ∈ wsX6_draws := List.mem_of_getElem? (i := 5) rfl
theorem n_X6_draws_X6 : ∀ x ∈ u_ws RX6 TX6 12, x ∈ wsX6_draws := fun x h => List.mem_cons_of_mem _ (List.mem_append_right _ h)
set_option maxRecDepth 100000 in
set_option maxHeartbeats 4000000 in
theorem w_X6_draws_e {res : Int32 × Int64} (C : Cx p s m args meth c cX6_draws 1 (some .int) RX6 wsX6_draws) (G : Gx D cs ad s) {Ls : Nat → SL} {Hs : SL} {T : SL} {M : SL} {hs : Int64} {o : Int64} {od : UInt64} {dr : Int64} {H : Heap} {locs : List Loc} {ls : Array Slot} (hP : va_P D vwCl (wA cs ad Ls Hs T M dr hs o od) H) (hS : va_S (Afr ad s.heap.size) s.heap H locs) (hl : lv_has ls 1 [(0, .ref (ad 89))]) (h : f_X6_draws dr = some res) : W p l e rmX6_draws s m args below meth c H locs 0 0 (MQ below (va_Qi (fun r' (_ : Unit) => r' = res.1) (fun _ t => va_P D vwCl (wA cs ad Ls Hs T M res.2 hs o od) t.heap) (Afr ad s.heap.size)) args s 0 0 (Afr ad s.heap.size)) (F0 m 0 ls []) := by
  unfold f_X6_draws at h
  refine lv_aload_n C.1 C.2.1 dX6_draws_0 rfl (lv_at hl 0 rfl) ?_
  refine k_ldcl C G q_X6_draws_0 dX6_draws_1 ?_
  refine lv_aload_n C.1 C.2.1 dX6_draws_4 rfl (lv_at hl 0 rfl) ?_
  obtain ⟨w1, ew1, h⟩ := lt_out h
  refine k_getl C G hP r_obj rfl 8 (by decide) n_X6_draws_X6 q_X6_draws_1 rfl ew1 dX6_draws_5 ?_
  obtain ⟨w2, ew2, h⟩ := lt_out h
  refine k_lmul C ew2 dX6_draws_8 ?_
  refine k_ldcl C G q_X6_draws_2 dX6_draws_9 ?_
  obtain ⟨w3, ew3, h⟩ := lt_out h
  refine k_ladd C ew3 dX6_draws_12 ?_
  refine k_ldcl C G q_X6_draws_3 dX6_draws_13 ?_
  obtain ⟨w4, ew4, h⟩ := lt_out h
  refine k_lrem C (by decide) ew4 dX6_draws_16 ?_
  obtain ⟨dr5, edr5, h⟩ := lt_out h
  refine k_putl C G hP hS r_obj rfl 8 (by decide) n_X6_draws_X6 q_X6_draws_1 tyX6_ok nmX6 rfl (tyX6_ok 8 (by decide)) (Nat.le_of_ble_eq_true rfl) r_objS8 dX6_draws_17 (fun H locs hP hS => ?_)
  rw [← edr5] at hP
  refine lv_aload_n C.1 C.2.1 dX6_draws_20 rfl (lv_at hl 0 rfl) ?_
  obtain ⟨w6, ew6, h⟩ := lt_out h
  refine k_getl C G hP r_obj rfl 8 (by decide) n_X6_draws_X6 q_X6_draws_1 rfl ew6 dX6_draws_21 ?_
  refine k_ldcl C G q_X6_draws_4 dX6_draws_24 ?_
  obtain ⟨w7, ew7, h⟩ := lt_out h
  refine k_ldiv C (by decide) ew7 dX6_draws_27 ?_
  obtain ⟨v8, ev8, h⟩ := lt_out h
  refine k_l2i C ev8 dX6_draws_28 ?_
  cases h
  exact k_iret C hP hS dX6_draws_29
set_option maxRecDepth 100000 in
set_option maxHeartbeats 4000000 in
theorem m_X6_draws (l : Launch) {D : va_G} {cs : Nat → ClassId} {ad : Nat → Nat} (hAd : adOK ad) (sz : Nat) {Ls : Nat → SL} {Hs : SL} {T : SL} {M : SL} {dr : Int64} {hs : Int64} {o : Int64} {od : UInt64} {res : Int32 × Int64} (h : f_X6_draws dr = some res) : Met l yX6_draws wsX6_draws rmX6_draws (PA D cs sz (wA cs ad Ls Hs T M dr hs o od) [.ref (ad 89)]) (va_Qi (fun r' (_ : Unit) => r' = res.1) (fun _ t => va_P D vwCl (wA cs ad Ls Hs T M res.2 hs o od) t.heap) (Afr ad sz)) 0 0 (Afr ad sz) :=
  k_met (by decide) rfl (Nat.le_of_ble_eq_true rfl) hAd (fun p e s m below meth c ls C G hP hsz hl hS => by
    subst hsz
    exact w_X6_draws_e C G  hP hS hl  h)
/-! X6 addRandomStops -/
abbrev rmX6_addRandomStops : Room := { frames := 2, cells := 0, slots := 0, locals := 43 }
theorem q_X6_addRandomStops_0 : Cond.constant RX6 79 (999999) ∈ wsX6_addRandomStops := List.mem_of_getElem? (i := 1) rfl
theorem q_X6_addRandomStops_1 : Cond.fieldLink RX6 7 "LineBuffersModel" "now" "[I" ∈ wsX6_addRandomStops := List.mem_of_getElem? (i := 2) rfl
theorem q_X6_addRandomStops_2 : Cond.fieldLink RX6 69 "LineBuffersModel" "draw" "J" ∈ wsX6_addRandomStops := List.mem_of_getElem? (i := 3) rfl
theorem n_X6_addRandomStops_X6 : ∀ x ∈ u_ws RX6 TX6 12, x ∈ wsX6_addRandomStops := fun x h => List.mem_cons_of_mem _ (List.mem_append_right _ h)
set_option maxRecDepth 100000 in
set_option maxHeartbeats 4000000 in
theorem w_X6_addRandomStops_b201 {res : Int32 × SL × Int64} (C : Cx p s m args meth c cX6_addRandomStops 12 (some .int) RX6 wsX6_addRandomStops) (G : Gx D cs ad s) {Ls : Nat → SL} {Hs : SL} {T : SL} {hs : Int64} {o : Int64} {od : UInt64} {K123 : SL → Int64 → Int32 → Int32 → Int32 → Int32 → Int32 → Int32 → Int32 → Option (Int32 × SL × Int64)} (hK123 : ∀ {M : SL} {dr : Int64} {x1 : Int32} {x3 : Int32} {x4 : Int32} {x5 : Int32} {x7 : Int32} {x8 : Int32} {x9 : Int32} {H : Heap} {locs : List Loc} {ls : Array Slot}, va_P D vwCl (wA cs ad Ls Hs T M dr hs o od) H → va_S (Afr ad s.heap.size) s.heap H locs → lv_has ls 12 [(0, .ref (ad 89)), (1, .int x1), (3, .int x3), (4, .int x4), (5, .int x5), (7, .int x7), (8, .int x8), (9, .int x9)] → K123 M dr x1 x3 x4 x5 x7 x8 x9 = some res → W p l e rmX6_addRandomStops s m args below meth c H locs 0 0 (MQ below (va_Qi (fun r' (_ : Unit) => r' = res.1) (fun _ t => va_P D vwCl (wA cs ad Ls Hs T res.2.1 res.2.2 hs o od) t.heap) (Afr ad s.heap.size)) args s 0 0 (Afr ad s.heap.size)) (F0 m 123 ls [])) {M : SL} {dr : Int64} {x1 : Int32} {x3 : Int32} {x4 : Int32} {x5 : Int32} {x7 : Int32} {x8 : Int32} {x9 : Int32} {H : Heap} {locs : List Loc} {ls : Array Slot} (hP : va_P D vwCl (wA cs ad Ls Hs T M dr hs o od) H) (hS : va_S (Afr ad s.heap.size) s.heap H locs) (hl : lv_has ls 12 [(0, .ref (ad 89)), (1, .int x1), (3, .int x3), (4, .int x4), (5, .int x5), (7, .int x7), (8, .int x8), (9, .int x9)]) (h : f_X6_addRandomStops_b201 K123 M dr x1 x3 x4 x5 x7 x8 x9 = some res) : W p l e rmX6_addRandomStops s m args below meth c H locs 0 0 (MQ below (va_Qi (fun r' (_ : Unit) => r' = res.1) (fun _ t => va_P D vwCl (wA cs ad Ls Hs T res.2.1 res.2.2 hs o od) t.heap) (Afr ad s.heap.size)) args s 0 0 (Afr ad s.heap.size)) (F0 m 201 ls []) := by
  unfold f_X6_addRandomStops_b201 at h
  obtain ⟨z1, ez1, h⟩ := lt_out h
  refine lv_iinc (v := z1) (lv' := [(9, .int z1), (0, .ref (ad 89)), (1, .int x1), (3, .int x3), (4, .int x4), (5, .int x5), (7, .int x7), (8, .int x8)]) C.1 C.2.1 dX6_addRandomStops_201 hl (k := 7) rfl (by rw [ez1]; rfl) (by decide) rfl (fun ls hl => ?_)
  refine lv_goto (tgt := 123) C.1 C.2.1 dX6_addRandomStops_204 (by decide) ?_
  exact hK123 hP hS (lv_sub hl [1, 2, 3, 4, 5, 6, 7, 0] rfl)  h
set_option maxRecDepth 100000 in
set_option maxHeartbeats 4000000 in
theorem w_X6_addRandomStops_b163 {res : Int32 × SL × Int64} (C : Cx p s m args meth c cX6_addRandomStops 12 (some .int) RX6 wsX6_addRandomStops) (G : Gx D cs ad s) {Ls : Nat → SL} {Hs : SL} {T : SL} {hs : Int64} {o : Int64} {od : UInt64} {K123 : SL → Int64 → Int32 → Int32 → Int32 → Int32 → Int32 → Int32 → Int32 → Option (Int32 × SL × Int64)} (hK123 : ∀ {M : SL} {dr : Int64} {x1 : Int32} {x3 : Int32} {x4 : Int32} {x5 : Int32} {x7 : Int32} {x8 : Int32} {x9 : Int32} {H : Heap} {locs : List Loc} {ls : Array Slot}, va_P D vwCl (wA cs ad Ls Hs T M dr hs o od) H → va_S (Afr ad s.heap.size) s.heap H locs → lv_has ls 12 [(0, .ref (ad 89)), (1, .int x1), (3, .int x3), (4, .int x4), (5, .int x5), (7, .int x7), (8, .int x8), (9, .int x9)] → K123 M dr x1 x3 x4 x5 x7 x8 x9 = some res → W p l e rmX6_addRandomStops s m args below meth c H locs 0 0 (MQ below (va_Qi (fun r' (_ : Unit) => r' = res.1) (fun _ t => va_P D vwCl (wA cs ad Ls Hs T res.2.1 res.2.2 hs o od) t.heap) (Afr ad s.heap.size)) args s 0 0 (Afr ad s.heap.size)) (F0 m 123 ls [])) {M : SL} {dr : Int64} {x1 : Int32} {x3 : Int32} {x4 : Int32} {x5 : Int32} {x7 : Int32} {x9 : Int32} {x10 : Int32} {s0 : Int32} {H : Heap} {locs : List Loc} {ls : Array Slot} (hP : va_P D vwCl (wA cs ad Ls Hs T M dr hs o od) H) (hS : va_S (Afr ad s.heap.size) s.heap H locs) (hl : lv_has ls 12 [(0, .ref (ad 89)), (1, .int x1), (3, .int x3), (4, .int x4), (5, .int x5), (7, .int x7), (9, .int x9), (10, .int x10)]) (h : f_X6_addRandomStops_b163 K123 M dr x1 x3 x4 x5 x7 x9 x10 s0 = some res) : W p l e rmX6_addRandomStops s m args below meth c H locs 0 0 (MQ below (va_Qi (fun r' (_ : Unit) => r' = res.1) (fun _ t => va_P D vwCl (wA cs ad Ls Hs T res.2.1 res.2.2 hs o od) t.heap) (Afr ad s.heap.size)) args s 0 0 (Afr ad s.heap.size)) (F0 m 163 ls [.int s0]) := by
  unfold f_X6_addRandomStops_b163 at h
  refine lv_istore (lv' := [(8, .int s0), (0, .ref (ad 89)), (1, .int x1), (3, .int x3), (4, .int x4), (5, .int x5), (7, .int x7), (9, .int x9), (10, .int x10)]) C.1 C.2.1 dX6_addRandomStops_163 hl (by decide) rfl (fun ls hl => ?_)
  refine lv_iload C.1 C.2.1 dX6_addRandomStops_165 (lv_at hl 0 rfl) ?_
  refine lv_if_eq (tgt := 201) C.1 C.2.1 dX6_addRandomStops_167 (by decide) (fun c1 => ?_) (fun c1 => ?_)
  · have h := if_t c1 h
    exact w_X6_addRandomStops_b201 C G hK123 hP hS (lv_sub hl [1, 2, 3, 4, 5, 6, 0, 7] rfl) h
  · have h := if_f c1 h
    refine lv_iconst (v := 1) C.1 C.2.1 dX6_addRandomStops_170 (by decide) ?_
    refine lv_aload_n C.1 C.2.1 dX6_addRandomStops_171 rfl (lv_at hl 1 rfl) ?_
    obtain ⟨r2, dr3, c4, h⟩ := bd2_out h
    refine k_callVi C G hP hS (m_X6_draws l G.2.1 _  c4) r_obj rfl (cwV 0 C.2.2.2.2.2.1 gX6_addRandomStops_X6_draws rfl rfl rfl (by decide +kernel) ⟨Nat.le_of_ble_eq_true rfl, Nat.le_of_ble_eq_true rfl⟩) (As := []) rfl hl.1 rfl (Nat.le_of_ble_eq_true rfl) dX6_addRandomStops_172 ⟨Nat.le_of_ble_eq_true rfl, Nat.le_of_ble_eq_true rfl⟩ (fun H locs hP hS => ?_)
    refine lv_iconst (v := 2) C.1 C.2.1 dX6_addRandomStops_175 (by decide) ?_
    refine lv_iload C.1 C.2.1 dX6_addRandomStops_176 (lv_at hl 4 rfl) ?_
    obtain ⟨v5, ev5, h⟩ := lt_out h
    refine k_imul C ev5 dX6_addRandomStops_178 ?_
    obtain ⟨g6, h⟩ := gd_out h
    have g6 := nz_ne g6
    obtain ⟨v7, ev7, h⟩ := lt_out h
    refine k_irem C g6 ev7 dX6_addRandomStops_179 ?_
    obtain ⟨v8, ev8, h⟩ := lt_out h
    refine k_iadd C ev8 dX6_addRandomStops_180 ?_
    refine lv_istore (lv' := [(11, .int v8), (8, .int s0), (0, .ref (ad 89)), (1, .int x1), (3, .int x3), (4, .int x4), (5, .int x5), (7, .int x7), (9, .int x9), (10, .int x10)]) C.1 C.2.1 dX6_addRandomStops_181 hl (by decide) rfl (fun ls hl => ?_)
    refine lv_aload_n C.1 C.2.1 dX6_addRandomStops_183 rfl (lv_at hl 2 rfl) ?_
    refine lv_iload_n C.1 C.2.1 dX6_addRandomStops_184 rfl (lv_at hl 3 rfl) ?_
    refine lv_iload C.1 C.2.1 dX6_addRandomStops_185 (lv_at hl 9 rfl) ?_
    refine lv_iload C.1 C.2.1 dX6_addRandomStops_187 (lv_at hl 0 rfl) ?_
    obtain ⟨M9, c10, h⟩ := bd_out h
    refine k_callVv C G hP hS (m_X6_plans l G.2.1 _  c10) r_obj rfl (cwV 3 C.2.2.2.2.2.1 gX6_addRandomStops_X6_plans rfl rfl rfl (by decide +kernel) ⟨Nat.le_of_ble_eq_true rfl, Nat.le_of_ble_eq_true rfl⟩) (As := [.int x1, .int x10, .int v8]) rfl hl.1 rfl (Nat.le_of_ble_eq_true rfl) dX6_addRandomStops_189 ⟨Nat.le_of_ble_eq_true rfl, Nat.le_of_ble_eq_true rfl⟩ (fun H locs hP hS => ?_)
    refine lv_iload C.1 C.2.1 dX6_addRandomStops_192 (lv_at hl 9 rfl) ?_
    refine lv_iload C.1 C.2.1 dX6_addRandomStops_194 (lv_at hl 0 rfl) ?_
    obtain ⟨v11, ev11, h⟩ := lt_out h
    refine k_iadd C ev11 dX6_addRandomStops_196 ?_
    refine lv_iconst (v := 1) C.1 C.2.1 dX6_addRandomStops_197 (by decide) ?_
    obtain ⟨v12, ev12, h⟩ := lt_out h
    refine k_isub C ev12 dX6_addRandomStops_198 ?_
    refine lv_istore (lv' := [(7, .int v12), (11, .int v8), (8, .int s0), (0, .ref (ad 89)), (1, .int x1), (3, .int x3), (4, .int x4), (5, .int x5), (9, .int x9), (10, .int x10)]) C.1 C.2.1 dX6_addRandomStops_199 hl (by decide) rfl (fun ls hl => ?_)
    exact w_X6_addRandomStops_b201 C G hK123 hP hS (lv_sub hl [3, 4, 5, 6, 7, 0, 2, 8] rfl) h
set_option maxRecDepth 100000 in
set_option maxHeartbeats 4000000 in
theorem w_X6_addRandomStops_b207 {res : Int32 × SL × Int64} (C : Cx p s m args meth c cX6_addRandomStops 12 (some .int) RX6 wsX6_addRandomStops) (G : Gx D cs ad s) {Ls : Nat → SL} {Hs : SL} {T : SL} {hs : Int64} {o : Int64} {od : UInt64} {M : SL} {dr : Int64} {H : Heap} {locs : List Loc} {ls : Array Slot} (hP : va_P D vwCl (wA cs ad Ls Hs T M dr hs o od) H) (hS : va_S (Afr ad s.heap.size) s.heap H locs) (hl : lv_has ls 12 [(0, .ref (ad 89))]) (h : f_X6_addRandomStops_b207 M dr = some res) : W p l e rmX6_addRandomStops s m args below meth c H locs 0 0 (MQ below (va_Qi (fun r' (_ : Unit) => r' = res.1) (fun _ t => va_P D vwCl (wA cs ad Ls Hs T res.2.1 res.2.2 hs o od) t.heap) (Afr ad s.heap.size)) args s 0 0 (Afr ad s.heap.size)) (F0 m 207 ls []) := by
  unfold f_X6_addRandomStops_b207 at h
  refine lv_aload_n C.1 C.2.1 dX6_addRandomStops_207 rfl (lv_at hl 0 rfl) ?_
  refine k_getf C G hP r_obj rfl 0 (by decide) n_X6_addRandomStops_X6 q_X6_addRandomStops_1 (v := .ref (ad (89 + 1))) rfl dX6_addRandomStops_208 ?_
  refine lv_iconst (v := 2) C.1 C.2.1 dX6_addRandomStops_211 (by decide) ?_
  obtain ⟨v1, ev1, h⟩ := lt_out h
  refine k_iald C G hP (r_arr (k := 1) (by decide)) (chk_in rfl) (j := 2) rfl ev1 dX6_addRandomStops_212 ?_
  cases h
  exact k_iret C hP hS dX6_addRandomStops_213
set_option maxRecDepth 100000 in
set_option maxHeartbeats 4000000 in
theorem w_X6_addRandomStops_b123 {res : Int32 × SL × Int64} (C : Cx p s m args meth c cX6_addRandomStops 12 (some .int) RX6 wsX6_addRandomStops) (G : Gx D cs ad s) {Ls : Nat → SL} {Hs : SL} {T : SL} {hs : Int64} {o : Int64} {od : UInt64} {K123 : SL → Int64 → Int32 → Int32 → Int32 → Int32 → Int32 → Int32 → Int32 → Option (Int32 × SL × Int64)} (hK123 : ∀ {M : SL} {dr : Int64} {x1 : Int32} {x3 : Int32} {x4 : Int32} {x5 : Int32} {x7 : Int32} {x8 : Int32} {x9 : Int32} {H : Heap} {locs : List Loc} {ls : Array Slot}, va_P D vwCl (wA cs ad Ls Hs T M dr hs o od) H → va_S (Afr ad s.heap.size) s.heap H locs → lv_has ls 12 [(0, .ref (ad 89)), (1, .int x1), (3, .int x3), (4, .int x4), (5, .int x5), (7, .int x7), (8, .int x8), (9, .int x9)] → K123 M dr x1 x3 x4 x5 x7 x8 x9 = some res → W p l e rmX6_addRandomStops s m args below meth c H locs 0 0 (MQ below (va_Qi (fun r' (_ : Unit) => r' = res.1) (fun _ t => va_P D vwCl (wA cs ad Ls Hs T res.2.1 res.2.2 hs o od) t.heap) (Afr ad s.heap.size)) args s 0 0 (Afr ad s.heap.size)) (F0 m 123 ls [])) {M : SL} {dr : Int64} {x1 : Int32} {x3 : Int32} {x4 : Int32} {x5 : Int32} {x7 : Int32} {x8 : Int32} {x9 : Int32} {H : Heap} {locs : List Loc} {ls : Array Slot} (hP : va_P D vwCl (wA cs ad Ls Hs T M dr hs o od) H) (hS : va_S (Afr ad s.heap.size) s.heap H locs) (hl : lv_has ls 12 [(0, .ref (ad 89)), (1, .int x1), (3, .int x3), (4, .int x4), (5, .int x5), (7, .int x7), (8, .int x8), (9, .int x9)]) (h : f_X6_addRandomStops_b123 K123 M dr x1 x3 x4 x5 x7 x8 x9 = some res) : W p l e rmX6_addRandomStops s m args below meth c H locs 0 0 (MQ below (va_Qi (fun r' (_ : Unit) => r' = res.1) (fun _ t => va_P D vwCl (wA cs ad Ls Hs T res.2.1 res.2.2 hs o od) t.heap) (Afr ad s.heap.size)) args s 0 0 (Afr ad s.heap.size)) (F0 m 123 ls []) := by
  unfold f_X6_addRandomStops_b123 at h
  refine lv_iload C.1 C.2.1 dX6_addRandomStops_123 (lv_at hl 7 rfl) ?_
  refine lv_iload C.1 C.2.1 dX6_addRandomStops_125 (lv_at hl 4 rfl) ?_
  refine lv_icmp_ge (tgt := 207) C.1 C.2.1 dX6_addRandomStops_127 (by decide) (fun c1 => ?_) (fun c1 => ?_)
  · have h := if_t c1 h
    exact w_X6_addRandomStops_b207 C G hP hS (lv_sub hl [0] rfl) h
  · have h := if_f c1 h
    refine lv_iload C.1 C.2.1 dX6_addRandomStops_130 (lv_at hl 6 rfl) ?_
    refine lv_if_eq (tgt := 207) C.1 C.2.1 dX6_addRandomStops_132 (by decide) (fun c2 => ?_) (fun c2 => ?_)
    · have h := if_t c2 h
      exact w_X6_addRandomStops_b207 C G hP hS (lv_sub hl [0] rfl) h
    · have h := if_f c2 h
      refine lv_iload C.1 C.2.1 dX6_addRandomStops_135 (lv_at hl 5 rfl) ?_
      refine lv_iconst (v := 1) C.1 C.2.1 dX6_addRandomStops_137 (by decide) ?_
      obtain ⟨v3, ev3, h⟩ := lt_out h
      refine k_iadd C ev3 dX6_addRandomStops_138 ?_
      refine lv_aload_n C.1 C.2.1 dX6_addRandomStops_139 rfl (lv_at hl 0 rfl) ?_
      obtain ⟨r4, dr5, c6, h⟩ := bd2_out h
      refine k_callVi C G hP hS (m_X6_draws l G.2.1 _  c6) r_obj rfl (cwV 0 C.2.2.2.2.2.1 gX6_addRandomStops_X6_draws rfl rfl rfl (by decide +kernel) ⟨Nat.le_of_ble_eq_true rfl, Nat.le_of_ble_eq_true rfl⟩) (As := []) rfl hl.1 rfl (Nat.le_of_ble_eq_true rfl) dX6_addRandomStops_140 ⟨Nat.le_of_ble_eq_true rfl, Nat.le_of_ble_eq_true rfl⟩ (fun H locs hP hS => ?_)
      refine lv_iconst (v := 2) C.1 C.2.1 dX6_addRandomStops_143 (by decide) ?_
      refine lv_iload_n C.1 C.2.1 dX6_addRandomStops_144 rfl (lv_at hl 2 rfl) ?_
      obtain ⟨v7, ev7, h⟩ := lt_out h
      refine k_imul C ev7 dX6_addRandomStops_145 ?_
      obtain ⟨g8, h⟩ := gd_out h
      have g8 := nz_ne g8
      obtain ⟨v9, ev9, h⟩ := lt_out h
      refine k_irem C g8 ev9 dX6_addRandomStops_146 ?_
      obtain ⟨v10, ev10, h⟩ := lt_out h
      refine k_iadd C ev10 dX6_addRandomStops_147 ?_
      refine lv_istore (lv' := [(10, .int v10), (0, .ref (ad 89)), (1, .int x1), (3, .int x3), (4, .int x4), (5, .int x5), (7, .int x7), (8, .int x8), (9, .int x9)]) C.1 C.2.1 dX6_addRandomStops_148 hl (by decide) rfl (fun ls hl => ?_)
      refine lv_iload C.1 C.2.1 dX6_addRandomStops_150 (lv_at hl 0 rfl) ?_
      refine lv_sipush (v := 10000) C.1 C.2.1 dX6_addRandomStops_152 (by decide) ?_
      refine lv_icmp_gt (tgt := 162) C.1 C.2.1 dX6_addRandomStops_155 (by decide) (fun c11 => ?_) (fun c11 => ?_)
      · have h := if_t c11 h
        refine lv_iconst (v := 0) C.1 C.2.1 dX6_addRandomStops_162 (by decide) ?_
        exact w_X6_addRandomStops_b163 C G hK123 hP hS (lv_sub hl [1, 2, 3, 4, 5, 6, 8, 0] rfl) h
      · have h := if_f c11 h
        refine lv_iconst (v := 1) C.1 C.2.1 dX6_addRandomStops_158 (by decide) ?_
        refine lv_goto (tgt := 163) C.1 C.2.1 dX6_addRandomStops_159 (by decide) ?_
        exact w_X6_addRandomStops_b163 C G hK123 hP hS (lv_sub hl [1, 2, 3, 4, 5, 6, 8, 0] rfl) h
set_option maxRecDepth 100000 in
set_option maxHeartbeats 4000000 in
theorem w_X6_addRandomStops_h123 {res : Int32 × SL × Int64} (C : Cx p s m args meth c cX6_addRandomStops 12 (some .int) RX6 wsX6_addRandomStops) (G : Gx D cs ad s) {Ls : Nat → SL} {Hs : SL} {T : SL} {hs : Int64} {o : Int64} {od : UInt64} : ∀ (n : Nat) {M : SL} {dr : Int64} {x1 : Int32} {x3 : Int32} {x4 : Int32} {x5 : Int32} {x7 : Int32} {x8 : Int32} {x9 : Int32} {H : Heap} {locs : List Loc} {ls : Array Slot}, va_P D vwCl (wA cs ad Ls Hs T M dr hs o od) H → va_S (Afr ad s.heap.size) s.heap H locs → lv_has ls 12 [(0, .ref (ad 89)), (1, .int x1), (3, .int x3), (4, .int x4), (5, .int x5), (7, .int x7), (8, .int x8), (9, .int x9)] → f_X6_addRandomStops_h123 n M dr x1 x3 x4 x5 x7 x8 x9 = some res → W p l e rmX6_addRandomStops s m args below meth c H locs 0 0 (MQ below (va_Qi (fun r' (_ : Unit) => r' = res.1) (fun _ t => va_P D vwCl (wA cs ad Ls Hs T res.2.1 res.2.2 hs o od) t.heap) (Afr ad s.heap.size)) args s 0 0 (Afr ad s.heap.size)) (F0 m 123 ls []) := by
  intro n
  induction n with
  | zero => intro M dr x1 x3 x4 x5 x7 x8 x9 H locs ls hP hS hl  h; cases h
  | succ n ih => intro M dr x1 x3 x4 x5 x7 x8 x9 H locs ls hP hS hl  h; exact w_X6_addRandomStops_b123 C G    ih hP hS hl  h
set_option maxRecDepth 100000 in
set_option maxHeartbeats 4000000 in
theorem w_X6_addRandomStops_b91 {res : Int32 × SL × Int64} (C : Cx p s m args meth c cX6_addRandomStops 12 (some .int) RX6 wsX6_addRandomStops) (G : Gx D cs ad s) {Ls : Nat → SL} {Hs : SL} {T : SL} {hs : Int64} {o : Int64} {od : UInt64} {M : SL} {dr : Int64} {x1 : Int32} {x2 : Int32} {x3 : Int32} {x4 : Int32} {x5 : Int32} {s1 : Int32} {H : Heap} {locs : List Loc} {ls : Array Slot} (hP : va_P D vwCl (wA cs ad Ls Hs T M dr hs o od) H) (hS : va_S (Afr ad s.heap.size) s.heap H locs) (hl : lv_has ls 12 [(0, .ref (ad 89)), (1, .int x1), (2, .int x2), (3, .int x3), (4, .int x4), (5, .int x5)]) (h : f_X6_addRandomStops_b91 M dr x1 x2 x3 x4 x5 s1 = some res) : W p l e rmX6_addRandomStops s m args below meth c H locs 0 0 (MQ below (va_Qi (fun r' (_ : Unit) => r' = res.1) (fun _ t => va_P D vwCl (wA cs ad Ls Hs T res.2.1 res.2.2 hs o od) t.heap) (Afr ad s.heap.size)) args s 0 0 (Afr ad s.heap.size)) (F0 m 91 ls [.int s1, .ref (ad 89)]) := by
  unfold f_X6_addRandomStops_b91 at h
  obtain ⟨r1, M2, c3, h⟩ := bd2_out h
  refine k_callVi C G hP hS (m_X6_refused l G.2.1 _  c3) r_obj rfl (cwV 1 C.2.2.2.2.2.1 gX6_addRandomStops_X6_refused rfl rfl rfl (by decide +kernel) ⟨Nat.le_of_ble_eq_true rfl, Nat.le_of_ble_eq_true rfl⟩) (As := [.int s1]) rfl hl.1 rfl (Nat.le_of_ble_eq_true rfl) dX6_addRandomStops_91 ⟨Nat.le_of_ble_eq_true rfl, Nat.le_of_ble_eq_true rfl⟩ (fun H locs hP hS => ?_)
  refine lv_if_eq (tgt := 99) C.1 C.2.1 dX6_addRandomStops_94 (by decide) (fun c4 => ?_) (fun c4 => ?_)
  · have h := if_t c4 h
    refine lv_aload_n C.1 C.2.1 dX6_addRandomStops_99 rfl (lv_at hl 0 rfl) ?_
    obtain ⟨M5, c6, h⟩ := bd_out h
    refine k_callVv C G hP hS (m_X6_saves l G.2.1 _  c6) r_obj rfl (cwV 0 C.2.2.2.2.2.1 gX6_addRandomStops_X6_saves rfl rfl rfl (by decide +kernel) ⟨Nat.le_of_ble_eq_true rfl, Nat.le_of_ble_eq_true rfl⟩) (As := []) rfl hl.1 rfl (Nat.le_of_ble_eq_true rfl) dX6_addRandomStops_100 ⟨Nat.le_of_ble_eq_true rfl, Nat.le_of_ble_eq_true rfl⟩ (fun H locs hP hS => ?_)
    refine lv_aload_n C.1 C.2.1 dX6_addRandomStops_103 rfl (lv_at hl 0 rfl) ?_
    refine lv_iload_n C.1 C.2.1 dX6_addRandomStops_104 rfl (lv_at hl 2 rfl) ?_
    obtain ⟨w7, ew7, h⟩ := lt_out h
    refine k_i2l C ew7 dX6_addRandomStops_105 ?_
    obtain ⟨dr8, edr8, h⟩ := lt_out h
    refine k_putl C G hP hS r_obj rfl 8 (by decide) n_X6_addRandomStops_X6 q_X6_addRandomStops_2 tyX6_ok nmX6 rfl (tyX6_ok 8 (by decide)) (Nat.le_of_ble_eq_true rfl) r_objS8 dX6_addRandomStops_106 (fun H locs hP hS => ?_)
    rw [← edr8] at hP
    refine lv_aload_n C.1 C.2.1 dX6_addRandomStops_109 rfl (lv_at hl 0 rfl) ?_
    refine k_getf C G hP r_obj rfl 0 (by decide) n_X6_addRandomStops_X6 q_X6_addRandomStops_1 (v := .ref (ad (89 + 1))) rfl dX6_addRandomStops_110 ?_
    refine lv_iconst (v := 1) C.1 C.2.1 dX6_addRandomStops_113 (by decide) ?_
    obtain ⟨v9, ev9, h⟩ := lt_out h
    refine k_iald C G hP (r_arr (k := 1) (by decide)) (chk_in rfl) (j := 1) rfl ev9 dX6_addRandomStops_114 ?_
    refine lv_istore (lv' := [(7, .int v9), (0, .ref (ad 89)), (1, .int x1), (2, .int x2), (3, .int x3), (4, .int x4), (5, .int x5)]) C.1 C.2.1 dX6_addRandomStops_115 hl (by decide) rfl (fun ls hl => ?_)
    refine lv_iconst (v := 1) C.1 C.2.1 dX6_addRandomStops_117 (by decide) ?_
    refine lv_istore (lv' := [(8, .int 1), (7, .int v9), (0, .ref (ad 89)), (1, .int x1), (2, .int x2), (3, .int x3), (4, .int x4), (5, .int x5)]) C.1 C.2.1 dX6_addRandomStops_118 hl (by decide) rfl (fun ls hl => ?_)
    refine lv_iconst (v := 0) C.1 C.2.1 dX6_addRandomStops_120 (by decide) ?_
    refine lv_istore (lv' := [(9, .int 0), (8, .int 1), (7, .int v9), (0, .ref (ad 89)), (1, .int x1), (2, .int x2), (3, .int x3), (4, .int x4), (5, .int x5)]) C.1 C.2.1 dX6_addRandomStops_121 hl (by decide) rfl (fun ls hl => ?_)
    exact w_X6_addRandomStops_h123 C G fuel hP hS (lv_sub hl [3, 4, 6, 7, 8, 2, 1, 0] rfl) h
  · have h := if_f c4 h
    refine lv_iconst (v := 0) C.1 C.2.1 dX6_addRandomStops_97 (by decide) ?_
    cases h
    exact k_iret C hP hS dX6_addRandomStops_98
set_option maxRecDepth 100000 in
set_option maxHeartbeats 4000000 in
theorem w_X6_addRandomStops_b48 {res : Int32 × SL × Int64} (C : Cx p s m args meth c cX6_addRandomStops 12 (some .int) RX6 wsX6_addRandomStops) (G : Gx D cs ad s) {Ls : Nat → SL} {Hs : SL} {T : SL} {hs : Int64} {o : Int64} {od : UInt64} {M : SL} {dr : Int64} {x1 : Int32} {x2 : Int32} {x3 : Int32} {x4 : Int32} {x5 : Int32} {s0 : Int32} {H : Heap} {locs : List Loc} {ls : Array Slot} (hP : va_P D vwCl (wA cs ad Ls Hs T M dr hs o od) H) (hS : va_S (Afr ad s.heap.size) s.heap H locs) (hl : lv_has ls 12 [(0, .ref (ad 89)), (1, .int x1), (2, .int x2), (3, .int x3), (4, .int x4), (5, .int x5)]) (h : f_X6_addRandomStops_b48 M dr x1 x2 x3 x4 x5 s0 = some res) : W p l e rmX6_addRandomStops s m args below meth c H locs 0 0 (MQ below (va_Qi (fun r' (_ : Unit) => r' = res.1) (fun _ t => va_P D vwCl (wA cs ad Ls Hs T res.2.1 res.2.2 hs o od) t.heap) (Afr ad s.heap.size)) args s 0 0 (Afr ad s.heap.size)) (F0 m 48 ls [.int s0]) := by
  unfold f_X6_addRandomStops_b48 at h
  refine lv_istore (lv' := [(6, .int s0), (0, .ref (ad 89)), (1, .int x1), (2, .int x2), (3, .int x3), (4, .int x4), (5, .int x5)]) C.1 C.2.1 dX6_addRandomStops_48 hl (by decide) rfl (fun ls hl => ?_)
  refine lv_aload_n C.1 C.2.1 dX6_addRandomStops_50 rfl (lv_at hl 1 rfl) ?_
  refine lv_aload_n C.1 C.2.1 dX6_addRandomStops_51 rfl (lv_at hl 1 rfl) ?_
  refine lv_iload_n C.1 C.2.1 dX6_addRandomStops_52 rfl (lv_at hl 2 rfl) ?_
  obtain ⟨r1, c2, h⟩ := bd_out h
  refine k_callVi C G hP hS (m_X6_isMachine l G.2.1 _  c2) r_obj rfl (cwV 1 C.2.2.2.2.2.1 gX6_addRandomStops_X6_isMachine rfl rfl rfl (by decide +kernel) ⟨Nat.le_of_ble_eq_true rfl, Nat.le_of_ble_eq_true rfl⟩) (As := [.int x1]) rfl hl.1 rfl (Nat.le_of_ble_eq_true rfl) dX6_addRandomStops_53 ⟨Nat.le_of_ble_eq_true rfl, Nat.le_of_ble_eq_true rfl⟩ (fun H locs hP hS => ?_)
  refine lv_if_ne (tgt := 63) C.1 C.2.1 dX6_addRandomStops_56 (by decide) (fun c3 => ?_) (fun c3 => ?_)
  · have h := if_t c3 h
    refine lv_iload C.1 C.2.1 dX6_addRandomStops_63 (lv_at hl 0 rfl) ?_
    refine lv_if_ne (tgt := 72) C.1 C.2.1 dX6_addRandomStops_65 (by decide) (fun c4 => ?_) (fun c4 => ?_)
    · have h := if_t c4 h
      refine lv_aload_n C.1 C.2.1 dX6_addRandomStops_72 rfl (lv_at hl 1 rfl) ?_
      refine k_getf C G hP r_obj rfl 0 (by decide) n_X6_addRandomStops_X6 q_X6_addRandomStops_1 (v := .ref (ad (89 + 1))) rfl dX6_addRandomStops_73 ?_
      refine lv_iconst (v := 2) C.1 C.2.1 dX6_addRandomStops_76 (by decide) ?_
      obtain ⟨v5, ev5, h⟩ := lt_out h
      refine k_iald C G hP (r_arr (k := 1) (by decide)) (chk_in rfl) (j := 2) rfl ev5 dX6_addRandomStops_77 ?_
      refine lv_iload C.1 C.2.1 dX6_addRandomStops_78 (lv_at hl 6 rfl) ?_
      obtain ⟨v6, ev6, h⟩ := lt_out h
      refine k_iadd C ev6 dX6_addRandomStops_80 ?_
      refine lv_bipush (v := 40) C.1 C.2.1 dX6_addRandomStops_81 (by decide) ?_
      refine lv_icmp_le (tgt := 90) C.1 C.2.1 dX6_addRandomStops_83 (by decide) (fun c7 => ?_) (fun c7 => ?_)
      · have h := if_t c7 h
        refine lv_iconst (v := 0) C.1 C.2.1 dX6_addRandomStops_90 (by decide) ?_
        exact w_X6_addRandomStops_b91 C G hP hS (lv_sub hl [1, 2, 3, 4, 5, 6] rfl) h
      · have h := if_f c7 h
        refine lv_iconst (v := 3) C.1 C.2.1 dX6_addRandomStops_86 (by decide) ?_
        refine lv_goto (tgt := 91) C.1 C.2.1 dX6_addRandomStops_87 (by decide) ?_
        exact w_X6_addRandomStops_b91 C G hP hS (lv_sub hl [1, 2, 3, 4, 5, 6] rfl) h
    · have h := if_n c4 h
      refine lv_iconst (v := 2) C.1 C.2.1 dX6_addRandomStops_68 (by decide) ?_
      refine lv_goto (tgt := 91) C.1 C.2.1 dX6_addRandomStops_69 (by decide) ?_
      exact w_X6_addRandomStops_b91 C G hP hS (lv_sub hl [1, 2, 3, 4, 5, 6] rfl) h
  · have h := if_n c3 h
    refine lv_iconst (v := 1) C.1 C.2.1 dX6_addRandomStops_59 (by decide) ?_
    refine lv_goto (tgt := 91) C.1 C.2.1 dX6_addRandomStops_60 (by decide) ?_
    exact w_X6_addRandomStops_b91 C G hP hS (lv_sub hl [1, 2, 3, 4, 5, 6] rfl) h
set_option maxRecDepth 100000 in
set_option maxHeartbeats 4000000 in
theorem w_X6_addRandomStops_b47 {res : Int32 × SL × Int64} (C : Cx p s m args meth c cX6_addRandomStops 12 (some .int) RX6 wsX6_addRandomStops) (G : Gx D cs ad s) {Ls : Nat → SL} {Hs : SL} {T : SL} {hs : Int64} {o : Int64} {od : UInt64} {M : SL} {dr : Int64} {x1 : Int32} {x2 : Int32} {x3 : Int32} {x4 : Int32} {x5 : Int32} {H : Heap} {locs : List Loc} {ls : Array Slot} (hP : va_P D vwCl (wA cs ad Ls Hs T M dr hs o od) H) (hS : va_S (Afr ad s.heap.size) s.heap H locs) (hl : lv_has ls 12 [(0, .ref (ad 89)), (1, .int x1), (2, .int x2), (3, .int x3), (4, .int x4), (5, .int x5)]) (h : f_X6_addRandomStops_b47 M dr x1 x2 x3 x4 x5 = some res) : W p l e rmX6_addRandomStops s m args below meth c H locs 0 0 (MQ below (va_Qi (fun r' (_ : Unit) => r' = res.1) (fun _ t => va_P D vwCl (wA cs ad Ls Hs T res.2.1 res.2.2 hs o od) t.heap) (Afr ad s.heap.size)) args s 0 0 (Afr ad s.heap.size)) (F0 m 47 ls []) := by
  unfold f_X6_addRandomStops_b47 at h
  refine lv_iconst (v := 0) C.1 C.2.1 dX6_addRandomStops_47 (by decide) ?_
  exact w_X6_addRandomStops_b48 C G hP hS (lv_sub hl [0, 1, 2, 3, 4, 5] rfl) h
set_option maxRecDepth 100000 in
set_option maxHeartbeats 4000000 in
theorem w_X6_addRandomStops_e {res : Int32 × SL × Int64} (C : Cx p s m args meth c cX6_addRandomStops 12 (some .int) RX6 wsX6_addRandomStops) (G : Gx D cs ad s) {Ls : Nat → SL} {Hs : SL} {T : SL} {hs : Int64} {o : Int64} {od : UInt64} {M : SL} {dr : Int64} {x1 : Int32} {x2 : Int32} {x3 : Int32} {x4 : Int32} {x5 : Int32} {H : Heap} {locs : List Loc} {ls : Array Slot} (hP : va_P D vwCl (wA cs ad Ls Hs T M dr hs o od) H) (hS : va_S (Afr ad s.heap.size) s.heap H locs) (hl : lv_has ls 12 [(0, .ref (ad 89)), (1, .int x1), (2, .int x2), (3, .int x3), (4, .int x4), (5, .int x5)]) (h : f_X6_addRandomStops M dr x1 x2 x3 x4 x5 = some res) : W p l e rmX6_addRandomStops s m args below meth c H locs 0 0 (MQ below (va_Qi (fun r' (_ : Unit) => r' = res.1) (fun _ t => va_P D vwCl (wA cs ad Ls Hs T res.2.1 res.2.2 hs o od) t.heap) (Afr ad s.heap.size)) args s 0 0 (Afr ad s.heap.size)) (F0 m 0 ls []) := by
  unfold f_X6_addRandomStops at h
  refine lv_iload_n C.1 C.2.1 dX6_addRandomStops_0 rfl (lv_at hl 2 rfl) ?_
  refine lv_iconst (v := 0) C.1 C.2.1 dX6_addRandomStops_1 (by decide) ?_
  refine k_ldci C G q_X6_addRandomStops_0 dX6_addRandomStops_2 ?_
  obtain ⟨r1, c2, h⟩ := bd_out h
  refine k_callSi C G hP hS (m_X6_within l G.2.1 _  c2) (va_cwS 3 C.2.2.2.2.2.1 gX6_addRandomStops_X6_within rfl rfl rfl (by decide +kernel) ⟨Nat.le_of_ble_eq_true rfl, Nat.le_of_ble_eq_true rfl⟩) (As := [.int x2, .int 0, .int 999999]) rfl hl.1 rfl (Nat.le_of_ble_eq_true rfl) dX6_addRandomStops_4 ⟨Nat.le_of_ble_eq_true rfl, Nat.le_of_ble_eq_true rfl⟩ (fun H locs hP hS => ?_)
  refine lv_if_eq (tgt := 47) C.1 C.2.1 dX6_addRandomStops_7 (by decide) (fun c3 => ?_) (fun c3 => ?_)
  · have h := if_t c3 h
    exact w_X6_addRandomStops_b47 C G hP hS (lv_sub hl [0, 1, 2, 3, 4, 5] rfl) h
  · have h := if_f c3 h
    refine lv_iload_n C.1 C.2.1 dX6_addRandomStops_10 rfl (lv_at hl 3 rfl) ?_
    refine lv_iconst (v := 1) C.1 C.2.1 dX6_addRandomStops_11 (by decide) ?_
    refine lv_sipush (v := 500) C.1 C.2.1 dX6_addRandomStops_12 (by decide) ?_
    obtain ⟨r4, c5, h⟩ := bd_out h
    refine k_callSi C G hP hS (m_X6_within l G.2.1 _  c5) (va_cwS 3 C.2.2.2.2.2.1 gX6_addRandomStops_X6_within rfl rfl rfl (by decide +kernel) ⟨Nat.le_of_ble_eq_true rfl, Nat.le_of_ble_eq_true rfl⟩) (As := [.int x3, .int 1, .int 500]) rfl hl.1 rfl (Nat.le_of_ble_eq_true rfl) dX6_addRandomStops_15 ⟨Nat.le_of_ble_eq_true rfl, Nat.le_of_ble_eq_true rfl⟩ (fun H locs hP hS => ?_)
    refine lv_if_eq (tgt := 47) C.1 C.2.1 dX6_addRandomStops_18 (by decide) (fun c6 => ?_) (fun c6 => ?_)
    · have h := if_t c6 h
      exact w_X6_addRandomStops_b47 C G hP hS (lv_sub hl [0, 1, 2, 3, 4, 5] rfl) h
    · have h := if_f c6 h
      refine lv_iload C.1 C.2.1 dX6_addRandomStops_21 (lv_at hl 4 rfl) ?_
      refine lv_iconst (v := 1) C.1 C.2.1 dX6_addRandomStops_23 (by decide) ?_
      refine lv_bipush (v := 100) C.1 C.2.1 dX6_addRandomStops_24 (by decide) ?_
      obtain ⟨r7, c8, h⟩ := bd_out h
      refine k_callSi C G hP hS (m_X6_within l G.2.1 _  c8) (va_cwS 3 C.2.2.2.2.2.1 gX6_addRandomStops_X6_within rfl rfl rfl (by decide +kernel) ⟨Nat.le_of_ble_eq_true rfl, Nat.le_of_ble_eq_true rfl⟩) (As := [.int x4, .int 1, .int 100]) rfl hl.1 rfl (Nat.le_of_ble_eq_true rfl) dX6_addRandomStops_26 ⟨Nat.le_of_ble_eq_true rfl, Nat.le_of_ble_eq_true rfl⟩ (fun H locs hP hS => ?_)
      refine lv_if_eq (tgt := 47) C.1 C.2.1 dX6_addRandomStops_29 (by decide) (fun c9 => ?_) (fun c9 => ?_)
      · have h := if_t c9 h
        exact w_X6_addRandomStops_b47 C G hP hS (lv_sub hl [0, 1, 2, 3, 4, 5] rfl) h
      · have h := if_f c9 h
        refine lv_iload C.1 C.2.1 dX6_addRandomStops_32 (lv_at hl 5 rfl) ?_
        refine lv_iconst (v := 1) C.1 C.2.1 dX6_addRandomStops_34 (by decide) ?_
        refine lv_bipush (v := 40) C.1 C.2.1 dX6_addRandomStops_35 (by decide) ?_
        obtain ⟨r10, c11, h⟩ := bd_out h
        refine k_callSi C G hP hS (m_X6_within l G.2.1 _  c11) (va_cwS 3 C.2.2.2.2.2.1 gX6_addRandomStops_X6_within rfl rfl rfl (by decide +kernel) ⟨Nat.le_of_ble_eq_true rfl, Nat.le_of_ble_eq_true rfl⟩) (As := [.int x5, .int 1, .int 40]) rfl hl.1 rfl (Nat.le_of_ble_eq_true rfl) dX6_addRandomStops_37 ⟨Nat.le_of_ble_eq_true rfl, Nat.le_of_ble_eq_true rfl⟩ (fun H locs hP hS => ?_)
        refine lv_if_eq (tgt := 47) C.1 C.2.1 dX6_addRandomStops_40 (by decide) (fun c12 => ?_) (fun c12 => ?_)
        · have h := if_t c12 h
          exact w_X6_addRandomStops_b47 C G hP hS (lv_sub hl [0, 1, 2, 3, 4, 5] rfl) h
        · have h := if_f c12 h
          refine lv_iconst (v := 1) C.1 C.2.1 dX6_addRandomStops_43 (by decide) ?_
          refine lv_goto (tgt := 48) C.1 C.2.1 dX6_addRandomStops_44 (by decide) ?_
          exact w_X6_addRandomStops_b48 C G hP hS (lv_sub hl [0, 1, 2, 3, 4, 5] rfl) h
set_option maxRecDepth 100000 in
set_option maxHeartbeats 4000000 in
theorem m_X6_addRandomStops (l : Launch) {D : va_G} {cs : Nat → ClassId} {ad : Nat → Nat} (hAd : adOK ad) (sz : Nat) {Ls : Nat → SL} {Hs : SL} {T : SL} {M : SL} {dr : Int64} {hs : Int64} {o : Int64} {od : UInt64} {x1 : Int32} {x2 : Int32} {x3 : Int32} {x4 : Int32} {x5 : Int32} {res : Int32 × SL × Int64} (h : f_X6_addRandomStops M dr x1 x2 x3 x4 x5 = some res) : Met l yX6_addRandomStops wsX6_addRandomStops rmX6_addRandomStops (PA D cs sz (wA cs ad Ls Hs T M dr hs o od) [.ref (ad 89), .int x1, .int x2, .int x3, .int x4, .int x5]) (va_Qi (fun r' (_ : Unit) => r' = res.1) (fun _ t => va_P D vwCl (wA cs ad Ls Hs T res.2.1 res.2.2 hs o od) t.heap) (Afr ad sz)) 0 0 (Afr ad sz) :=
  k_met (by decide) rfl (Nat.le_of_ble_eq_true rfl) hAd (fun p e s m below meth c ls C G hP hsz hl hS => by
    subst hsz
    exact w_X6_addRandomStops_e C G  hP hS hl  h)
/-! X6 clearStops -/
abbrev rmX6_clearStops : Room := { frames := 1, cells := 0, slots := 0, locals := 21 }
theorem q_X6_clearStops_0 : Cond.fieldLink RX6 25 "LineBuffersModel" "refusal" "I" ∈ wsX6_clearStops := List.mem_of_getElem? (i := 1) rfl
theorem q_X6_clearStops_1 : Cond.fieldLink RX6 7 "LineBuffersModel" "now" "[I" ∈ wsX6_clearStops := List.mem_of_getElem? (i := 2) rfl
theorem n_X6_clearStops_X6 : ∀ x ∈ u_ws RX6 TX6 12, x ∈ wsX6_clearStops := fun x h => List.mem_cons_of_mem _ (List.mem_append_right _ h)
set_option maxRecDepth 100000 in
set_option maxHeartbeats 4000000 in
theorem w_X6_clearStops_b96 {res : Int32 × SL} (C : Cx p s m args meth c cX6_clearStops 5 (some .int) RX6 wsX6_clearStops) (G : Gx D cs ad s) {Ls : Nat → SL} {Hs : SL} {T : SL} {dr : Int64} {hs : Int64} {o : Int64} {od : UInt64} {K20 : SL → Int32 → Int32 → Int32 → Option (Int32 × SL)} (hK20 : ∀ {M : SL} {x1 : Int32} {x2 : Int32} {x3 : Int32} {H : Heap} {locs : List Loc} {ls : Array Slot}, va_P D vwCl (wA cs ad Ls Hs T M dr hs o od) H → va_S (Afr ad s.heap.size) s.heap H locs → lv_has ls 5 [(0, .ref (ad 89)), (1, .int x1), (2, .int x2), (3, .int x3)] → K20 M x1 x2 x3 = some res → W p l e rmX6_clearStops s m args below meth c H locs 0 0 (MQ below (va_Qi (fun r' (_ : Unit) => r' = res.1) (fun _ t => va_P D vwCl (wA cs ad Ls Hs T res.2 dr hs o od) t.heap) (Afr ad s.heap.size)) args s 0 0 (Afr ad s.heap.size)) (F0 m 20 ls [])) {M : SL} {x1 : Int32} {x2 : Int32} {x3 : Int32} {H : Heap} {locs : List Loc} {ls : Array Slot} (hP : va_P D vwCl (wA cs ad Ls Hs T M dr hs o od) H) (hS : va_S (Afr ad s.heap.size) s.heap H locs) (hl : lv_has ls 5 [(0, .ref (ad 89)), (1, .int x1), (2, .int x2), (3, .int x3)]) (h : f_X6_clearStops_b96 K20 M x1 x2 x3 = some res) : W p l e rmX6_clearStops s m args below meth c H locs 0 0 (MQ below (va_Qi (fun r' (_ : Unit) => r' = res.1) (fun _ t => va_P D vwCl (wA cs ad Ls Hs T res.2 dr hs o od) t.heap) (Afr ad s.heap.size)) args s 0 0 (Afr ad s.heap.size)) (F0 m 96 ls []) := by
  unfold f_X6_clearStops_b96 at h
  obtain ⟨z1, ez1, h⟩ := lt_out h
  refine lv_iinc (v := z1) (lv' := [(3, .int z1), (0, .ref (ad 89)), (1, .int x1), (2, .int x2)]) C.1 C.2.1 dX6_clearStops_96 hl (k := 3) rfl (by rw [ez1]; rfl) (by decide) rfl (fun ls hl => ?_)
  refine lv_goto (tgt := 20) C.1 C.2.1 dX6_clearStops_99 (by decide) ?_
  exact hK20 hP hS (lv_sub hl [1, 2, 3, 0] rfl)  h
set_option maxRecDepth 100000 in
set_option maxHeartbeats 4000000 in
theorem w_X6_clearStops_b51 {res : Int32 × SL} (C : Cx p s m args meth c cX6_clearStops 5 (some .int) RX6 wsX6_clearStops) (G : Gx D cs ad s) {Ls : Nat → SL} {Hs : SL} {T : SL} {dr : Int64} {hs : Int64} {o : Int64} {od : UInt64} {K20 : SL → Int32 → Int32 → Int32 → Option (Int32 × SL)} (hK20 : ∀ {M : SL} {x1 : Int32} {x2 : Int32} {x3 : Int32} {H : Heap} {locs : List Loc} {ls : Array Slot}, va_P D vwCl (wA cs ad Ls Hs T M dr hs o od) H → va_S (Afr ad s.heap.size) s.heap H locs → lv_has ls 5 [(0, .ref (ad 89)), (1, .int x1), (2, .int x2), (3, .int x3)] → K20 M x1 x2 x3 = some res → W p l e rmX6_clearStops s m args below meth c H locs 0 0 (MQ below (va_Qi (fun r' (_ : Unit) => r' = res.1) (fun _ t => va_P D vwCl (wA cs ad Ls Hs T res.2 dr hs o od) t.heap) (Afr ad s.heap.size)) args s 0 0 (Afr ad s.heap.size)) (F0 m 20 ls [])) {K51 : SL → Int32 → Int32 → Int32 → Int32 → Option (Int32 × SL)} (hK51 : ∀ {M : SL} {x1 : Int32} {x2 : Int32} {x3 : Int32} {x4 : Int32} {H : Heap} {locs : List Loc} {ls : Array Slot}, va_P D vwCl (wA cs ad Ls Hs T M dr hs o od) H → va_S (Afr ad s.heap.size) s.heap H locs → lv_has ls 5 [(0, .ref (ad 89)), (1, .int x1), (2, .int x2), (3, .int x3), (4, .int x4)] → K51 M x1 x2 x3 x4 = some res → W p l e rmX6_clearStops s m args below meth c H locs 0 0 (MQ below (va_Qi (fun r' (_ : Unit) => r' = res.1) (fun _ t => va_P D vwCl (wA cs ad Ls Hs T res.2 dr hs o od) t.heap) (Afr ad s.heap.size)) args s 0 0 (Afr ad s.heap.size)) (F0 m 51 ls [])) {M : SL} {x1 : Int32} {x2 : Int32} {x3 : Int32} {x4 : Int32} {H : Heap} {locs : List Loc} {ls : Array Slot} (hP : va_P D vwCl (wA cs ad Ls Hs T M dr hs o od) H) (hS : va_S (Afr ad s.heap.size) s.heap H locs) (hl : lv_has ls 5 [(0, .ref (ad 89)), (1, .int x1), (2, .int x2), (3, .int x3), (4, .int x4)]) (h : f_X6_clearStops_b51 K20 K51 M x1 x2 x3 x4 = some res) : W p l e rmX6_clearStops s m args below meth c H locs 0 0 (MQ below (va_Qi (fun r' (_ : Unit) => r' = res.1) (fun _ t => va_P D vwCl (wA cs ad Ls Hs T res.2 dr hs o od) t.heap) (Afr ad s.heap.size)) args s 0 0 (Afr ad s.heap.size)) (F0 m 51 ls []) := by
  unfold f_X6_clearStops_b51 at h
  refine lv_iload C.1 C.2.1 dX6_clearStops_51 (lv_at hl 4 rfl) ?_
  refine lv_iconst (v := 3) C.1 C.2.1 dX6_clearStops_53 (by decide) ?_
  refine lv_icmp_ge (tgt := 93) C.1 C.2.1 dX6_clearStops_54 (by decide) (fun c1 => ?_) (fun c1 => ?_)
  · have h := if_t c1 h
    obtain ⟨z2, ez2, h⟩ := lt_out h
    refine lv_iinc (v := z2) (lv' := [(2, .int z2), (0, .ref (ad 89)), (1, .int x1), (3, .int x3), (4, .int x4)]) C.1 C.2.1 dX6_clearStops_93 hl (k := 2) rfl (by rw [ez2]; rfl) (by decide) rfl (fun ls hl => ?_)
    exact w_X6_clearStops_b96 C G hK20 hP hS (lv_sub hl [1, 2, 0, 3] rfl) h
  · have h := if_f c1 h
    refine lv_aload_n C.1 C.2.1 dX6_clearStops_57 rfl (lv_at hl 0 rfl) ?_
    refine k_getf C G hP r_obj rfl 0 (by decide) n_X6_clearStops_X6 q_X6_clearStops_1 (v := .ref (ad (89 + 1))) rfl dX6_clearStops_58 ?_
    refine lv_sipush (v := 131) C.1 C.2.1 dX6_clearStops_61 (by decide) ?_
    refine lv_iconst (v := 3) C.1 C.2.1 dX6_clearStops_64 (by decide) ?_
    refine lv_iload_n C.1 C.2.1 dX6_clearStops_65 rfl (lv_at hl 2 rfl) ?_
    obtain ⟨v3, ev3, h⟩ := lt_out h
    refine k_imul C ev3 dX6_clearStops_66 ?_
    obtain ⟨v4, ev4, h⟩ := lt_out h
    refine k_iadd C ev4 dX6_clearStops_67 ?_
    refine lv_iload C.1 C.2.1 dX6_clearStops_68 (lv_at hl 4 rfl) ?_
    obtain ⟨v5, ev5, h⟩ := lt_out h
    refine k_iadd C ev5 dX6_clearStops_70 ?_
    refine lv_aload_n C.1 C.2.1 dX6_clearStops_71 rfl (lv_at hl 0 rfl) ?_
    refine k_getf C G hP r_obj rfl 0 (by decide) n_X6_clearStops_X6 q_X6_clearStops_1 (v := .ref (ad (89 + 1))) rfl dX6_clearStops_72 ?_
    refine lv_sipush (v := 131) C.1 C.2.1 dX6_clearStops_75 (by decide) ?_
    refine lv_iconst (v := 3) C.1 C.2.1 dX6_clearStops_78 (by decide) ?_
    refine lv_iload_n C.1 C.2.1 dX6_clearStops_79 rfl (lv_at hl 3 rfl) ?_
    obtain ⟨v6, ev6, h⟩ := lt_out h
    refine k_imul C ev6 dX6_clearStops_80 ?_
    obtain ⟨v7, ev7, h⟩ := lt_out h
    refine k_iadd C ev7 dX6_clearStops_81 ?_
    refine lv_iload C.1 C.2.1 dX6_clearStops_82 (lv_at hl 4 rfl) ?_
    obtain ⟨v8, ev8, h⟩ := lt_out h
    refine k_iadd C ev8 dX6_clearStops_84 ?_
    obtain ⟨g9, h⟩ := gd_out h
    have g9 := chk_in g9
    obtain ⟨v10, ev10, h⟩ := lt_out h
    refine k_iald C G hP (r_arr (k := 1) (by decide)) g9 (j := v8.toNatClampNeg) rfl ev10 dX6_clearStops_85 ?_
    obtain ⟨g11, h⟩ := gd_out h
    have g11 := chk_in g11
    obtain ⟨M12, eM12, h⟩ := lt_out h
    refine k_iast C G hP hS (r_arr (k := 1) (by decide)) g11 (j := v5.toNatClampNeg) rfl (r_arrS (k := 1) (by decide)) dX6_clearStops_86 (fun H locs hP hS => ?_)
    rw [← eM12] at hP
    obtain ⟨z13, ez13, h⟩ := lt_out h
    refine lv_iinc (v := z13) (lv' := [(4, .int z13), (0, .ref (ad 89)), (1, .int x1), (2, .int x2), (3, .int x3)]) C.1 C.2.1 dX6_clearStops_87 hl (k := 4) rfl (by rw [ez13]; rfl) (by decide) rfl (fun ls hl => ?_)
    refine lv_goto (tgt := 51) C.1 C.2.1 dX6_clearStops_90 (by decide) ?_
    exact hK51 hP hS (lv_sub hl [1, 2, 3, 4, 0] rfl)  h
set_option maxRecDepth 100000 in
set_option maxHeartbeats 4000000 in
theorem w_X6_clearStops_h51 {res : Int32 × SL} (C : Cx p s m args meth c cX6_clearStops 5 (some .int) RX6 wsX6_clearStops) (G : Gx D cs ad s) {Ls : Nat → SL} {Hs : SL} {T : SL} {dr : Int64} {hs : Int64} {o : Int64} {od : UInt64} {K20 : SL → Int32 → Int32 → Int32 → Option (Int32 × SL)} (hK20 : ∀ {M : SL} {x1 : Int32} {x2 : Int32} {x3 : Int32} {H : Heap} {locs : List Loc} {ls : Array Slot}, va_P D vwCl (wA cs ad Ls Hs T M dr hs o od) H → va_S (Afr ad s.heap.size) s.heap H locs → lv_has ls 5 [(0, .ref (ad 89)), (1, .int x1), (2, .int x2), (3, .int x3)] → K20 M x1 x2 x3 = some res → W p l e rmX6_clearStops s m args below meth c H locs 0 0 (MQ below (va_Qi (fun r' (_ : Unit) => r' = res.1) (fun _ t => va_P D vwCl (wA cs ad Ls Hs T res.2 dr hs o od) t.heap) (Afr ad s.heap.size)) args s 0 0 (Afr ad s.heap.size)) (F0 m 20 ls [])) : ∀ (n : Nat) {M : SL} {x1 : Int32} {x2 : Int32} {x3 : Int32} {x4 : Int32} {H : Heap} {locs : List Loc} {ls : Array Slot}, va_P D vwCl (wA cs ad Ls Hs T M dr hs o od) H → va_S (Afr ad s.heap.size) s.heap H locs → lv_has ls 5 [(0, .ref (ad 89)), (1, .int x1), (2, .int x2), (3, .int x3), (4, .int x4)] → f_X6_clearStops_h51 K20 n M x1 x2 x3 x4 = some res → W p l e rmX6_clearStops s m args below meth c H locs 0 0 (MQ below (va_Qi (fun r' (_ : Unit) => r' = res.1) (fun _ t => va_P D vwCl (wA cs ad Ls Hs T res.2 dr hs o od) t.heap) (Afr ad s.heap.size)) args s 0 0 (Afr ad s.heap.size)) (F0 m 51 ls []) := by
  intro n
  induction n with
  | zero => intro M x1 x2 x3 x4 H locs ls hP hS hl  h; cases h
  | succ n ih => intro M x1 x2 x3 x4 H locs ls hP hS hl  h; exact w_X6_clearStops_b51 C G   hK20 ih hP hS hl  h
set_option maxRecDepth 100000 in
set_option maxHeartbeats 4000000 in
theorem w_X6_clearStops_b20 {res : Int32 × SL} (C : Cx p s m args meth c cX6_clearStops 5 (some .int) RX6 wsX6_clearStops) (G : Gx D cs ad s) {Ls : Nat → SL} {Hs : SL} {T : SL} {dr : Int64} {hs : Int64} {o : Int64} {od : UInt64} {K20 : SL → Int32 → Int32 → Int32 → Option (Int32 × SL)} (hK20 : ∀ {M : SL} {x1 : Int32} {x2 : Int32} {x3 : Int32} {H : Heap} {locs : List Loc} {ls : Array Slot}, va_P D vwCl (wA cs ad Ls Hs T M dr hs o od) H → va_S (Afr ad s.heap.size) s.heap H locs → lv_has ls 5 [(0, .ref (ad 89)), (1, .int x1), (2, .int x2), (3, .int x3)] → K20 M x1 x2 x3 = some res → W p l e rmX6_clearStops s m args below meth c H locs 0 0 (MQ below (va_Qi (fun r' (_ : Unit) => r' = res.1) (fun _ t => va_P D vwCl (wA cs ad Ls Hs T res.2 dr hs o od) t.heap) (Afr ad s.heap.size)) args s 0 0 (Afr ad s.heap.size)) (F0 m 20 ls [])) {M : SL} {x1 : Int32} {x2 : Int32} {x3 : Int32} {H : Heap} {locs : List Loc} {ls : Array Slot} (hP : va_P D vwCl (wA cs ad Ls Hs T M dr hs o od) H) (hS : va_S (Afr ad s.heap.size) s.heap H locs) (hl : lv_has ls 5 [(0, .ref (ad 89)), (1, .int x1), (2, .int x2), (3, .int x3)]) (h : f_X6_clearStops_b20 K20 M x1 x2 x3 = some res) : W p l e rmX6_clearStops s m args below meth c H locs 0 0 (MQ below (va_Qi (fun r' (_ : Unit) => r' = res.1) (fun _ t => va_P D vwCl (wA cs ad Ls Hs T res.2 dr hs o od) t.heap) (Afr ad s.heap.size)) args s 0 0 (Afr ad s.heap.size)) (F0 m 20 ls []) := by
  unfold f_X6_clearStops_b20 at h
  refine lv_iload_n C.1 C.2.1 dX6_clearStops_20 rfl (lv_at hl 3 rfl) ?_
  refine lv_iload_n C.1 C.2.1 dX6_clearStops_21 rfl (lv_at hl 1 rfl) ?_
  refine lv_icmp_ge (tgt := 102) C.1 C.2.1 dX6_clearStops_22 (by decide) (fun c1 => ?_) (fun c1 => ?_)
  · have h := if_t c1 h
    refine lv_aload_n C.1 C.2.1 dX6_clearStops_102 rfl (lv_at hl 0 rfl) ?_
    refine k_getf C G hP r_obj rfl 0 (by decide) n_X6_clearStops_X6 q_X6_clearStops_1 (v := .ref (ad (89 + 1))) rfl dX6_clearStops_103 ?_
    refine lv_iconst (v := 2) C.1 C.2.1 dX6_clearStops_106 (by decide) ?_
    refine lv_iload_n C.1 C.2.1 dX6_clearStops_107 rfl (lv_at hl 2 rfl) ?_
    obtain ⟨M2, eM2, h⟩ := lt_out h
    refine k_iast C G hP hS (r_arr (k := 1) (by decide)) (chk_in rfl) (j := 2) rfl (r_arrS (k := 1) (by decide)) dX6_clearStops_108 (fun H locs hP hS => ?_)
    rw [← eM2] at hP
    refine lv_iload_n C.1 C.2.1 dX6_clearStops_109 rfl (lv_at hl 1 rfl) ?_
    refine lv_iload_n C.1 C.2.1 dX6_clearStops_110 rfl (lv_at hl 2 rfl) ?_
    obtain ⟨v3, ev3, h⟩ := lt_out h
    refine k_isub C ev3 dX6_clearStops_111 ?_
    cases h
    exact k_iret C hP hS dX6_clearStops_112
  · have h := if_f c1 h
    refine lv_aload_n C.1 C.2.1 dX6_clearStops_25 rfl (lv_at hl 0 rfl) ?_
    refine k_getf C G hP r_obj rfl 0 (by decide) n_X6_clearStops_X6 q_X6_clearStops_1 (v := .ref (ad (89 + 1))) rfl dX6_clearStops_26 ?_
    refine lv_sipush (v := 131) C.1 C.2.1 dX6_clearStops_29 (by decide) ?_
    refine lv_iconst (v := 3) C.1 C.2.1 dX6_clearStops_32 (by decide) ?_
    refine lv_iload_n C.1 C.2.1 dX6_clearStops_33 rfl (lv_at hl 3 rfl) ?_
    obtain ⟨v4, ev4, h⟩ := lt_out h
    refine k_imul C ev4 dX6_clearStops_34 ?_
    obtain ⟨v5, ev5, h⟩ := lt_out h
    refine k_iadd C ev5 dX6_clearStops_35 ?_
    refine lv_iconst (v := 1) C.1 C.2.1 dX6_clearStops_36 (by decide) ?_
    obtain ⟨v6, ev6, h⟩ := lt_out h
    refine k_iadd C ev6 dX6_clearStops_37 ?_
    obtain ⟨g7, h⟩ := gd_out h
    have g7 := chk_in g7
    obtain ⟨v8, ev8, h⟩ := lt_out h
    refine k_iald C G hP (r_arr (k := 1) (by decide)) g7 (j := v6.toNatClampNeg) rfl ev8 dX6_clearStops_38 ?_
    refine lv_aload_n C.1 C.2.1 dX6_clearStops_39 rfl (lv_at hl 0 rfl) ?_
    refine k_getf C G hP r_obj rfl 0 (by decide) n_X6_clearStops_X6 q_X6_clearStops_1 (v := .ref (ad (89 + 1))) rfl dX6_clearStops_40 ?_
    refine lv_iconst (v := 1) C.1 C.2.1 dX6_clearStops_43 (by decide) ?_
    obtain ⟨v9, ev9, h⟩ := lt_out h
    refine k_iald C G hP (r_arr (k := 1) (by decide)) (chk_in rfl) (j := 1) rfl ev9 dX6_clearStops_44 ?_
    refine lv_icmp_gt (tgt := 96) C.1 C.2.1 dX6_clearStops_45 (by decide) (fun c10 => ?_) (fun c10 => ?_)
    · have h := if_t c10 h
      exact w_X6_clearStops_b96 C G hK20 hP hS (lv_sub hl [0, 1, 2, 3] rfl) h
    · have h := if_f c10 h
      refine lv_iconst (v := 0) C.1 C.2.1 dX6_clearStops_48 (by decide) ?_
      refine lv_istore (lv' := [(4, .int 0), (0, .ref (ad 89)), (1, .int x1), (2, .int x2), (3, .int x3)]) C.1 C.2.1 dX6_clearStops_49 hl (by decide) rfl (fun ls hl => ?_)
      exact w_X6_clearStops_h51 C G hK20 fuel hP hS (lv_sub hl [1, 2, 3, 4, 0] rfl) h
set_option maxRecDepth 100000 in
set_option maxHeartbeats 4000000 in
theorem w_X6_clearStops_h20 {res : Int32 × SL} (C : Cx p s m args meth c cX6_clearStops 5 (some .int) RX6 wsX6_clearStops) (G : Gx D cs ad s) {Ls : Nat → SL} {Hs : SL} {T : SL} {dr : Int64} {hs : Int64} {o : Int64} {od : UInt64} : ∀ (n : Nat) {M : SL} {x1 : Int32} {x2 : Int32} {x3 : Int32} {H : Heap} {locs : List Loc} {ls : Array Slot}, va_P D vwCl (wA cs ad Ls Hs T M dr hs o od) H → va_S (Afr ad s.heap.size) s.heap H locs → lv_has ls 5 [(0, .ref (ad 89)), (1, .int x1), (2, .int x2), (3, .int x3)] → f_X6_clearStops_h20 n M x1 x2 x3 = some res → W p l e rmX6_clearStops s m args below meth c H locs 0 0 (MQ below (va_Qi (fun r' (_ : Unit) => r' = res.1) (fun _ t => va_P D vwCl (wA cs ad Ls Hs T res.2 dr hs o od) t.heap) (Afr ad s.heap.size)) args s 0 0 (Afr ad s.heap.size)) (F0 m 20 ls []) := by
  intro n
  induction n with
  | zero => intro M x1 x2 x3 H locs ls hP hS hl  h; cases h
  | succ n ih => intro M x1 x2 x3 H locs ls hP hS hl  h; exact w_X6_clearStops_b20 C G    ih hP hS hl  h
set_option maxRecDepth 100000 in
set_option maxHeartbeats 4000000 in
theorem w_X6_clearStops_e {res : Int32 × SL} (C : Cx p s m args meth c cX6_clearStops 5 (some .int) RX6 wsX6_clearStops) (G : Gx D cs ad s) {Ls : Nat → SL} {Hs : SL} {T : SL} {dr : Int64} {hs : Int64} {o : Int64} {od : UInt64} {M : SL} {H : Heap} {locs : List Loc} {ls : Array Slot} (hP : va_P D vwCl (wA cs ad Ls Hs T M dr hs o od) H) (hS : va_S (Afr ad s.heap.size) s.heap H locs) (hl : lv_has ls 5 [(0, .ref (ad 89))]) (h : f_X6_clearStops M = some res) : W p l e rmX6_clearStops s m args below meth c H locs 0 0 (MQ below (va_Qi (fun r' (_ : Unit) => r' = res.1) (fun _ t => va_P D vwCl (wA cs ad Ls Hs T res.2 dr hs o od) t.heap) (Afr ad s.heap.size)) args s 0 0 (Afr ad s.heap.size)) (F0 m 0 ls []) := by
  unfold f_X6_clearStops at h
  refine lv_aload_n C.1 C.2.1 dX6_clearStops_0 rfl (lv_at hl 0 rfl) ?_
  refine lv_iconst (v := 0) C.1 C.2.1 dX6_clearStops_1 (by decide) ?_
  obtain ⟨M1, eM1, h⟩ := lt_out h
  refine k_puti C G hP hS r_obj rfl 4 (by decide) n_X6_clearStops_X6 q_X6_clearStops_0 tyX6_ok nmX6 rfl (tyX6_ok 4 (by decide)) (Nat.le_of_ble_eq_true rfl) r_objS4 dX6_clearStops_2 (fun H locs hP hS => ?_)
  rw [← eM1] at hP
  refine lv_aload_n C.1 C.2.1 dX6_clearStops_5 rfl (lv_at hl 0 rfl) ?_
  obtain ⟨M2, c3, h⟩ := bd_out h
  refine k_callVv C G hP hS (m_X6_saves l G.2.1 _  c3) r_obj rfl (cwV 0 C.2.2.2.2.2.1 gX6_clearStops_X6_saves rfl rfl rfl (by decide +kernel) ⟨Nat.le_of_ble_eq_true rfl, Nat.le_of_ble_eq_true rfl⟩) (As := []) rfl hl.1 rfl (Nat.le_of_ble_eq_true rfl) dX6_clearStops_6 ⟨Nat.le_of_ble_eq_true rfl, Nat.le_of_ble_eq_true rfl⟩ (fun H locs hP hS => ?_)
  refine lv_aload_n C.1 C.2.1 dX6_clearStops_9 rfl (lv_at hl 0 rfl) ?_
  refine k_getf C G hP r_obj rfl 0 (by decide) n_X6_clearStops_X6 q_X6_clearStops_1 (v := .ref (ad (89 + 1))) rfl dX6_clearStops_10 ?_
  refine lv_iconst (v := 2) C.1 C.2.1 dX6_clearStops_13 (by decide) ?_
  obtain ⟨v4, ev4, h⟩ := lt_out h
  refine k_iald C G hP (r_arr (k := 1) (by decide)) (chk_in rfl) (j := 2) rfl ev4 dX6_clearStops_14 ?_
  refine lv_istore_n (lv' := [(1, .int v4), (0, .ref (ad 89))]) C.1 C.2.1 dX6_clearStops_15 rfl hl (by decide) rfl (fun ls hl => ?_)
  refine lv_iconst (v := 0) C.1 C.2.1 dX6_clearStops_16 (by decide) ?_
  refine lv_istore_n (lv' := [(2, .int 0), (1, .int v4), (0, .ref (ad 89))]) C.1 C.2.1 dX6_clearStops_17 rfl hl (by decide) rfl (fun ls hl => ?_)
  refine lv_iconst (v := 0) C.1 C.2.1 dX6_clearStops_18 (by decide) ?_
  refine lv_istore_n (lv' := [(3, .int 0), (2, .int 0), (1, .int v4), (0, .ref (ad 89))]) C.1 C.2.1 dX6_clearStops_19 rfl hl (by decide) rfl (fun ls hl => ?_)
  exact w_X6_clearStops_h20 C G fuel hP hS (lv_sub hl [3, 2, 1, 0] rfl) h
set_option maxRecDepth 100000 in
set_option maxHeartbeats 4000000 in
theorem m_X6_clearStops (l : Launch) {D : va_G} {cs : Nat → ClassId} {ad : Nat → Nat} (hAd : adOK ad) (sz : Nat) {Ls : Nat → SL} {Hs : SL} {T : SL} {M : SL} {dr : Int64} {hs : Int64} {o : Int64} {od : UInt64} {res : Int32 × SL} (h : f_X6_clearStops M = some res) : Met l yX6_clearStops wsX6_clearStops rmX6_clearStops (PA D cs sz (wA cs ad Ls Hs T M dr hs o od) [.ref (ad 89)]) (va_Qi (fun r' (_ : Unit) => r' = res.1) (fun _ t => va_P D vwCl (wA cs ad Ls Hs T res.2 dr hs o od) t.heap) (Afr ad sz)) 0 0 (Afr ad sz) :=
  k_met (by decide) rfl (Nat.le_of_ble_eq_true rfl) hAd (fun p e s m below meth c ls C G hP hsz hl hS => by
    subst hsz
    exact w_X6_clearStops_e C G  hP hS hl  h)
/-! X6 size -/
abbrev rmX6_size : Room := { frames := 0, cells := 0, slots := 0, locals := 0 }
theorem q_X6_size_0 : Cond.fieldLink RX6 25 "LineBuffersModel" "refusal" "I" ∈ wsX6_size := List.mem_of_getElem? (i := 1) rfl
theorem q_X6_size_1 : Cond.fieldLink RX6 7 "LineBuffersModel" "now" "[I" ∈ wsX6_size := List.mem_of_getElem? (i := 2) rfl
theorem n_X6_size_X6 : ∀ x ∈ u_ws RX6 TX6 12, x ∈ wsX6_size := fun x h => List.mem_cons_of_mem _ (List.mem_append_right _ h)
set_option maxRecDepth 100000 in
set_option maxHeartbeats 4000000 in
theorem w_X6_size_e {res : Int32 × SL} (C : Cx p s m args meth c cX6_size 2 (some .int) RX6 wsX6_size) (G : Gx D cs ad s) {Ls : Nat → SL} {Hs : SL} {T : SL} {dr : Int64} {hs : Int64} {o : Int64} {od : UInt64} {M : SL} {x1 : Int32} {H : Heap} {locs : List Loc} {ls : Array Slot} (hP : va_P D vwCl (wA cs ad Ls Hs T M dr hs o od) H) (hS : va_S (Afr ad s.heap.size) s.heap H locs) (hl : lv_has ls 2 [(0, .ref (ad 89)), (1, .int x1)]) (h : f_X6_size M x1 = some res) : W p l e rmX6_size s m args below meth c H locs 0 0 (MQ below (va_Qi (fun r' (_ : Unit) => r' = res.1) (fun _ t => va_P D vwCl (wA cs ad Ls Hs T res.2 dr hs o od) t.heap) (Afr ad s.heap.size)) args s 0 0 (Afr ad s.heap.size)) (F0 m 0 ls []) := by
  unfold f_X6_size at h
  refine lv_aload_n C.1 C.2.1 dX6_size_0 rfl (lv_at hl 0 rfl) ?_
  refine lv_iconst (v := 0) C.1 C.2.1 dX6_size_1 (by decide) ?_
  obtain ⟨M1, eM1, h⟩ := lt_out h
  refine k_puti C G hP hS r_obj rfl 4 (by decide) n_X6_size_X6 q_X6_size_0 tyX6_ok nmX6 rfl (tyX6_ok 4 (by decide)) (Nat.le_of_ble_eq_true rfl) r_objS4 dX6_size_2 (fun H locs hP hS => ?_)
  rw [← eM1] at hP
  refine lv_aload_n C.1 C.2.1 dX6_size_5 rfl (lv_at hl 0 rfl) ?_
  refine k_getf C G hP r_obj rfl 0 (by decide) n_X6_size_X6 q_X6_size_1 (v := .ref (ad (89 + 1))) rfl dX6_size_6 ?_
  refine lv_iload_n C.1 C.2.1 dX6_size_9 rfl (lv_at hl 1 rfl) ?_
  refine lv_if_eq (tgt := 17) C.1 C.2.1 dX6_size_10 (by decide) (fun c2 => ?_) (fun c2 => ?_)
  · have h := if_t c2 h
    refine lv_iconst (v := 0) C.1 C.2.1 dX6_size_17 (by decide) ?_
    obtain ⟨v3, ev3, h⟩ := lt_out h
    refine k_iald C G hP (r_arr (k := 1) (by decide)) (chk_in rfl) (j := 0) rfl ev3 dX6_size_18 ?_
    cases h
    exact k_iret C hP hS dX6_size_19
  · have h := if_f c2 h
    refine lv_iconst (v := 2) C.1 C.2.1 dX6_size_13 (by decide) ?_
    refine lv_goto (tgt := 18) C.1 C.2.1 dX6_size_14 (by decide) ?_
    obtain ⟨v4, ev4, h⟩ := lt_out h
    refine k_iald C G hP (r_arr (k := 1) (by decide)) (chk_in rfl) (j := 2) rfl ev4 dX6_size_18 ?_
    cases h
    exact k_iret C hP hS dX6_size_19
set_option maxRecDepth 100000 in
set_option maxHeartbeats 4000000 in
theorem m_X6_size (l : Launch) {D : va_G} {cs : Nat → ClassId} {ad : Nat → Nat} (hAd : adOK ad) (sz : Nat) {Ls : Nat → SL} {Hs : SL} {T : SL} {M : SL} {dr : Int64} {hs : Int64} {o : Int64} {od : UInt64} {x1 : Int32} {res : Int32 × SL} (h : f_X6_size M x1 = some res) : Met l yX6_size wsX6_size rmX6_size (PA D cs sz (wA cs ad Ls Hs T M dr hs o od) [.ref (ad 89), .int x1]) (va_Qi (fun r' (_ : Unit) => r' = res.1) (fun _ t => va_P D vwCl (wA cs ad Ls Hs T res.2 dr hs o od) t.heap) (Afr ad sz)) 0 0 (Afr ad sz) :=
  k_met (by decide) rfl (Nat.le_of_ble_eq_true rfl) hAd (fun p e s m below meth c ls C G hP hsz hl hS => by
    subst hsz
    exact w_X6_size_e C G  hP hS hl  h)
/-! X6 stop -/
abbrev rmX6_stop : Room := { frames := 1, cells := 0, slots := 0, locals := 22 }
theorem q_X6_stop_0 : Cond.fieldLink RX6 7 "LineBuffersModel" "now" "[I" ∈ wsX6_stop := List.mem_of_getElem? (i := 1) rfl
theorem n_X6_stop_X6 : ∀ x ∈ u_ws RX6 TX6 12, x ∈ wsX6_stop := fun x h => List.mem_cons_of_mem _ (List.mem_append_right _ h)
set_option maxRecDepth 100000 in
set_option maxHeartbeats 4000000 in
theorem w_X6_stop_b35 {res : Int32 × SL} (C : Cx p s m args meth c cX6_stop 3 (some .int) RX6 wsX6_stop) (G : Gx D cs ad s) {Ls : Nat → SL} {Hs : SL} {T : SL} {dr : Int64} {hs : Int64} {o : Int64} {od : UInt64} {M : SL} {x1 : Int32} {x2 : Int32} {s1 : Int32} {H : Heap} {locs : List Loc} {ls : Array Slot} (hP : va_P D vwCl (wA cs ad Ls Hs T M dr hs o od) H) (hS : va_S (Afr ad s.heap.size) s.heap H locs) (hl : lv_has ls 3 [(0, .ref (ad 89)), (1, .int x1), (2, .int x2)]) (h : f_X6_stop_b35 M x1 x2 s1 = some res) : W p l e rmX6_stop s m args below meth c H locs 0 0 (MQ below (va_Qi (fun r' (_ : Unit) => r' = res.1) (fun _ t => va_P D vwCl (wA cs ad Ls Hs T res.2 dr hs o od) t.heap) (Afr ad s.heap.size)) args s 0 0 (Afr ad s.heap.size)) (F0 m 35 ls [.int s1, .ref (ad 89)]) := by
  unfold f_X6_stop_b35 at h
  obtain ⟨r1, M2, c3, h⟩ := bd2_out h
  refine k_callVi C G hP hS (m_X6_refused l G.2.1 _  c3) r_obj rfl (cwV 1 C.2.2.2.2.2.1 gX6_stop_X6_refused rfl rfl rfl (by decide +kernel) ⟨Nat.le_of_ble_eq_true rfl, Nat.le_of_ble_eq_true rfl⟩) (As := [.int s1]) rfl hl.1 rfl (Nat.le_of_ble_eq_true rfl) dX6_stop_35 ⟨Nat.le_of_ble_eq_true rfl, Nat.le_of_ble_eq_true rfl⟩ (fun H locs hP hS => ?_)
  refine lv_if_eq (tgt := 43) C.1 C.2.1 dX6_stop_38 (by decide) (fun c4 => ?_) (fun c4 => ?_)
  · have h := if_t c4 h
    refine lv_aload_n C.1 C.2.1 dX6_stop_43 rfl (lv_at hl 0 rfl) ?_
    refine k_getf C G hP r_obj rfl 0 (by decide) n_X6_stop_X6 q_X6_stop_0 (v := .ref (ad (89 + 1))) rfl dX6_stop_44 ?_
    refine lv_sipush (v := 131) C.1 C.2.1 dX6_stop_47 (by decide) ?_
    refine lv_iconst (v := 3) C.1 C.2.1 dX6_stop_50 (by decide) ?_
    refine lv_iload_n C.1 C.2.1 dX6_stop_51 rfl (lv_at hl 1 rfl) ?_
    obtain ⟨v5, ev5, h⟩ := lt_out h
    refine k_imul C ev5 dX6_stop_52 ?_
    obtain ⟨v6, ev6, h⟩ := lt_out h
    refine k_iadd C ev6 dX6_stop_53 ?_
    refine lv_iload_n C.1 C.2.1 dX6_stop_54 rfl (lv_at hl 2 rfl) ?_
    obtain ⟨v7, ev7, h⟩ := lt_out h
    refine k_iadd C ev7 dX6_stop_55 ?_
    obtain ⟨g8, h⟩ := gd_out h
    have g8 := chk_in g8
    obtain ⟨v9, ev9, h⟩ := lt_out h
    refine k_iald C G hP (r_arr (k := 1) (by decide)) g8 (j := v7.toNatClampNeg) rfl ev9 dX6_stop_56 ?_
    cases h
    exact k_iret C hP hS dX6_stop_57
  · have h := if_f c4 h
    refine lv_iconst (v := 0) C.1 C.2.1 dX6_stop_41 (by decide) ?_
    cases h
    exact k_iret C hP hS dX6_stop_42
set_option maxRecDepth 100000 in
set_option maxHeartbeats 4000000 in
theorem w_X6_stop_e {res : Int32 × SL} (C : Cx p s m args meth c cX6_stop 3 (some .int) RX6 wsX6_stop) (G : Gx D cs ad s) {Ls : Nat → SL} {Hs : SL} {T : SL} {dr : Int64} {hs : Int64} {o : Int64} {od : UInt64} {M : SL} {x1 : Int32} {x2 : Int32} {H : Heap} {locs : List Loc} {ls : Array Slot} (hP : va_P D vwCl (wA cs ad Ls Hs T M dr hs o od) H) (hS : va_S (Afr ad s.heap.size) s.heap H locs) (hl : lv_has ls 3 [(0, .ref (ad 89)), (1, .int x1), (2, .int x2)]) (h : f_X6_stop M x1 x2 = some res) : W p l e rmX6_stop s m args below meth c H locs 0 0 (MQ below (va_Qi (fun r' (_ : Unit) => r' = res.1) (fun _ t => va_P D vwCl (wA cs ad Ls Hs T res.2 dr hs o od) t.heap) (Afr ad s.heap.size)) args s 0 0 (Afr ad s.heap.size)) (F0 m 0 ls []) := by
  unfold f_X6_stop at h
  refine lv_aload_n C.1 C.2.1 dX6_stop_0 rfl (lv_at hl 0 rfl) ?_
  refine lv_iload_n C.1 C.2.1 dX6_stop_1 rfl (lv_at hl 1 rfl) ?_
  refine lv_iconst (v := 0) C.1 C.2.1 dX6_stop_2 (by decide) ?_
  refine lv_aload_n C.1 C.2.1 dX6_stop_3 rfl (lv_at hl 0 rfl) ?_
  refine k_getf C G hP r_obj rfl 0 (by decide) n_X6_stop_X6 q_X6_stop_0 (v := .ref (ad (89 + 1))) rfl dX6_stop_4 ?_
  refine lv_iconst (v := 2) C.1 C.2.1 dX6_stop_7 (by decide) ?_
  obtain ⟨v1, ev1, h⟩ := lt_out h
  refine k_iald C G hP (r_arr (k := 1) (by decide)) (chk_in rfl) (j := 2) rfl ev1 dX6_stop_8 ?_
  refine lv_iconst (v := 1) C.1 C.2.1 dX6_stop_9 (by decide) ?_
  obtain ⟨v2, ev2, h⟩ := lt_out h
  refine k_isub C ev2 dX6_stop_10 ?_
  obtain ⟨r3, c4, h⟩ := bd_out h
  refine k_callSi C G hP hS (m_X6_within l G.2.1 _  c4) (va_cwS 3 C.2.2.2.2.2.1 gX6_stop_X6_within rfl rfl rfl (by decide +kernel) ⟨Nat.le_of_ble_eq_true rfl, Nat.le_of_ble_eq_true rfl⟩) (As := [.int x1, .int 0, .int v2]) rfl hl.1 rfl (Nat.le_of_ble_eq_true rfl) dX6_stop_11 ⟨Nat.le_of_ble_eq_true rfl, Nat.le_of_ble_eq_true rfl⟩ (fun H locs hP hS => ?_)
  refine lv_if_ne (tgt := 21) C.1 C.2.1 dX6_stop_14 (by decide) (fun c5 => ?_) (fun c5 => ?_)
  · have h := if_t c5 h
    refine lv_iload_n C.1 C.2.1 dX6_stop_21 rfl (lv_at hl 2 rfl) ?_
    refine lv_iconst (v := 0) C.1 C.2.1 dX6_stop_22 (by decide) ?_
    refine lv_iconst (v := 2) C.1 C.2.1 dX6_stop_23 (by decide) ?_
    obtain ⟨r6, c7, h⟩ := bd_out h
    refine k_callSi C G hP hS (m_X6_within l G.2.1 _  c7) (va_cwS 3 C.2.2.2.2.2.1 gX6_stop_X6_within rfl rfl rfl (by decide +kernel) ⟨Nat.le_of_ble_eq_true rfl, Nat.le_of_ble_eq_true rfl⟩) (As := [.int x2, .int 0, .int 2]) rfl hl.1 rfl (Nat.le_of_ble_eq_true rfl) dX6_stop_24 ⟨Nat.le_of_ble_eq_true rfl, Nat.le_of_ble_eq_true rfl⟩ (fun H locs hP hS => ?_)
    refine lv_if_eq (tgt := 34) C.1 C.2.1 dX6_stop_27 (by decide) (fun c8 => ?_) (fun c8 => ?_)
    · have h := if_t c8 h
      refine lv_iconst (v := 2) C.1 C.2.1 dX6_stop_34 (by decide) ?_
      exact w_X6_stop_b35 C G hP hS (lv_sub hl [0, 1, 2] rfl) h
    · have h := if_f c8 h
      refine lv_iconst (v := 0) C.1 C.2.1 dX6_stop_30 (by decide) ?_
      refine lv_goto (tgt := 35) C.1 C.2.1 dX6_stop_31 (by decide) ?_
      exact w_X6_stop_b35 C G hP hS (lv_sub hl [0, 1, 2] rfl) h
  · have h := if_n c5 h
    refine lv_iconst (v := 1) C.1 C.2.1 dX6_stop_17 (by decide) ?_
    refine lv_goto (tgt := 35) C.1 C.2.1 dX6_stop_18 (by decide) ?_
    exact w_X6_stop_b35 C G hP hS (lv_sub hl [0, 1, 2] rfl) h
set_option maxRecDepth 100000 in
set_option maxHeartbeats 4000000 in
theorem m_X6_stop (l : Launch) {D : va_G} {cs : Nat → ClassId} {ad : Nat → Nat} (hAd : adOK ad) (sz : Nat) {Ls : Nat → SL} {Hs : SL} {T : SL} {M : SL} {dr : Int64} {hs : Int64} {o : Int64} {od : UInt64} {x1 : Int32} {x2 : Int32} {res : Int32 × SL} (h : f_X6_stop M x1 x2 = some res) : Met l yX6_stop wsX6_stop rmX6_stop (PA D cs sz (wA cs ad Ls Hs T M dr hs o od) [.ref (ad 89), .int x1, .int x2]) (va_Qi (fun r' (_ : Unit) => r' = res.1) (fun _ t => va_P D vwCl (wA cs ad Ls Hs T res.2 dr hs o od) t.heap) (Afr ad sz)) 0 0 (Afr ad sz) :=
  k_met (by decide) rfl (Nat.le_of_ble_eq_true rfl) hAd (fun p e s m below meth c ls C G hP hsz hl hS => by
    subst hsz
    exact w_X6_stop_e C G  hP hS hl  h)
/-! X6 laysDown -/
abbrev rmX6_laysDown : Room := { frames := 0, cells := 0, slots := 0, locals := 0 }
theorem q_X6_laysDown_0 : Cond.fieldLink RX6 22 "LineBuffersModel" "down" "[I" ∈ wsX6_laysDown := List.mem_of_getElem? (i := 1) rfl
theorem q_X6_laysDown_1 : Cond.fieldLink RX6 7 "LineBuffersModel" "now" "[I" ∈ wsX6_laysDown := List.mem_of_getElem? (i := 2) rfl
theorem n_X6_laysDown_X6 : ∀ x ∈ u_ws RX6 TX6 12, x ∈ wsX6_laysDown := fun x h => List.mem_cons_of_mem _ (List.mem_append_right _ h)
set_option maxRecDepth 100000 in
set_option maxHeartbeats 4000000 in
theorem w_X6_laysDown_b124 {res : SL} (C : Cx p s m args meth c cX6_laysDown 7 none RX6 wsX6_laysDown) (G : Gx D cs ad s) {Ls : Nat → SL} {Hs : SL} {T : SL} {dr : Int64} {hs : Int64} {o : Int64} {od : UInt64} {K22 : SL → Int32 → Int32 → Int32 → Option (SL)} (hK22 : ∀ {M : SL} {x1 : Int32} {x2 : Int32} {x3 : Int32} {H : Heap} {locs : List Loc} {ls : Array Slot}, va_P D vwCl (wA cs ad Ls Hs T M dr hs o od) H → va_S (Afr ad s.heap.size) s.heap H locs → lv_has ls 7 [(0, .ref (ad 89)), (1, .int x1), (2, .int x2), (3, .int x3)] → K22 M x1 x2 x3 = some res → W p l e rmX6_laysDown s m args below meth c H locs 0 0 (MQ below (va_Qv (fun (_ : Unit) => True) (fun _ t => va_P D vwCl (wA cs ad Ls Hs T res dr hs o od) t.heap) (Afr ad s.heap.size)) args s 0 0 (Afr ad s.heap.size)) (F0 m 22 ls [])) {M : SL} {x1 : Int32} {x2 : Int32} {x3 : Int32} {H : Heap} {locs : List Loc} {ls : Array Slot} (hP : va_P D vwCl (wA cs ad Ls Hs T M dr hs o od) H) (hS : va_S (Afr ad s.heap.size) s.heap H locs) (hl : lv_has ls 7 [(0, .ref (ad 89)), (1, .int x1), (2, .int x2), (3, .int x3)]) (h : f_X6_laysDown_b124 K22 M x1 x2 x3 = some res) : W p l e rmX6_laysDown s m args below meth c H locs 0 0 (MQ below (va_Qv (fun (_ : Unit) => True) (fun _ t => va_P D vwCl (wA cs ad Ls Hs T res dr hs o od) t.heap) (Afr ad s.heap.size)) args s 0 0 (Afr ad s.heap.size)) (F0 m 124 ls []) := by
  unfold f_X6_laysDown_b124 at h
  obtain ⟨z1, ez1, h⟩ := lt_out h
  refine lv_iinc (v := z1) (lv' := [(3, .int z1), (0, .ref (ad 89)), (1, .int x1), (2, .int x2)]) C.1 C.2.1 dX6_laysDown_124 hl (k := 3) rfl (by rw [ez1]; rfl) (by decide) rfl (fun ls hl => ?_)
  refine lv_goto (tgt := 22) C.1 C.2.1 dX6_laysDown_127 (by decide) ?_
  exact hK22 hP hS (lv_sub hl [1, 2, 3, 0] rfl)  h
set_option maxRecDepth 100000 in
set_option maxHeartbeats 4000000 in
theorem w_X6_laysDown_b81 {res : SL} (C : Cx p s m args meth c cX6_laysDown 7 none RX6 wsX6_laysDown) (G : Gx D cs ad s) {Ls : Nat → SL} {Hs : SL} {T : SL} {dr : Int64} {hs : Int64} {o : Int64} {od : UInt64} {K22 : SL → Int32 → Int32 → Int32 → Option (SL)} (hK22 : ∀ {M : SL} {x1 : Int32} {x2 : Int32} {x3 : Int32} {H : Heap} {locs : List Loc} {ls : Array Slot}, va_P D vwCl (wA cs ad Ls Hs T M dr hs o od) H → va_S (Afr ad s.heap.size) s.heap H locs → lv_has ls 7 [(0, .ref (ad 89)), (1, .int x1), (2, .int x2), (3, .int x3)] → K22 M x1 x2 x3 = some res → W p l e rmX6_laysDown s m args below meth c H locs 0 0 (MQ below (va_Qv (fun (_ : Unit) => True) (fun _ t => va_P D vwCl (wA cs ad Ls Hs T res dr hs o od) t.heap) (Afr ad s.heap.size)) args s 0 0 (Afr ad s.heap.size)) (F0 m 22 ls [])) {K81 : SL → Int32 → Int32 → Int32 → Int32 → Int32 → Option (SL)} (hK81 : ∀ {M : SL} {x1 : Int32} {x2 : Int32} {x3 : Int32} {x5 : Int32} {x6 : Int32} {H : Heap} {locs : List Loc} {ls : Array Slot}, va_P D vwCl (wA cs ad Ls Hs T M dr hs o od) H → va_S (Afr ad s.heap.size) s.heap H locs → lv_has ls 7 [(0, .ref (ad 89)), (1, .int x1), (2, .int x2), (3, .int x3), (5, .int x5), (6, .int x6)] → K81 M x1 x2 x3 x5 x6 = some res → W p l e rmX6_laysDown s m args below meth c H locs 0 0 (MQ below (va_Qv (fun (_ : Unit) => True) (fun _ t => va_P D vwCl (wA cs ad Ls Hs T res dr hs o od) t.heap) (Afr ad s.heap.size)) args s 0 0 (Afr ad s.heap.size)) (F0 m 81 ls [])) {M : SL} {x1 : Int32} {x2 : Int32} {x3 : Int32} {x5 : Int32} {x6 : Int32} {H : Heap} {locs : List Loc} {ls : Array Slot} (hP : va_P D vwCl (wA cs ad Ls Hs T M dr hs o od) H) (hS : va_S (Afr ad s.heap.size) s.heap H locs) (hl : lv_has ls 7 [(0, .ref (ad 89)), (1, .int x1), (2, .int x2), (3, .int x3), (5, .int x5), (6, .int x6)]) (h : f_X6_laysDown_b81 K22 K81 M x1 x2 x3 x5 x6 = some res) : W p l e rmX6_laysDown s m args below meth c H locs 0 0 (MQ below (va_Qv (fun (_ : Unit) => True) (fun _ t => va_P D vwCl (wA cs ad Ls Hs T res dr hs o od) t.heap) (Afr ad s.heap.size)) args s 0 0 (Afr ad s.heap.size)) (F0 m 81 ls []) := by
  unfold f_X6_laysDown_b81 at h
  refine lv_iload C.1 C.2.1 dX6_laysDown_81 (lv_at hl 5 rfl) ?_
  refine lv_iload C.1 C.2.1 dX6_laysDown_83 (lv_at hl 4 rfl) ?_
  refine lv_icmp_ge (tgt := 124) C.1 C.2.1 dX6_laysDown_85 (by decide) (fun c1 => ?_) (fun c1 => ?_)
  · have h := if_t c1 h
    exact w_X6_laysDown_b124 C G hK22 hP hS (lv_sub hl [0, 1, 2, 3] rfl) h
  · have h := if_f c1 h
    refine lv_iload C.1 C.2.1 dX6_laysDown_88 (lv_at hl 5 rfl) ?_
    refine lv_iload_n C.1 C.2.1 dX6_laysDown_90 rfl (lv_at hl 2 rfl) ?_
    refine lv_icmp_gt (tgt := 124) C.1 C.2.1 dX6_laysDown_91 (by decide) (fun c2 => ?_) (fun c2 => ?_)
    · have h := if_t c2 h
      exact w_X6_laysDown_b124 C G hK22 hP hS (lv_sub hl [0, 1, 2, 3] rfl) h
    · have h := if_f c2 h
      refine lv_aload_n C.1 C.2.1 dX6_laysDown_94 rfl (lv_at hl 0 rfl) ?_
      refine k_getf C G hP r_obj rfl 7 (by decide) n_X6_laysDown_X6 q_X6_laysDown_0 (v := .ref (ad (89 + 5))) rfl dX6_laysDown_95 ?_
      refine lv_iload C.1 C.2.1 dX6_laysDown_98 (lv_at hl 5 rfl) ?_
      refine lv_dup2_11 C.1 C.2.1 dX6_laysDown_100 rfl rfl ?_
      obtain ⟨g3, h⟩ := gd_out h
      have g3 := chk_in g3
      obtain ⟨v4, ev4, h⟩ := lt_out h
      refine k_iald C G hP (r_arr (k := 5) (by decide)) g3 (j := x6.toNatClampNeg) rfl ev4 dX6_laysDown_101 ?_
      refine lv_iconst (v := 1) C.1 C.2.1 dX6_laysDown_102 (by decide) ?_
      refine lv_aload_n C.1 C.2.1 dX6_laysDown_103 rfl (lv_at hl 0 rfl) ?_
      refine k_getf C G hP r_obj rfl 0 (by decide) n_X6_laysDown_X6 q_X6_laysDown_1 (v := .ref (ad (89 + 1))) rfl dX6_laysDown_104 ?_
      refine lv_sipush (v := 131) C.1 C.2.1 dX6_laysDown_107 (by decide) ?_
      refine lv_iconst (v := 3) C.1 C.2.1 dX6_laysDown_110 (by decide) ?_
      refine lv_iload_n C.1 C.2.1 dX6_laysDown_111 rfl (lv_at hl 3 rfl) ?_
      obtain ⟨v5, ev5, h⟩ := lt_out h
      refine k_imul C ev5 dX6_laysDown_112 ?_
      obtain ⟨v6, ev6, h⟩ := lt_out h
      refine k_iadd C ev6 dX6_laysDown_113 ?_
      obtain ⟨g7, h⟩ := gd_out h
      have g7 := chk_in g7
      obtain ⟨v8, ev8, h⟩ := lt_out h
      refine k_iald C G hP (r_arr (k := 1) (by decide)) g7 (j := v6.toNatClampNeg) rfl ev8 dX6_laysDown_114 ?_
      obtain ⟨v9, ev9, h⟩ := lt_out h
      refine k_ishl C ev9 dX6_laysDown_115 ?_
      obtain ⟨v10, ev10, h⟩ := lt_out h
      refine k_ior C ev10 dX6_laysDown_116 ?_
      obtain ⟨M11, eM11, h⟩ := lt_out h
      refine k_iast C G hP hS (r_arr (k := 5) (by decide)) g3 (j := x6.toNatClampNeg) rfl (r_arrS (k := 5) (by decide)) dX6_laysDown_117 (fun H locs hP hS => ?_)
      rw [← eM11] at hP
      obtain ⟨z12, ez12, h⟩ := lt_out h
      refine lv_iinc (v := z12) (lv' := [(6, .int z12), (0, .ref (ad 89)), (1, .int x1), (2, .int x2), (3, .int x3), (5, .int x5)]) C.1 C.2.1 dX6_laysDown_118 hl (k := 5) rfl (by rw [ez12]; rfl) (by decide) rfl (fun ls hl => ?_)
      refine lv_goto (tgt := 81) C.1 C.2.1 dX6_laysDown_121 (by decide) ?_
      exact hK81 hP hS (lv_sub hl [1, 2, 3, 4, 5, 0] rfl)  h
set_option maxRecDepth 100000 in
set_option maxHeartbeats 4000000 in
theorem w_X6_laysDown_h81 {res : SL} (C : Cx p s m args meth c cX6_laysDown 7 none RX6 wsX6_laysDown) (G : Gx D cs ad s) {Ls : Nat → SL} {Hs : SL} {T : SL} {dr : Int64} {hs : Int64} {o : Int64} {od : UInt64} {K22 : SL → Int32 → Int32 → Int32 → Option (SL)} (hK22 : ∀ {M : SL} {x1 : Int32} {x2 : Int32} {x3 : Int32} {H : Heap} {locs : List Loc} {ls : Array Slot}, va_P D vwCl (wA cs ad Ls Hs T M dr hs o od) H → va_S (Afr ad s.heap.size) s.heap H locs → lv_has ls 7 [(0, .ref (ad 89)), (1, .int x1), (2, .int x2), (3, .int x3)] → K22 M x1 x2 x3 = some res → W p l e rmX6_laysDown s m args below meth c H locs 0 0 (MQ below (va_Qv (fun (_ : Unit) => True) (fun _ t => va_P D vwCl (wA cs ad Ls Hs T res dr hs o od) t.heap) (Afr ad s.heap.size)) args s 0 0 (Afr ad s.heap.size)) (F0 m 22 ls [])) : ∀ (n : Nat) {M : SL} {x1 : Int32} {x2 : Int32} {x3 : Int32} {x5 : Int32} {x6 : Int32} {H : Heap} {locs : List Loc} {ls : Array Slot}, va_P D vwCl (wA cs ad Ls Hs T M dr hs o od) H → va_S (Afr ad s.heap.size) s.heap H locs → lv_has ls 7 [(0, .ref (ad 89)), (1, .int x1), (2, .int x2), (3, .int x3), (5, .int x5), (6, .int x6)] → f_X6_laysDown_h81 K22 n M x1 x2 x3 x5 x6 = some res → W p l e rmX6_laysDown s m args below meth c H locs 0 0 (MQ below (va_Qv (fun (_ : Unit) => True) (fun _ t => va_P D vwCl (wA cs ad Ls Hs T res dr hs o od) t.heap) (Afr ad s.heap.size)) args s 0 0 (Afr ad s.heap.size)) (F0 m 81 ls []) := by
  intro n
  induction n with
  | zero => intro M x1 x2 x3 x5 x6 H locs ls hP hS hl  h; cases h
  | succ n ih => intro M x1 x2 x3 x5 x6 H locs ls hP hS hl  h; exact w_X6_laysDown_b81 C G   hK22 ih hP hS hl  h
set_option maxRecDepth 100000 in
set_option maxHeartbeats 4000000 in
theorem w_X6_laysDown_b79 {res : SL} (C : Cx p s m args meth c cX6_laysDown 7 none RX6 wsX6_laysDown) (G : Gx D cs ad s) {Ls : Nat → SL} {Hs : SL} {T : SL} {dr : Int64} {hs : Int64} {o : Int64} {od : UInt64} {K22 : SL → Int32 → Int32 → Int32 → Option (SL)} (hK22 : ∀ {M : SL} {x1 : Int32} {x2 : Int32} {x3 : Int32} {H : Heap} {locs : List Loc} {ls : Array Slot}, va_P D vwCl (wA cs ad Ls Hs T M dr hs o od) H → va_S (Afr ad s.heap.size) s.heap H locs → lv_has ls 7 [(0, .ref (ad 89)), (1, .int x1), (2, .int x2), (3, .int x3)] → K22 M x1 x2 x3 = some res → W p l e rmX6_laysDown s m args below meth c H locs 0 0 (MQ below (va_Qv (fun (_ : Unit) => True) (fun _ t => va_P D vwCl (wA cs ad Ls Hs T res dr hs o od) t.heap) (Afr ad s.heap.size)) args s 0 0 (Afr ad s.heap.size)) (F0 m 22 ls [])) {M : SL} {x1 : Int32} {x2 : Int32} {x3 : Int32} {x5 : Int32} {s0 : Int32} {H : Heap} {locs : List Loc} {ls : Array Slot} (hP : va_P D vwCl (wA cs ad Ls Hs T M dr hs o od) H) (hS : va_S (Afr ad s.heap.size) s.heap H locs) (hl : lv_has ls 7 [(0, .ref (ad 89)), (1, .int x1), (2, .int x2), (3, .int x3), (5, .int x5)]) (h : f_X6_laysDown_b79 K22 M x1 x2 x3 x5 s0 = some res) : W p l e rmX6_laysDown s m args below meth c H locs 0 0 (MQ below (va_Qv (fun (_ : Unit) => True) (fun _ t => va_P D vwCl (wA cs ad Ls Hs T res dr hs o od) t.heap) (Afr ad s.heap.size)) args s 0 0 (Afr ad s.heap.size)) (F0 m 79 ls [.int s0]) := by
  unfold f_X6_laysDown_b79 at h
  refine lv_istore (lv' := [(6, .int s0), (0, .ref (ad 89)), (1, .int x1), (2, .int x2), (3, .int x3), (5, .int x5)]) C.1 C.2.1 dX6_laysDown_79 hl (by decide) rfl (fun ls hl => ?_)
  exact w_X6_laysDown_h81 C G hK22 fuel hP hS (lv_sub hl [1, 2, 3, 4, 5, 0] rfl) h
set_option maxRecDepth 100000 in
set_option maxHeartbeats 4000000 in
theorem w_X6_laysDown_b22 {res : SL} (C : Cx p s m args meth c cX6_laysDown 7 none RX6 wsX6_laysDown) (G : Gx D cs ad s) {Ls : Nat → SL} {Hs : SL} {T : SL} {dr : Int64} {hs : Int64} {o : Int64} {od : UInt64} {K22 : SL → Int32 → Int32 → Int32 → Option (SL)} (hK22 : ∀ {M : SL} {x1 : Int32} {x2 : Int32} {x3 : Int32} {H : Heap} {locs : List Loc} {ls : Array Slot}, va_P D vwCl (wA cs ad Ls Hs T M dr hs o od) H → va_S (Afr ad s.heap.size) s.heap H locs → lv_has ls 7 [(0, .ref (ad 89)), (1, .int x1), (2, .int x2), (3, .int x3)] → K22 M x1 x2 x3 = some res → W p l e rmX6_laysDown s m args below meth c H locs 0 0 (MQ below (va_Qv (fun (_ : Unit) => True) (fun _ t => va_P D vwCl (wA cs ad Ls Hs T res dr hs o od) t.heap) (Afr ad s.heap.size)) args s 0 0 (Afr ad s.heap.size)) (F0 m 22 ls [])) {M : SL} {x1 : Int32} {x2 : Int32} {x3 : Int32} {H : Heap} {locs : List Loc} {ls : Array Slot} (hP : va_P D vwCl (wA cs ad Ls Hs T M dr hs o od) H) (hS : va_S (Afr ad s.heap.size) s.heap H locs) (hl : lv_has ls 7 [(0, .ref (ad 89)), (1, .int x1), (2, .int x2), (3, .int x3)]) (h : f_X6_laysDown_b22 K22 M x1 x2 x3 = some res) : W p l e rmX6_laysDown s m args below meth c H locs 0 0 (MQ below (va_Qv (fun (_ : Unit) => True) (fun _ t => va_P D vwCl (wA cs ad Ls Hs T res dr hs o od) t.heap) (Afr ad s.heap.size)) args s 0 0 (Afr ad s.heap.size)) (F0 m 22 ls []) := by
  unfold f_X6_laysDown_b22 at h
  refine lv_iload_n C.1 C.2.1 dX6_laysDown_22 rfl (lv_at hl 3 rfl) ?_
  refine lv_aload_n C.1 C.2.1 dX6_laysDown_23 rfl (lv_at hl 0 rfl) ?_
  refine k_getf C G hP r_obj rfl 0 (by decide) n_X6_laysDown_X6 q_X6_laysDown_1 (v := .ref (ad (89 + 1))) rfl dX6_laysDown_24 ?_
  refine lv_iconst (v := 2) C.1 C.2.1 dX6_laysDown_27 (by decide) ?_
  obtain ⟨v1, ev1, h⟩ := lt_out h
  refine k_iald C G hP (r_arr (k := 1) (by decide)) (chk_in rfl) (j := 2) rfl ev1 dX6_laysDown_28 ?_
  refine lv_icmp_ge (tgt := 130) C.1 C.2.1 dX6_laysDown_29 (by decide) (fun c2 => ?_) (fun c2 => ?_)
  · have h := if_t c2 h
    cases h
    exact k_vret C hP hS dX6_laysDown_130
  · have h := if_f c2 h
    refine lv_aload_n C.1 C.2.1 dX6_laysDown_32 rfl (lv_at hl 0 rfl) ?_
    refine k_getf C G hP r_obj rfl 0 (by decide) n_X6_laysDown_X6 q_X6_laysDown_1 (v := .ref (ad (89 + 1))) rfl dX6_laysDown_33 ?_
    refine lv_sipush (v := 131) C.1 C.2.1 dX6_laysDown_36 (by decide) ?_
    refine lv_iconst (v := 3) C.1 C.2.1 dX6_laysDown_39 (by decide) ?_
    refine lv_iload_n C.1 C.2.1 dX6_laysDown_40 rfl (lv_at hl 3 rfl) ?_
    obtain ⟨v3, ev3, h⟩ := lt_out h
    refine k_imul C ev3 dX6_laysDown_41 ?_
    obtain ⟨v4, ev4, h⟩ := lt_out h
    refine k_iadd C ev4 dX6_laysDown_42 ?_
    refine lv_iconst (v := 1) C.1 C.2.1 dX6_laysDown_43 (by decide) ?_
    obtain ⟨v5, ev5, h⟩ := lt_out h
    refine k_iadd C ev5 dX6_laysDown_44 ?_
    obtain ⟨g6, h⟩ := gd_out h
    have g6 := chk_in g6
    obtain ⟨v7, ev7, h⟩ := lt_out h
    refine k_iald C G hP (r_arr (k := 1) (by decide)) g6 (j := v5.toNatClampNeg) rfl ev7 dX6_laysDown_45 ?_
    refine lv_istore (lv' := [(4, .int v7), (0, .ref (ad 89)), (1, .int x1), (2, .int x2), (3, .int x3)]) C.1 C.2.1 dX6_laysDown_46 hl (by decide) rfl (fun ls hl => ?_)
    refine lv_iload C.1 C.2.1 dX6_laysDown_48 (lv_at hl 0 rfl) ?_
    refine lv_aload_n C.1 C.2.1 dX6_laysDown_50 rfl (lv_at hl 1 rfl) ?_
    refine k_getf C G hP r_obj rfl 0 (by decide) n_X6_laysDown_X6 q_X6_laysDown_1 (v := .ref (ad (89 + 1))) rfl dX6_laysDown_51 ?_
    refine lv_sipush (v := 131) C.1 C.2.1 dX6_laysDown_54 (by decide) ?_
    refine lv_iconst (v := 3) C.1 C.2.1 dX6_laysDown_57 (by decide) ?_
    refine lv_iload_n C.1 C.2.1 dX6_laysDown_58 rfl (lv_at hl 4 rfl) ?_
    obtain ⟨v8, ev8, h⟩ := lt_out h
    refine k_imul C ev8 dX6_laysDown_59 ?_
    obtain ⟨v9, ev9, h⟩ := lt_out h
    refine k_iadd C ev9 dX6_laysDown_60 ?_
    refine lv_iconst (v := 2) C.1 C.2.1 dX6_laysDown_61 (by decide) ?_
    obtain ⟨v10, ev10, h⟩ := lt_out h
    refine k_iadd C ev10 dX6_laysDown_62 ?_
    obtain ⟨g11, h⟩ := gd_out h
    have g11 := chk_in g11
    obtain ⟨v12, ev12, h⟩ := lt_out h
    refine k_iald C G hP (r_arr (k := 1) (by decide)) g11 (j := v10.toNatClampNeg) rfl ev12 dX6_laysDown_63 ?_
    obtain ⟨v13, ev13, h⟩ := lt_out h
    refine k_iadd C ev13 dX6_laysDown_64 ?_
    refine lv_istore (lv' := [(5, .int v13), (4, .int v7), (0, .ref (ad 89)), (1, .int x1), (2, .int x2), (3, .int x3)]) C.1 C.2.1 dX6_laysDown_65 hl (by decide) rfl (fun ls hl => ?_)
    refine lv_iload C.1 C.2.1 dX6_laysDown_67 (lv_at hl 1 rfl) ?_
    refine lv_iload_n C.1 C.2.1 dX6_laysDown_69 rfl (lv_at hl 3 rfl) ?_
    refine lv_icmp_le (tgt := 78) C.1 C.2.1 dX6_laysDown_70 (by decide) (fun c14 => ?_) (fun c14 => ?_)
    · have h := if_t c14 h
      refine lv_iload_n C.1 C.2.1 dX6_laysDown_78 rfl (lv_at hl 3 rfl) ?_
      exact w_X6_laysDown_b79 C G hK22 hP hS (lv_sub hl [2, 3, 4, 5, 0] rfl) h
    · have h := if_f c14 h
      refine lv_iload C.1 C.2.1 dX6_laysDown_73 (lv_at hl 1 rfl) ?_
      refine lv_goto (tgt := 79) C.1 C.2.1 dX6_laysDown_75 (by decide) ?_
      exact w_X6_laysDown_b79 C G hK22 hP hS (lv_sub hl [2, 3, 4, 5, 0] rfl) h
set_option maxRecDepth 100000 in
set_option maxHeartbeats 4000000 in
theorem w_X6_laysDown_h22 {res : SL} (C : Cx p s m args meth c cX6_laysDown 7 none RX6 wsX6_laysDown) (G : Gx D cs ad s) {Ls : Nat → SL} {Hs : SL} {T : SL} {dr : Int64} {hs : Int64} {o : Int64} {od : UInt64} : ∀ (n : Nat) {M : SL} {x1 : Int32} {x2 : Int32} {x3 : Int32} {H : Heap} {locs : List Loc} {ls : Array Slot}, va_P D vwCl (wA cs ad Ls Hs T M dr hs o od) H → va_S (Afr ad s.heap.size) s.heap H locs → lv_has ls 7 [(0, .ref (ad 89)), (1, .int x1), (2, .int x2), (3, .int x3)] → f_X6_laysDown_h22 n M x1 x2 x3 = some res → W p l e rmX6_laysDown s m args below meth c H locs 0 0 (MQ below (va_Qv (fun (_ : Unit) => True) (fun _ t => va_P D vwCl (wA cs ad Ls Hs T res dr hs o od) t.heap) (Afr ad s.heap.size)) args s 0 0 (Afr ad s.heap.size)) (F0 m 22 ls []) := by
  intro n
  induction n with
  | zero => intro M x1 x2 x3 H locs ls hP hS hl  h; cases h
  | succ n ih => intro M x1 x2 x3 H locs ls hP hS hl  h; exact w_X6_laysDown_b22 C G    ih hP hS hl  h
set_option maxRecDepth 100000 in
set_option maxHeartbeats 4000000 in
theorem w_X6_laysDown_b2 {res : SL} (C : Cx p s m args meth c cX6_laysDown 7 none RX6 wsX6_laysDown) (G : Gx D cs ad s) {Ls : Nat → SL} {Hs : SL} {T : SL} {dr : Int64} {hs : Int64} {o : Int64} {od : UInt64} {K2 : SL → Int32 → Int32 → Int32 → Option (SL)} (hK2 : ∀ {M : SL} {x1 : Int32} {x2 : Int32} {x3 : Int32} {H : Heap} {locs : List Loc} {ls : Array Slot}, va_P D vwCl (wA cs ad Ls Hs T M dr hs o od) H → va_S (Afr ad s.heap.size) s.heap H locs → lv_has ls 7 [(0, .ref (ad 89)), (1, .int x1), (2, .int x2), (3, .int x3)] → K2 M x1 x2 x3 = some res → W p l e rmX6_laysDown s m args below meth c H locs 0 0 (MQ below (va_Qv (fun (_ : Unit) => True) (fun _ t => va_P D vwCl (wA cs ad Ls Hs T res dr hs o od) t.heap) (Afr ad s.heap.size)) args s 0 0 (Afr ad s.heap.size)) (F0 m 2 ls [])) {M : SL} {x1 : Int32} {x2 : Int32} {x3 : Int32} {H : Heap} {locs : List Loc} {ls : Array Slot} (hP : va_P D vwCl (wA cs ad Ls Hs T M dr hs o od) H) (hS : va_S (Afr ad s.heap.size) s.heap H locs) (hl : lv_has ls 7 [(0, .ref (ad 89)), (1, .int x1), (2, .int x2), (3, .int x3)]) (h : f_X6_laysDown_b2 K2 M x1 x2 x3 = some res) : W p l e rmX6_laysDown s m args below meth c H locs 0 0 (MQ below (va_Qv (fun (_ : Unit) => True) (fun _ t => va_P D vwCl (wA cs ad Ls Hs T res dr hs o od) t.heap) (Afr ad s.heap.size)) args s 0 0 (Afr ad s.heap.size)) (F0 m 2 ls []) := by
  unfold f_X6_laysDown_b2 at h
  refine lv_iload_n C.1 C.2.1 dX6_laysDown_2 rfl (lv_at hl 3 rfl) ?_
  refine lv_iload_n C.1 C.2.1 dX6_laysDown_3 rfl (lv_at hl 2 rfl) ?_
  refine lv_icmp_gt (tgt := 20) C.1 C.2.1 dX6_laysDown_4 (by decide) (fun c1 => ?_) (fun c1 => ?_)
  · have h := if_t c1 h
    refine lv_iconst (v := 0) C.1 C.2.1 dX6_laysDown_20 (by decide) ?_
    refine lv_istore_n (lv' := [(3, .int 0), (0, .ref (ad 89)), (1, .int x1), (2, .int x2)]) C.1 C.2.1 dX6_laysDown_21 rfl hl (by decide) rfl (fun ls hl => ?_)
    exact w_X6_laysDown_h22 C G fuel hP hS (lv_sub hl [1, 2, 3, 0] rfl) h
  · have h := if_f c1 h
    refine lv_aload_n C.1 C.2.1 dX6_laysDown_7 rfl (lv_at hl 0 rfl) ?_
    refine k_getf C G hP r_obj rfl 7 (by decide) n_X6_laysDown_X6 q_X6_laysDown_0 (v := .ref (ad (89 + 5))) rfl dX6_laysDown_8 ?_
    refine lv_iload_n C.1 C.2.1 dX6_laysDown_11 rfl (lv_at hl 3 rfl) ?_
    refine lv_iconst (v := 0) C.1 C.2.1 dX6_laysDown_12 (by decide) ?_
    obtain ⟨g2, h⟩ := gd_out h
    have g2 := chk_in g2
    obtain ⟨M3, eM3, h⟩ := lt_out h
    refine k_iast C G hP hS (r_arr (k := 5) (by decide)) g2 (j := x3.toNatClampNeg) rfl (r_arrS (k := 5) (by decide)) dX6_laysDown_13 (fun H locs hP hS => ?_)
    rw [← eM3] at hP
    obtain ⟨z4, ez4, h⟩ := lt_out h
    refine lv_iinc (v := z4) (lv' := [(3, .int z4), (0, .ref (ad 89)), (1, .int x1), (2, .int x2)]) C.1 C.2.1 dX6_laysDown_14 hl (k := 3) rfl (by rw [ez4]; rfl) (by decide) rfl (fun ls hl => ?_)
    refine lv_goto (tgt := 2) C.1 C.2.1 dX6_laysDown_17 (by decide) ?_
    exact hK2 hP hS (lv_sub hl [1, 2, 3, 0] rfl)  h
set_option maxRecDepth 100000 in
set_option maxHeartbeats 4000000 in
theorem w_X6_laysDown_h2 {res : SL} (C : Cx p s m args meth c cX6_laysDown 7 none RX6 wsX6_laysDown) (G : Gx D cs ad s) {Ls : Nat → SL} {Hs : SL} {T : SL} {dr : Int64} {hs : Int64} {o : Int64} {od : UInt64} : ∀ (n : Nat) {M : SL} {x1 : Int32} {x2 : Int32} {x3 : Int32} {H : Heap} {locs : List Loc} {ls : Array Slot}, va_P D vwCl (wA cs ad Ls Hs T M dr hs o od) H → va_S (Afr ad s.heap.size) s.heap H locs → lv_has ls 7 [(0, .ref (ad 89)), (1, .int x1), (2, .int x2), (3, .int x3)] → f_X6_laysDown_h2 n M x1 x2 x3 = some res → W p l e rmX6_laysDown s m args below meth c H locs 0 0 (MQ below (va_Qv (fun (_ : Unit) => True) (fun _ t => va_P D vwCl (wA cs ad Ls Hs T res dr hs o od) t.heap) (Afr ad s.heap.size)) args s 0 0 (Afr ad s.heap.size)) (F0 m 2 ls []) := by
  intro n
  induction n with
  | zero => intro M x1 x2 x3 H locs ls hP hS hl  h; cases h
  | succ n ih => intro M x1 x2 x3 H locs ls hP hS hl  h; exact w_X6_laysDown_b2 C G    ih hP hS hl  h
set_option maxRecDepth 100000 in
set_option maxHeartbeats 4000000 in
theorem w_X6_laysDown_e {res : SL} (C : Cx p s m args meth c cX6_laysDown 7 none RX6 wsX6_laysDown) (G : Gx D cs ad s) {Ls : Nat → SL} {Hs : SL} {T : SL} {dr : Int64} {hs : Int64} {o : Int64} {od : UInt64} {M : SL} {x1 : Int32} {x2 : Int32} {H : Heap} {locs : List Loc} {ls : Array Slot} (hP : va_P D vwCl (wA cs ad Ls Hs T M dr hs o od) H) (hS : va_S (Afr ad s.heap.size) s.heap H locs) (hl : lv_has ls 7 [(0, .ref (ad 89)), (1, .int x1), (2, .int x2)]) (h : f_X6_laysDown M x1 x2 = some res) : W p l e rmX6_laysDown s m args below meth c H locs 0 0 (MQ below (va_Qv (fun (_ : Unit) => True) (fun _ t => va_P D vwCl (wA cs ad Ls Hs T res dr hs o od) t.heap) (Afr ad s.heap.size)) args s 0 0 (Afr ad s.heap.size)) (F0 m 0 ls []) := by
  unfold f_X6_laysDown at h
  refine lv_iload_n C.1 C.2.1 dX6_laysDown_0 rfl (lv_at hl 1 rfl) ?_
  refine lv_istore_n (lv' := [(3, .int x1), (0, .ref (ad 89)), (1, .int x1), (2, .int x2)]) C.1 C.2.1 dX6_laysDown_1 rfl hl (by decide) rfl (fun ls hl => ?_)
  exact w_X6_laysDown_h2 C G fuel hP hS (lv_sub hl [1, 2, 3, 0] rfl) h
set_option maxRecDepth 100000 in
set_option maxHeartbeats 4000000 in
theorem m_X6_laysDown (l : Launch) {D : va_G} {cs : Nat → ClassId} {ad : Nat → Nat} (hAd : adOK ad) (sz : Nat) {Ls : Nat → SL} {Hs : SL} {T : SL} {M : SL} {dr : Int64} {hs : Int64} {o : Int64} {od : UInt64} {x1 : Int32} {x2 : Int32} {res : SL} (h : f_X6_laysDown M x1 x2 = some res) : Met l yX6_laysDown wsX6_laysDown rmX6_laysDown (PA D cs sz (wA cs ad Ls Hs T M dr hs o od) [.ref (ad 89), .int x1, .int x2]) (va_Qv (fun (_ : Unit) => True) (fun _ t => va_P D vwCl (wA cs ad Ls Hs T res dr hs o od) t.heap) (Afr ad sz)) 0 0 (Afr ad sz) :=
  k_met (by decide) rfl (Nat.le_of_ble_eq_true rfl) hAd (fun p e s m below meth c ls C G hP hsz hl hS => by
    subst hsz
    exact w_X6_laysDown_e C G  hP hS hl  h)
/-! X6 isDown -/
abbrev rmX6_isDown : Room := { frames := 0, cells := 0, slots := 0, locals := 0 }
theorem q_X6_isDown_0 : Cond.fieldLink RX6 22 "LineBuffersModel" "down" "[I" ∈ wsX6_isDown := List.mem_of_getElem? (i := 1) rfl
theorem n_X6_isDown_X6 : ∀ x ∈ u_ws RX6 TX6 12, x ∈ wsX6_isDown := fun x h => List.mem_cons_of_mem _ (List.mem_append_right _ h)
set_option maxRecDepth 100000 in
set_option maxHeartbeats 4000000 in
theorem w_X6_isDown_e {res : Int32} (C : Cx p s m args meth c cX6_isDown 3 (some .boolean) RX6 wsX6_isDown) (G : Gx D cs ad s) {Ls : Nat → SL} {Hs : SL} {T : SL} {dr : Int64} {hs : Int64} {o : Int64} {od : UInt64} {M : SL} {x1 : Int32} {x2 : Int32} {H : Heap} {locs : List Loc} {ls : Array Slot} (hP : va_P D vwCl (wA cs ad Ls Hs T M dr hs o od) H) (hS : va_S (Afr ad s.heap.size) s.heap H locs) (hl : lv_has ls 3 [(0, .ref (ad 89)), (1, .int x1), (2, .int x2)]) (h : f_X6_isDown M x1 x2 = some res) : W p l e rmX6_isDown s m args below meth c H locs 0 0 (MQ below (va_Qi (fun r' (_ : Unit) => r' = res) (fun _ t => va_P D vwCl (wA cs ad Ls Hs T M dr hs o od) t.heap) (Afr ad s.heap.size)) args s 0 0 (Afr ad s.heap.size)) (F0 m 0 ls []) := by
  unfold f_X6_isDown at h
  refine lv_aload_n C.1 C.2.1 dX6_isDown_0 rfl (lv_at hl 0 rfl) ?_
  refine k_getf C G hP r_obj rfl 7 (by decide) n_X6_isDown_X6 q_X6_isDown_0 (v := .ref (ad (89 + 5))) rfl dX6_isDown_1 ?_
  refine lv_iload_n C.1 C.2.1 dX6_isDown_4 rfl (lv_at hl 2 rfl) ?_
  obtain ⟨g1, h⟩ := gd_out h
  have g1 := chk_in g1
  obtain ⟨v2, ev2, h⟩ := lt_out h
  refine k_iald C G hP (r_arr (k := 5) (by decide)) g1 (j := x2.toNatClampNeg) rfl ev2 dX6_isDown_5 ?_
  refine lv_iload_n C.1 C.2.1 dX6_isDown_6 rfl (lv_at hl 1 rfl) ?_
  obtain ⟨v3, ev3, h⟩ := lt_out h
  refine k_ishr C ev3 dX6_isDown_7 ?_
  refine lv_iconst (v := 1) C.1 C.2.1 dX6_isDown_8 (by decide) ?_
  obtain ⟨v4, ev4, h⟩ := lt_out h
  refine k_iand C ev4 dX6_isDown_9 ?_
  refine lv_iconst (v := 1) C.1 C.2.1 dX6_isDown_10 (by decide) ?_
  refine lv_icmp_ne (tgt := 18) C.1 C.2.1 dX6_isDown_11 (by decide) (fun c5 => ?_) (fun c5 => ?_)
  · have h := if_t c5 h
    refine lv_iconst (v := 0) C.1 C.2.1 dX6_isDown_18 (by decide) ?_
    cases h
    exact k_zret C hP hS nar_0 dX6_isDown_19
  · have h := if_n c5 h
    refine lv_iconst (v := 1) C.1 C.2.1 dX6_isDown_14 (by decide) ?_
    refine lv_goto (tgt := 19) C.1 C.2.1 dX6_isDown_15 (by decide) ?_
    cases h
    exact k_zret C hP hS nar_1 dX6_isDown_19
set_option maxRecDepth 100000 in
set_option maxHeartbeats 4000000 in
theorem m_X6_isDown (l : Launch) {D : va_G} {cs : Nat → ClassId} {ad : Nat → Nat} (hAd : adOK ad) (sz : Nat) {Ls : Nat → SL} {Hs : SL} {T : SL} {M : SL} {dr : Int64} {hs : Int64} {o : Int64} {od : UInt64} {x1 : Int32} {x2 : Int32} {res : Int32} (h : f_X6_isDown M x1 x2 = some res) : Met l yX6_isDown wsX6_isDown rmX6_isDown (PA D cs sz (wA cs ad Ls Hs T M dr hs o od) [.ref (ad 89), .int x1, .int x2]) (va_Qi (fun r' (_ : Unit) => r' = res) (fun _ t => va_P D vwCl (wA cs ad Ls Hs T M dr hs o od) t.heap) (Afr ad sz)) 0 0 (Afr ad sz) :=
  k_met (by decide) rfl (Nat.le_of_ble_eq_true rfl) hAd (fun p e s m below meth c ls C G hP hsz hl hS => by
    subst hsz
    exact w_X6_isDown_e C G  hP hS hl  h)
/-! X6 cycle -/
abbrev rmX6_cycle : Room := { frames := 0, cells := 0, slots := 0, locals := 0 }
theorem q_X6_cycle_0 : Cond.fieldLink RX6 7 "LineBuffersModel" "now" "[I" ∈ wsX6_cycle := List.mem_of_getElem? (i := 1) rfl
theorem n_X6_cycle_X6 : ∀ x ∈ u_ws RX6 TX6 12, x ∈ wsX6_cycle := fun x h => List.mem_cons_of_mem _ (List.mem_append_right _ h)
set_option maxRecDepth 100000 in
set_option maxHeartbeats 4000000 in
theorem w_X6_cycle_e {res : Int32} (C : Cx p s m args meth c cX6_cycle 2 (some .int) RX6 wsX6_cycle) (G : Gx D cs ad s) {Ls : Nat → SL} {Hs : SL} {T : SL} {dr : Int64} {hs : Int64} {o : Int64} {od : UInt64} {M : SL} {x1 : Int32} {H : Heap} {locs : List Loc} {ls : Array Slot} (hP : va_P D vwCl (wA cs ad Ls Hs T M dr hs o od) H) (hS : va_S (Afr ad s.heap.size) s.heap H locs) (hl : lv_has ls 2 [(0, .ref (ad 89)), (1, .int x1)]) (h : f_X6_cycle M x1 = some res) : W p l e rmX6_cycle s m args below meth c H locs 0 0 (MQ below (va_Qi (fun r' (_ : Unit) => r' = res) (fun _ t => va_P D vwCl (wA cs ad Ls Hs T M dr hs o od) t.heap) (Afr ad s.heap.size)) args s 0 0 (Afr ad s.heap.size)) (F0 m 0 ls []) := by
  unfold f_X6_cycle at h
  refine lv_aload_n C.1 C.2.1 dX6_cycle_0 rfl (lv_at hl 0 rfl) ?_
  refine k_getf C G hP r_obj rfl 0 (by decide) n_X6_cycle_X6 q_X6_cycle_0 (v := .ref (ad (89 + 1))) rfl dX6_cycle_1 ?_
  refine lv_iload_n C.1 C.2.1 dX6_cycle_4 rfl (lv_at hl 1 rfl) ?_
  refine lv_aload_n C.1 C.2.1 dX6_cycle_5 rfl (lv_at hl 0 rfl) ?_
  refine k_getf C G hP r_obj rfl 0 (by decide) n_X6_cycle_X6 q_X6_cycle_0 (v := .ref (ad (89 + 1))) rfl dX6_cycle_6 ?_
  refine lv_iload_n C.1 C.2.1 dX6_cycle_9 rfl (lv_at hl 1 rfl) ?_
  refine lv_bipush (v := 7) C.1 C.2.1 dX6_cycle_10 (by decide) ?_
  obtain ⟨v1, ev1, h⟩ := lt_out h
  refine k_iadd C ev1 dX6_cycle_12 ?_
  obtain ⟨g2, h⟩ := gd_out h
  have g2 := chk_in g2
  obtain ⟨v3, ev3, h⟩ := lt_out h
  refine k_iald C G hP (r_arr (k := 1) (by decide)) g2 (j := v1.toNatClampNeg) rfl ev3 dX6_cycle_13 ?_
  refine lv_iconst (v := 1) C.1 C.2.1 dX6_cycle_14 (by decide) ?_
  refine lv_icmp_ne (tgt := 22) C.1 C.2.1 dX6_cycle_15 (by decide) (fun c4 => ?_) (fun c4 => ?_)
  · have h := if_t c4 h
    refine lv_iconst (v := 0) C.1 C.2.1 dX6_cycle_22 (by decide) ?_
    obtain ⟨v5, ev5, h⟩ := lt_out h
    refine k_iadd C ev5 dX6_cycle_23 ?_
    obtain ⟨g6, h⟩ := gd_out h
    have g6 := chk_in g6
    obtain ⟨v7, ev7, h⟩ := lt_out h
    refine k_iald C G hP (r_arr (k := 1) (by decide)) g6 (j := v5.toNatClampNeg) rfl ev7 dX6_cycle_24 ?_
    cases h
    exact k_iret C hP hS dX6_cycle_25
  · have h := if_n c4 h
    refine lv_iconst (v := 1) C.1 C.2.1 dX6_cycle_18 (by decide) ?_
    refine lv_goto (tgt := 23) C.1 C.2.1 dX6_cycle_19 (by decide) ?_
    obtain ⟨v8, ev8, h⟩ := lt_out h
    refine k_iadd C ev8 dX6_cycle_23 ?_
    obtain ⟨g9, h⟩ := gd_out h
    have g9 := chk_in g9
    obtain ⟨v10, ev10, h⟩ := lt_out h
    refine k_iald C G hP (r_arr (k := 1) (by decide)) g9 (j := v8.toNatClampNeg) rfl ev10 dX6_cycle_24 ?_
    cases h
    exact k_iret C hP hS dX6_cycle_25
set_option maxRecDepth 100000 in
set_option maxHeartbeats 4000000 in
theorem m_X6_cycle (l : Launch) {D : va_G} {cs : Nat → ClassId} {ad : Nat → Nat} (hAd : adOK ad) (sz : Nat) {Ls : Nat → SL} {Hs : SL} {T : SL} {M : SL} {dr : Int64} {hs : Int64} {o : Int64} {od : UInt64} {x1 : Int32} {res : Int32} (h : f_X6_cycle M x1 = some res) : Met l yX6_cycle wsX6_cycle rmX6_cycle (PA D cs sz (wA cs ad Ls Hs T M dr hs o od) [.ref (ad 89), .int x1]) (va_Qi (fun r' (_ : Unit) => r' = res) (fun _ t => va_P D vwCl (wA cs ad Ls Hs T M dr hs o od) t.heap) (Afr ad sz)) 0 0 (Afr ad sz) :=
  k_met (by decide) rfl (Nat.le_of_ble_eq_true rfl) hAd (fun p e s m below meth c ls C G hP hsz hl hS => by
    subst hsz
    exact w_X6_cycle_e C G  hP hS hl  h)
/-! X6 speeds -/
abbrev rmX6_speeds : Room := { frames := 1, cells := 0, slots := 0, locals := 20 }
theorem q_X6_speeds_0 : Cond.fieldLink RX6 7 "LineBuffersModel" "now" "[I" ∈ wsX6_speeds := List.mem_of_getElem? (i := 1) rfl
theorem n_X6_speeds_X6 : ∀ x ∈ u_ws RX6 TX6 12, x ∈ wsX6_speeds := fun x h => List.mem_cons_of_mem _ (List.mem_append_right _ h)
set_option maxRecDepth 100000 in
set_option maxHeartbeats 4000000 in
theorem w_X6_speeds_b43 {res : SL} (C : Cx p s m args meth c cX6_speeds 5 none RX6 wsX6_speeds) (G : Gx D cs ad s) {Ls : Nat → SL} {Hs : SL} {T : SL} {dr : Int64} {hs : Int64} {o : Int64} {od : UInt64} {M : SL} {x2 : Int32} {x3 : Int32} {s0 : Int32} {H : Heap} {locs : List Loc} {ls : Array Slot} (hP : va_P D vwCl (wA cs ad Ls Hs T M dr hs o od) H) (hS : va_S (Afr ad s.heap.size) s.heap H locs) (hl : lv_has ls 5 [(0, .ref (ad 89)), (2, .int x2), (3, .int x3)]) (h : f_X6_speeds_b43 M x2 x3 s0 = some res) : W p l e rmX6_speeds s m args below meth c H locs 0 0 (MQ below (va_Qv (fun (_ : Unit) => True) (fun _ t => va_P D vwCl (wA cs ad Ls Hs T res dr hs o od) t.heap) (Afr ad s.heap.size)) args s 0 0 (Afr ad s.heap.size)) (F0 m 43 ls [.int s0]) := by
  unfold f_X6_speeds_b43 at h
  refine lv_istore (lv' := [(4, .int s0), (0, .ref (ad 89)), (2, .int x2), (3, .int x3)]) C.1 C.2.1 dX6_speeds_43 hl (by decide) rfl (fun ls hl => ?_)
  refine lv_aload_n C.1 C.2.1 dX6_speeds_45 rfl (lv_at hl 1 rfl) ?_
  refine k_getf C G hP r_obj rfl 0 (by decide) n_X6_speeds_X6 q_X6_speeds_0 (v := .ref (ad (89 + 1))) rfl dX6_speeds_46 ?_
  refine lv_iload_n C.1 C.2.1 dX6_speeds_49 rfl (lv_at hl 2 rfl) ?_
  refine lv_bipush (v := 7) C.1 C.2.1 dX6_speeds_50 (by decide) ?_
  obtain ⟨v1, ev1, h⟩ := lt_out h
  refine k_iadd C ev1 dX6_speeds_52 ?_
  refine lv_iload C.1 C.2.1 dX6_speeds_53 (lv_at hl 0 rfl) ?_
  refine lv_if_eq (tgt := 62) C.1 C.2.1 dX6_speeds_55 (by decide) (fun c2 => ?_) (fun c2 => ?_)
  · have h := if_t c2 h
    refine lv_iload_n C.1 C.2.1 dX6_speeds_62 rfl (lv_at hl 3 rfl) ?_
    refine lv_aload_n C.1 C.2.1 dX6_speeds_63 rfl (lv_at hl 1 rfl) ?_
    refine k_getf C G hP r_obj rfl 0 (by decide) n_X6_speeds_X6 q_X6_speeds_0 (v := .ref (ad (89 + 1))) rfl dX6_speeds_64 ?_
    refine lv_iload_n C.1 C.2.1 dX6_speeds_67 rfl (lv_at hl 2 rfl) ?_
    refine lv_iconst (v := 3) C.1 C.2.1 dX6_speeds_68 (by decide) ?_
    obtain ⟨v3, ev3, h⟩ := lt_out h
    refine k_iadd C ev3 dX6_speeds_69 ?_
    obtain ⟨g4, h⟩ := gd_out h
    have g4 := chk_in g4
    obtain ⟨v5, ev5, h⟩ := lt_out h
    refine k_iald C G hP (r_arr (k := 1) (by decide)) g4 (j := v3.toNatClampNeg) rfl ev5 dX6_speeds_70 ?_
    refine lv_icmp_lt (tgt := 78) C.1 C.2.1 dX6_speeds_71 (by decide) (fun c6 => ?_) (fun c6 => ?_)
    · have h := if_t c6 h
      refine lv_aload_n C.1 C.2.1 dX6_speeds_78 rfl (lv_at hl 1 rfl) ?_
      refine k_getf C G hP r_obj rfl 0 (by decide) n_X6_speeds_X6 q_X6_speeds_0 (v := .ref (ad (89 + 1))) rfl dX6_speeds_79 ?_
      refine lv_iload_n C.1 C.2.1 dX6_speeds_82 rfl (lv_at hl 2 rfl) ?_
      refine lv_bipush (v := 7) C.1 C.2.1 dX6_speeds_83 (by decide) ?_
      obtain ⟨v7, ev7, h⟩ := lt_out h
      refine k_iadd C ev7 dX6_speeds_85 ?_
      obtain ⟨g8, h⟩ := gd_out h
      have g8 := chk_in g8
      obtain ⟨v9, ev9, h⟩ := lt_out h
      refine k_iald C G hP (r_arr (k := 1) (by decide)) g8 (j := v7.toNatClampNeg) rfl ev9 dX6_speeds_86 ?_
      obtain ⟨g10, h⟩ := gd_out h
      have g10 := chk_in g10
      obtain ⟨M11, eM11, h⟩ := lt_out h
      refine k_iast C G hP hS (r_arr (k := 1) (by decide)) g10 (j := v1.toNatClampNeg) rfl (r_arrS (k := 1) (by decide)) dX6_speeds_87 (fun H locs hP hS => ?_)
      rw [← eM11] at hP
      cases h
      exact k_vret C hP hS dX6_speeds_88
    · have h := if_f c6 h
      refine lv_iconst (v := 0) C.1 C.2.1 dX6_speeds_74 (by decide) ?_
      refine lv_goto (tgt := 87) C.1 C.2.1 dX6_speeds_75 (by decide) ?_
      obtain ⟨g12, h⟩ := gd_out h
      have g12 := chk_in g12
      obtain ⟨M13, eM13, h⟩ := lt_out h
      refine k_iast C G hP hS (r_arr (k := 1) (by decide)) g12 (j := v1.toNatClampNeg) rfl (r_arrS (k := 1) (by decide)) dX6_speeds_87 (fun H locs hP hS => ?_)
      rw [← eM13] at hP
      cases h
      exact k_vret C hP hS dX6_speeds_88
  · have h := if_f c2 h
    refine lv_iconst (v := 1) C.1 C.2.1 dX6_speeds_58 (by decide) ?_
    refine lv_goto (tgt := 87) C.1 C.2.1 dX6_speeds_59 (by decide) ?_
    obtain ⟨g14, h⟩ := gd_out h
    have g14 := chk_in g14
    obtain ⟨M15, eM15, h⟩ := lt_out h
    refine k_iast C G hP hS (r_arr (k := 1) (by decide)) g14 (j := v1.toNatClampNeg) rfl (r_arrS (k := 1) (by decide)) dX6_speeds_87 (fun H locs hP hS => ?_)
    rw [← eM15] at hP
    cases h
    exact k_vret C hP hS dX6_speeds_88
set_option maxRecDepth 100000 in
set_option maxHeartbeats 4000000 in
theorem w_X6_speeds_b38 {res : SL} (C : Cx p s m args meth c cX6_speeds 5 none RX6 wsX6_speeds) (G : Gx D cs ad s) {Ls : Nat → SL} {Hs : SL} {T : SL} {dr : Int64} {hs : Int64} {o : Int64} {od : UInt64} {M : SL} {x2 : Int32} {x3 : Int32} {H : Heap} {locs : List Loc} {ls : Array Slot} (hP : va_P D vwCl (wA cs ad Ls Hs T M dr hs o od) H) (hS : va_S (Afr ad s.heap.size) s.heap H locs) (hl : lv_has ls 5 [(0, .ref (ad 89)), (2, .int x2), (3, .int x3)]) (h : f_X6_speeds_b38 M x2 x3 = some res) : W p l e rmX6_speeds s m args below meth c H locs 0 0 (MQ below (va_Qv (fun (_ : Unit) => True) (fun _ t => va_P D vwCl (wA cs ad Ls Hs T res dr hs o od) t.heap) (Afr ad s.heap.size)) args s 0 0 (Afr ad s.heap.size)) (F0 m 38 ls []) := by
  unfold f_X6_speeds_b38 at h
  refine lv_iconst (v := 1) C.1 C.2.1 dX6_speeds_38 (by decide) ?_
  refine lv_goto (tgt := 43) C.1 C.2.1 dX6_speeds_39 (by decide) ?_
  exact w_X6_speeds_b43 C G hP hS (lv_sub hl [0, 1, 2] rfl) h
set_option maxRecDepth 100000 in
set_option maxHeartbeats 4000000 in
theorem w_X6_speeds_e {res : SL} (C : Cx p s m args meth c cX6_speeds 5 none RX6 wsX6_speeds) (G : Gx D cs ad s) {Ls : Nat → SL} {Hs : SL} {T : SL} {dr : Int64} {hs : Int64} {o : Int64} {od : UInt64} {M : SL} {x1 : Int32} {H : Heap} {locs : List Loc} {ls : Array Slot} (hP : va_P D vwCl (wA cs ad Ls Hs T M dr hs o od) H) (hS : va_S (Afr ad s.heap.size) s.heap H locs) (hl : lv_has ls 5 [(0, .ref (ad 89)), (1, .int x1)]) (h : f_X6_speeds M x1 = some res) : W p l e rmX6_speeds s m args below meth c H locs 0 0 (MQ below (va_Qv (fun (_ : Unit) => True) (fun _ t => va_P D vwCl (wA cs ad Ls Hs T res dr hs o od) t.heap) (Afr ad s.heap.size)) args s 0 0 (Afr ad s.heap.size)) (F0 m 0 ls []) := by
  unfold f_X6_speeds at h
  refine lv_iload_n C.1 C.2.1 dX6_speeds_0 rfl (lv_at hl 1 rfl) ?_
  obtain ⟨r1, c2, h⟩ := bd_out h
  refine k_callSi C G hP hS (m_X6_of l G.2.1 _  c2) (va_cwS 1 C.2.2.2.2.2.1 gX6_speeds_X6_of rfl rfl rfl (by decide +kernel) ⟨Nat.le_of_ble_eq_true rfl, Nat.le_of_ble_eq_true rfl⟩) (As := [.int x1]) rfl hl.1 rfl (Nat.le_of_ble_eq_true rfl) dX6_speeds_1 ⟨Nat.le_of_ble_eq_true rfl, Nat.le_of_ble_eq_true rfl⟩ (fun H locs hP hS => ?_)
  refine lv_istore_n (lv' := [(2, .int r1), (0, .ref (ad 89)), (1, .int x1)]) C.1 C.2.1 dX6_speeds_4 rfl hl (by decide) rfl (fun ls hl => ?_)
  refine lv_aload_n C.1 C.2.1 dX6_speeds_5 rfl (lv_at hl 1 rfl) ?_
  refine k_getf C G hP r_obj rfl 0 (by decide) n_X6_speeds_X6 q_X6_speeds_0 (v := .ref (ad (89 + 1))) rfl dX6_speeds_6 ?_
  refine lv_iload_n C.1 C.2.1 dX6_speeds_9 rfl (lv_at hl 0 rfl) ?_
  refine lv_iconst (v := 5) C.1 C.2.1 dX6_speeds_10 (by decide) ?_
  obtain ⟨v3, ev3, h⟩ := lt_out h
  refine k_iadd C ev3 dX6_speeds_11 ?_
  obtain ⟨g4, h⟩ := gd_out h
  have g4 := chk_in g4
  obtain ⟨v5, ev5, h⟩ := lt_out h
  refine k_iald C G hP (r_arr (k := 1) (by decide)) g4 (j := v3.toNatClampNeg) rfl ev5 dX6_speeds_12 ?_
  refine lv_istore_n (lv' := [(3, .int v5), (2, .int r1), (0, .ref (ad 89)), (1, .int x1)]) C.1 C.2.1 dX6_speeds_13 rfl hl (by decide) rfl (fun ls hl => ?_)
  refine lv_iload_n C.1 C.2.1 dX6_speeds_14 rfl (lv_at hl 3 rfl) ?_
  refine lv_aload_n C.1 C.2.1 dX6_speeds_15 rfl (lv_at hl 2 rfl) ?_
  refine k_getf C G hP r_obj rfl 0 (by decide) n_X6_speeds_X6 q_X6_speeds_0 (v := .ref (ad (89 + 1))) rfl dX6_speeds_16 ?_
  refine lv_iconst (v := 0) C.1 C.2.1 dX6_speeds_19 (by decide) ?_
  obtain ⟨v6, ev6, h⟩ := lt_out h
  refine k_iald C G hP (r_arr (k := 1) (by decide)) (chk_in rfl) (j := 0) rfl ev6 dX6_speeds_20 ?_
  refine lv_iconst (v := 1) C.1 C.2.1 dX6_speeds_21 (by decide) ?_
  obtain ⟨v7, ev7, h⟩ := lt_out h
  refine k_isub C ev7 dX6_speeds_22 ?_
  refine lv_icmp_eq (tgt := 38) C.1 C.2.1 dX6_speeds_23 (by decide) (fun c8 => ?_) (fun c8 => ?_)
  · have h := if_t c8 h
    exact w_X6_speeds_b38 C G hP hS (lv_sub hl [2, 1, 0] rfl) h
  · have h := if_f c8 h
    refine lv_iload_n C.1 C.2.1 dX6_speeds_26 rfl (lv_at hl 0 rfl) ?_
    refine lv_aload_n C.1 C.2.1 dX6_speeds_27 rfl (lv_at hl 2 rfl) ?_
    refine k_getf C G hP r_obj rfl 0 (by decide) n_X6_speeds_X6 q_X6_speeds_0 (v := .ref (ad (89 + 1))) rfl dX6_speeds_28 ?_
    refine lv_iload_n C.1 C.2.1 dX6_speeds_31 rfl (lv_at hl 1 rfl) ?_
    refine lv_iconst (v := 2) C.1 C.2.1 dX6_speeds_32 (by decide) ?_
    obtain ⟨v9, ev9, h⟩ := lt_out h
    refine k_iadd C ev9 dX6_speeds_33 ?_
    obtain ⟨g10, h⟩ := gd_out h
    have g10 := chk_in g10
    obtain ⟨v11, ev11, h⟩ := lt_out h
    refine k_iald C G hP (r_arr (k := 1) (by decide)) g10 (j := v9.toNatClampNeg) rfl ev11 dX6_speeds_34 ?_
    refine lv_icmp_gt (tgt := 42) C.1 C.2.1 dX6_speeds_35 (by decide) (fun c12 => ?_) (fun c12 => ?_)
    · have h := if_t c12 h
      refine lv_iconst (v := 0) C.1 C.2.1 dX6_speeds_42 (by decide) ?_
      exact w_X6_speeds_b43 C G hP hS (lv_sub hl [2, 1, 0] rfl) h
    · have h := if_f c12 h
      exact w_X6_speeds_b38 C G hP hS (lv_sub hl [2, 1, 0] rfl) h
set_option maxRecDepth 100000 in
set_option maxHeartbeats 4000000 in
theorem m_X6_speeds (l : Launch) {D : va_G} {cs : Nat → ClassId} {ad : Nat → Nat} (hAd : adOK ad) (sz : Nat) {Ls : Nat → SL} {Hs : SL} {T : SL} {M : SL} {dr : Int64} {hs : Int64} {o : Int64} {od : UInt64} {x1 : Int32} {res : SL} (h : f_X6_speeds M x1 = some res) : Met l yX6_speeds wsX6_speeds rmX6_speeds (PA D cs sz (wA cs ad Ls Hs T M dr hs o od) [.ref (ad 89), .int x1]) (va_Qv (fun (_ : Unit) => True) (fun _ t => va_P D vwCl (wA cs ad Ls Hs T res dr hs o od) t.heap) (Afr ad sz)) 0 0 (Afr ad sz) :=
  k_met (by decide) rfl (Nat.le_of_ble_eq_true rfl) hAd (fun p e s m below meth c ls C G hP hsz hl hS => by
    subst hsz
    exact w_X6_speeds_e C G  hP hS hl  h)
/-! X6 leaves -/
abbrev rmX6_leaves : Room := { frames := 1, cells := 0, slots := 0, locals := 22 }
theorem q_X6_leaves_0 : Cond.fieldLink RX6 7 "LineBuffersModel" "now" "[I" ∈ wsX6_leaves := List.mem_of_getElem? (i := 1) rfl
theorem n_X6_leaves_X6 : ∀ x ∈ u_ws RX6 TX6 12, x ∈ wsX6_leaves := fun x h => List.mem_cons_of_mem _ (List.mem_append_right _ h)
set_option maxRecDepth 100000 in
set_option maxHeartbeats 4000000 in
theorem w_X6_leaves_b118 {res : SL} (C : Cx p s m args meth c cX6_leaves 6 none RX6 wsX6_leaves) (G : Gx D cs ad s) {Ls : Nat → SL} {Hs : SL} {T : SL} {dr : Int64} {hs : Int64} {o : Int64} {od : UInt64} {M : SL} {x3 : Int32} {x5 : Int32} {H : Heap} {locs : List Loc} {ls : Array Slot} (hP : va_P D vwCl (wA cs ad Ls Hs T M dr hs o od) H) (hS : va_S (Afr ad s.heap.size) s.heap H locs) (hl : lv_has ls 6 [(0, .ref (ad 89)), (3, .int x3), (5, .int x5)]) (h : f_X6_leaves_b118 M x3 x5 = some res) : W p l e rmX6_leaves s m args below meth c H locs 0 0 (MQ below (va_Qv (fun (_ : Unit) => True) (fun _ t => va_P D vwCl (wA cs ad Ls Hs T res dr hs o od) t.heap) (Afr ad s.heap.size)) args s 0 0 (Afr ad s.heap.size)) (F0 m 118 ls []) := by
  unfold f_X6_leaves_b118 at h
  refine lv_iload C.1 C.2.1 dX6_leaves_118 (lv_at hl 2 rfl) ?_
  refine lv_if_eq (tgt := 148) C.1 C.2.1 dX6_leaves_120 (by decide) (fun c1 => ?_) (fun c1 => ?_)
  · have h := if_t c1 h
    cases h
    exact k_vret C hP hS dX6_leaves_148
  · have h := if_f c1 h
    refine lv_aload_n C.1 C.2.1 dX6_leaves_123 rfl (lv_at hl 0 rfl) ?_
    refine k_getf C G hP r_obj rfl 0 (by decide) n_X6_leaves_X6 q_X6_leaves_0 (v := .ref (ad (89 + 1))) rfl dX6_leaves_124 ?_
    refine lv_iload_n C.1 C.2.1 dX6_leaves_127 rfl (lv_at hl 1 rfl) ?_
    refine lv_bipush (v := 6) C.1 C.2.1 dX6_leaves_128 (by decide) ?_
    obtain ⟨v2, ev2, h⟩ := lt_out h
    refine k_iadd C ev2 dX6_leaves_130 ?_
    refine lv_iconst (v := (-1)) C.1 C.2.1 dX6_leaves_131 (by decide) ?_
    obtain ⟨g3, h⟩ := gd_out h
    have g3 := chk_in g3
    obtain ⟨M4, eM4, h⟩ := lt_out h
    refine k_iast C G hP hS (r_arr (k := 1) (by decide)) g3 (j := v2.toNatClampNeg) rfl (r_arrS (k := 1) (by decide)) dX6_leaves_132 (fun H locs hP hS => ?_)
    rw [← eM4] at hP
    refine lv_aload_n C.1 C.2.1 dX6_leaves_133 rfl (lv_at hl 0 rfl) ?_
    refine k_getf C G hP r_obj rfl 0 (by decide) n_X6_leaves_X6 q_X6_leaves_0 (v := .ref (ad (89 + 1))) rfl dX6_leaves_134 ?_
    refine lv_iload_n C.1 C.2.1 dX6_leaves_137 rfl (lv_at hl 1 rfl) ?_
    refine lv_bipush (v := 9) C.1 C.2.1 dX6_leaves_138 (by decide) ?_
    obtain ⟨v5, ev5, h⟩ := lt_out h
    refine k_iadd C ev5 dX6_leaves_140 ?_
    refine lv_iconst (v := 4) C.1 C.2.1 dX6_leaves_141 (by decide) ?_
    obtain ⟨v6, ev6, h⟩ := lt_out h
    refine k_iadd C ev6 dX6_leaves_142 ?_
    refine lv_dup2_11 C.1 C.2.1 dX6_leaves_143 rfl rfl ?_
    obtain ⟨g7, h⟩ := gd_out h
    have g7 := chk_in g7
    obtain ⟨v8, ev8, h⟩ := lt_out h
    refine k_iald C G hP (r_arr (k := 1) (by decide)) g7 (j := v6.toNatClampNeg) rfl ev8 dX6_leaves_144 ?_
    refine lv_iconst (v := 1) C.1 C.2.1 dX6_leaves_145 (by decide) ?_
    obtain ⟨v9, ev9, h⟩ := lt_out h
    refine k_iadd C ev9 dX6_leaves_146 ?_
    obtain ⟨M10, eM10, h⟩ := lt_out h
    refine k_iast C G hP hS (r_arr (k := 1) (by decide)) g7 (j := v6.toNatClampNeg) rfl (r_arrS (k := 1) (by decide)) dX6_leaves_147 (fun H locs hP hS => ?_)
    rw [← eM10] at hP
    cases h
    exact k_vret C hP hS dX6_leaves_148
set_option maxRecDepth 100000 in
set_option maxHeartbeats 4000000 in
theorem w_X6_leaves_b81 {res : SL} (C : Cx p s m args meth c cX6_leaves 6 none RX6 wsX6_leaves) (G : Gx D cs ad s) {Ls : Nat → SL} {Hs : SL} {T : SL} {dr : Int64} {hs : Int64} {o : Int64} {od : UInt64} {M : SL} {x3 : Int32} {x5 : Int32} {H : Heap} {locs : List Loc} {ls : Array Slot} (hP : va_P D vwCl (wA cs ad Ls Hs T M dr hs o od) H) (hS : va_S (Afr ad s.heap.size) s.heap H locs) (hl : lv_has ls 6 [(0, .ref (ad 89)), (3, .int x3), (5, .int x5)]) (h : f_X6_leaves_b81 M x3 x5 = some res) : W p l e rmX6_leaves s m args below meth c H locs 0 0 (MQ below (va_Qv (fun (_ : Unit) => True) (fun _ t => va_P D vwCl (wA cs ad Ls Hs T res dr hs o od) t.heap) (Afr ad s.heap.size)) args s 0 0 (Afr ad s.heap.size)) (F0 m 81 ls []) := by
  unfold f_X6_leaves_b81 at h
  refine lv_aload_n C.1 C.2.1 dX6_leaves_81 rfl (lv_at hl 0 rfl) ?_
  refine k_getf C G hP r_obj rfl 0 (by decide) n_X6_leaves_X6 q_X6_leaves_0 (v := .ref (ad (89 + 1))) rfl dX6_leaves_82 ?_
  refine lv_iload_n C.1 C.2.1 dX6_leaves_85 rfl (lv_at hl 1 rfl) ?_
  refine lv_iconst (v := 5) C.1 C.2.1 dX6_leaves_86 (by decide) ?_
  obtain ⟨v1, ev1, h⟩ := lt_out h
  refine k_iadd C ev1 dX6_leaves_87 ?_
  obtain ⟨g2, h⟩ := gd_out h
  have g2 := chk_in g2
  obtain ⟨v3, ev3, h⟩ := lt_out h
  refine k_iald C G hP (r_arr (k := 1) (by decide)) g2 (j := v1.toNatClampNeg) rfl ev3 dX6_leaves_88 ?_
  refine lv_aload_n C.1 C.2.1 dX6_leaves_89 rfl (lv_at hl 0 rfl) ?_
  refine k_getf C G hP r_obj rfl 0 (by decide) n_X6_leaves_X6 q_X6_leaves_0 (v := .ref (ad (89 + 1))) rfl dX6_leaves_90 ?_
  refine lv_iload_n C.1 C.2.1 dX6_leaves_93 rfl (lv_at hl 1 rfl) ?_
  refine lv_iconst (v := 4) C.1 C.2.1 dX6_leaves_94 (by decide) ?_
  obtain ⟨v4, ev4, h⟩ := lt_out h
  refine k_iadd C ev4 dX6_leaves_95 ?_
  obtain ⟨g5, h⟩ := gd_out h
  have g5 := chk_in g5
  obtain ⟨v6, ev6, h⟩ := lt_out h
  refine k_iald C G hP (r_arr (k := 1) (by decide)) g5 (j := v4.toNatClampNeg) rfl ev6 dX6_leaves_96 ?_
  refine lv_icmp_ge (tgt := 115) C.1 C.2.1 dX6_leaves_97 (by decide) (fun c7 => ?_) (fun c7 => ?_)
  · have h := if_t c7 h
    refine lv_iconst (v := 0) C.1 C.2.1 dX6_leaves_115 (by decide) ?_
    refine lv_istore (lv' := [(5, .int 0), (0, .ref (ad 89)), (3, .int x3)]) C.1 C.2.1 dX6_leaves_116 hl (by decide) rfl (fun ls hl => ?_)
    exact w_X6_leaves_b118 C G hP hS (lv_sub hl [1, 2, 0] rfl) h
  · have h := if_f c7 h
    refine lv_aload_n C.1 C.2.1 dX6_leaves_100 rfl (lv_at hl 0 rfl) ?_
    refine k_getf C G hP r_obj rfl 0 (by decide) n_X6_leaves_X6 q_X6_leaves_0 (v := .ref (ad (89 + 1))) rfl dX6_leaves_101 ?_
    refine lv_iload_n C.1 C.2.1 dX6_leaves_104 rfl (lv_at hl 1 rfl) ?_
    refine lv_iconst (v := 5) C.1 C.2.1 dX6_leaves_105 (by decide) ?_
    obtain ⟨v8, ev8, h⟩ := lt_out h
    refine k_iadd C ev8 dX6_leaves_106 ?_
    refine lv_dup2_11 C.1 C.2.1 dX6_leaves_107 rfl rfl ?_
    obtain ⟨g9, h⟩ := gd_out h
    have g9 := chk_in g9
    obtain ⟨v10, ev10, h⟩ := lt_out h
    refine k_iald C G hP (r_arr (k := 1) (by decide)) g9 (j := v8.toNatClampNeg) rfl ev10 dX6_leaves_108 ?_
    refine lv_iconst (v := 1) C.1 C.2.1 dX6_leaves_109 (by decide) ?_
    obtain ⟨v11, ev11, h⟩ := lt_out h
    refine k_iadd C ev11 dX6_leaves_110 ?_
    obtain ⟨M12, eM12, h⟩ := lt_out h
    refine k_iast C G hP hS (r_arr (k := 1) (by decide)) g9 (j := v8.toNatClampNeg) rfl (r_arrS (k := 1) (by decide)) dX6_leaves_111 (fun H locs hP hS => ?_)
    rw [← eM12] at hP
    refine lv_goto (tgt := 118) C.1 C.2.1 dX6_leaves_112 (by decide) ?_
    exact w_X6_leaves_b118 C G hP hS (lv_sub hl [0, 1, 2] rfl) h
set_option maxRecDepth 100000 in
set_option maxHeartbeats 4000000 in
theorem w_X6_leaves_e {res : SL} (C : Cx p s m args meth c cX6_leaves 6 none RX6 wsX6_leaves) (G : Gx D cs ad s) {Ls : Nat → SL} {Hs : SL} {T : SL} {dr : Int64} {hs : Int64} {o : Int64} {od : UInt64} {M : SL} {x1 : Int32} {x2 : Int32} {H : Heap} {locs : List Loc} {ls : Array Slot} (hP : va_P D vwCl (wA cs ad Ls Hs T M dr hs o od) H) (hS : va_S (Afr ad s.heap.size) s.heap H locs) (hl : lv_has ls 6 [(0, .ref (ad 89)), (1, .int x1), (2, .int x2)]) (h : f_X6_leaves M x1 x2 = some res) : W p l e rmX6_leaves s m args below meth c H locs 0 0 (MQ below (va_Qv (fun (_ : Unit) => True) (fun _ t => va_P D vwCl (wA cs ad Ls Hs T res dr hs o od) t.heap) (Afr ad s.heap.size)) args s 0 0 (Afr ad s.heap.size)) (F0 m 0 ls []) := by
  unfold f_X6_leaves at h
  refine lv_iload_n C.1 C.2.1 dX6_leaves_0 rfl (lv_at hl 1 rfl) ?_
  obtain ⟨r1, c2, h⟩ := bd_out h
  refine k_callSi C G hP hS (m_X6_of l G.2.1 _  c2) (va_cwS 1 C.2.2.2.2.2.1 gX6_leaves_X6_of rfl rfl rfl (by decide +kernel) ⟨Nat.le_of_ble_eq_true rfl, Nat.le_of_ble_eq_true rfl⟩) (As := [.int x1]) rfl hl.1 rfl (Nat.le_of_ble_eq_true rfl) dX6_leaves_1 ⟨Nat.le_of_ble_eq_true rfl, Nat.le_of_ble_eq_true rfl⟩ (fun H locs hP hS => ?_)
  refine lv_istore_n (lv' := [(3, .int r1), (0, .ref (ad 89)), (1, .int x1), (2, .int x2)]) C.1 C.2.1 dX6_leaves_4 rfl hl (by decide) rfl (fun ls hl => ?_)
  refine lv_iload_n C.1 C.2.1 dX6_leaves_5 rfl (lv_at hl 0 rfl) ?_
  refine lv_bipush (v := 16) C.1 C.2.1 dX6_leaves_6 (by decide) ?_
  obtain ⟨v3, ev3, h⟩ := lt_out h
  refine k_iadd C ev3 dX6_leaves_8 ?_
  refine lv_istore (lv' := [(4, .int v3), (3, .int r1), (0, .ref (ad 89)), (1, .int x1), (2, .int x2)]) C.1 C.2.1 dX6_leaves_9 hl (by decide) rfl (fun ls hl => ?_)
  refine lv_iconst (v := 1) C.1 C.2.1 dX6_leaves_11 (by decide) ?_
  refine lv_istore (lv' := [(5, .int 1), (4, .int v3), (3, .int r1), (0, .ref (ad 89)), (1, .int x1), (2, .int x2)]) C.1 C.2.1 dX6_leaves_12 hl (by decide) rfl (fun ls hl => ?_)
  refine lv_iload_n C.1 C.2.1 dX6_leaves_14 rfl (lv_at hl 4 rfl) ?_
  refine lv_aload_n C.1 C.2.1 dX6_leaves_15 rfl (lv_at hl 3 rfl) ?_
  refine k_getf C G hP r_obj rfl 0 (by decide) n_X6_leaves_X6 q_X6_leaves_0 (v := .ref (ad (89 + 1))) rfl dX6_leaves_16 ?_
  refine lv_iconst (v := 0) C.1 C.2.1 dX6_leaves_19 (by decide) ?_
  obtain ⟨v4, ev4, h⟩ := lt_out h
  refine k_iald C G hP (r_arr (k := 1) (by decide)) (chk_in rfl) (j := 0) rfl ev4 dX6_leaves_20 ?_
  refine lv_iconst (v := 1) C.1 C.2.1 dX6_leaves_21 (by decide) ?_
  obtain ⟨v5, ev5, h⟩ := lt_out h
  refine k_isub C ev5 dX6_leaves_22 ?_
  refine lv_icmp_ge (tgt := 118) C.1 C.2.1 dX6_leaves_23 (by decide) (fun c6 => ?_) (fun c6 => ?_)
  · have h := if_t c6 h
    exact w_X6_leaves_b118 C G hP hS (lv_sub hl [3, 2, 0] rfl) h
  · have h := if_f c6 h
    refine lv_aload_n C.1 C.2.1 dX6_leaves_26 rfl (lv_at hl 3 rfl) ?_
    refine k_getf C G hP r_obj rfl 0 (by decide) n_X6_leaves_X6 q_X6_leaves_0 (v := .ref (ad (89 + 1))) rfl dX6_leaves_27 ?_
    refine lv_iload_n C.1 C.2.1 dX6_leaves_30 rfl (lv_at hl 2 rfl) ?_
    refine lv_iconst (v := 5) C.1 C.2.1 dX6_leaves_31 (by decide) ?_
    obtain ⟨v7, ev7, h⟩ := lt_out h
    refine k_iadd C ev7 dX6_leaves_32 ?_
    obtain ⟨g8, h⟩ := gd_out h
    have g8 := chk_in g8
    obtain ⟨v9, ev9, h⟩ := lt_out h
    refine k_iald C G hP (r_arr (k := 1) (by decide)) g8 (j := v7.toNatClampNeg) rfl ev9 dX6_leaves_33 ?_
    refine lv_if_ne (tgt := 81) C.1 C.2.1 dX6_leaves_34 (by decide) (fun c10 => ?_) (fun c10 => ?_)
    · have h := if_t c10 h
      exact w_X6_leaves_b81 C G hP hS (lv_sub hl [3, 2, 0] rfl) h
    · have h := if_n c10 h
      refine lv_aload_n C.1 C.2.1 dX6_leaves_37 rfl (lv_at hl 3 rfl) ?_
      refine k_getf C G hP r_obj rfl 0 (by decide) n_X6_leaves_X6 q_X6_leaves_0 (v := .ref (ad (89 + 1))) rfl dX6_leaves_38 ?_
      refine lv_iload C.1 C.2.1 dX6_leaves_41 (lv_at hl 1 rfl) ?_
      refine lv_bipush (v := 6) C.1 C.2.1 dX6_leaves_43 (by decide) ?_
      obtain ⟨v11, ev11, h⟩ := lt_out h
      refine k_iadd C ev11 dX6_leaves_45 ?_
      obtain ⟨g12, h⟩ := gd_out h
      have g12 := chk_in g12
      obtain ⟨v13, ev13, h⟩ := lt_out h
      refine k_iald C G hP (r_arr (k := 1) (by decide)) g12 (j := v11.toNatClampNeg) rfl ev13 dX6_leaves_46 ?_
      refine lv_iconst (v := (-1)) C.1 C.2.1 dX6_leaves_47 (by decide) ?_
      refine lv_icmp_ne (tgt := 81) C.1 C.2.1 dX6_leaves_48 (by decide) (fun c14 => ?_) (fun c14 => ?_)
      · have h := if_t c14 h
        exact w_X6_leaves_b81 C G hP hS (lv_sub hl [3, 2, 0] rfl) h
      · have h := if_n c14 h
        refine lv_aload_n C.1 C.2.1 dX6_leaves_51 rfl (lv_at hl 3 rfl) ?_
        refine lv_iload_n C.1 C.2.1 dX6_leaves_52 rfl (lv_at hl 4 rfl) ?_
        refine lv_iconst (v := 1) C.1 C.2.1 dX6_leaves_53 (by decide) ?_
        obtain ⟨v15, ev15, h⟩ := lt_out h
        refine k_iadd C ev15 dX6_leaves_54 ?_
        refine lv_iload_n C.1 C.2.1 dX6_leaves_55 rfl (lv_at hl 5 rfl) ?_
        obtain ⟨r16, c17, h⟩ := bd_out h
        refine k_callVi C G hP hS (m_X6_isDown l G.2.1 _  c17) r_obj rfl (cwV 2 C.2.2.2.2.2.1 gX6_leaves_X6_isDown rfl rfl rfl (by decide +kernel) ⟨Nat.le_of_ble_eq_true rfl, Nat.le_of_ble_eq_true rfl⟩) (As := [.int v15, .int x2]) rfl hl.1 rfl (Nat.le_of_ble_eq_true rfl) dX6_leaves_56 ⟨Nat.le_of_ble_eq_true rfl, Nat.le_of_ble_eq_true rfl⟩ (fun H locs hP hS => ?_)
        refine lv_if_ne (tgt := 81) C.1 C.2.1 dX6_leaves_59 (by decide) (fun c18 => ?_) (fun c18 => ?_)
        · have h := if_t c18 h
          exact w_X6_leaves_b81 C G hP hS (lv_sub hl [3, 2, 0] rfl) h
        · have h := if_n c18 h
          refine lv_aload_n C.1 C.2.1 dX6_leaves_62 rfl (lv_at hl 3 rfl) ?_
          refine k_getf C G hP r_obj rfl 0 (by decide) n_X6_leaves_X6 q_X6_leaves_0 (v := .ref (ad (89 + 1))) rfl dX6_leaves_63 ?_
          refine lv_iload C.1 C.2.1 dX6_leaves_66 (lv_at hl 1 rfl) ?_
          refine lv_bipush (v := 6) C.1 C.2.1 dX6_leaves_68 (by decide) ?_
          obtain ⟨v19, ev19, h⟩ := lt_out h
          refine k_iadd C ev19 dX6_leaves_70 ?_
          refine lv_aload_n C.1 C.2.1 dX6_leaves_71 rfl (lv_at hl 3 rfl) ?_
          refine lv_iload C.1 C.2.1 dX6_leaves_72 (lv_at hl 1 rfl) ?_
          obtain ⟨r20, c21, h⟩ := bd_out h
          refine k_callVi C G hP hS (m_X6_cycle l G.2.1 _  c21) r_obj rfl (cwV 1 C.2.2.2.2.2.1 gX6_leaves_X6_cycle rfl rfl rfl (by decide +kernel) ⟨Nat.le_of_ble_eq_true rfl, Nat.le_of_ble_eq_true rfl⟩) (As := [.int v3]) rfl hl.1 rfl (Nat.le_of_ble_eq_true rfl) dX6_leaves_74 ⟨Nat.le_of_ble_eq_true rfl, Nat.le_of_ble_eq_true rfl⟩ (fun H locs hP hS => ?_)
          obtain ⟨g22, h⟩ := gd_out h
          have g22 := chk_in g22
          obtain ⟨M23, eM23, h⟩ := lt_out h
          refine k_iast C G hP hS (r_arr (k := 1) (by decide)) g22 (j := v19.toNatClampNeg) rfl (r_arrS (k := 1) (by decide)) dX6_leaves_77 (fun H locs hP hS => ?_)
          rw [← eM23] at hP
          refine lv_goto (tgt := 118) C.1 C.2.1 dX6_leaves_78 (by decide) ?_
          exact w_X6_leaves_b118 C G hP hS (lv_sub hl [3, 2, 0] rfl) h
set_option maxRecDepth 100000 in
set_option maxHeartbeats 4000000 in
theorem m_X6_leaves (l : Launch) {D : va_G} {cs : Nat → ClassId} {ad : Nat → Nat} (hAd : adOK ad) (sz : Nat) {Ls : Nat → SL} {Hs : SL} {T : SL} {M : SL} {dr : Int64} {hs : Int64} {o : Int64} {od : UInt64} {x1 : Int32} {x2 : Int32} {res : SL} (h : f_X6_leaves M x1 x2 = some res) : Met l yX6_leaves wsX6_leaves rmX6_leaves (PA D cs sz (wA cs ad Ls Hs T M dr hs o od) [.ref (ad 89), .int x1, .int x2]) (va_Qv (fun (_ : Unit) => True) (fun _ t => va_P D vwCl (wA cs ad Ls Hs T res dr hs o od) t.heap) (Afr ad sz)) 0 0 (Afr ad sz) :=
  k_met (by decide) rfl (Nat.le_of_ble_eq_true rfl) hAd (fun p e s m below meth c ls C G hP hsz hl hS => by
    subst hsz
    exact w_X6_leaves_e C G  hP hS hl  h)
/-! X6 takes -/
abbrev rmX6_takes : Room := { frames := 1, cells := 0, slots := 0, locals := 21 }
theorem q_X6_takes_0 : Cond.fieldLink RX6 7 "LineBuffersModel" "now" "[I" ∈ wsX6_takes := List.mem_of_getElem? (i := 1) rfl
theorem n_X6_takes_X6 : ∀ x ∈ u_ws RX6 TX6 12, x ∈ wsX6_takes := fun x h => List.mem_cons_of_mem _ (List.mem_append_right _ h)
set_option maxRecDepth 100000 in
set_option maxHeartbeats 4000000 in
theorem w_X6_takes_b28 {res : SL} (C : Cx p s m args meth c cX6_takes 4 none RX6 wsX6_takes) (G : Gx D cs ad s) {Ls : Nat → SL} {Hs : SL} {T : SL} {dr : Int64} {hs : Int64} {o : Int64} {od : UInt64} {M : SL} {x1 : Int32} {x2 : Int32} {s0 : Int32} {H : Heap} {locs : List Loc} {ls : Array Slot} (hP : va_P D vwCl (wA cs ad Ls Hs T M dr hs o od) H) (hS : va_S (Afr ad s.heap.size) s.heap H locs) (hl : lv_has ls 4 [(0, .ref (ad 89)), (1, .int x1), (2, .int x2)]) (h : f_X6_takes_b28 M x1 x2 s0 = some res) : W p l e rmX6_takes s m args below meth c H locs 0 0 (MQ below (va_Qv (fun (_ : Unit) => True) (fun _ t => va_P D vwCl (wA cs ad Ls Hs T res dr hs o od) t.heap) (Afr ad s.heap.size)) args s 0 0 (Afr ad s.heap.size)) (F0 m 28 ls [.int s0]) := by
  unfold f_X6_takes_b28 at h
  refine lv_istore_n (lv' := [(3, .int s0), (0, .ref (ad 89)), (1, .int x1), (2, .int x2)]) C.1 C.2.1 dX6_takes_28 rfl hl (by decide) rfl (fun ls hl => ?_)
  refine lv_iload_n C.1 C.2.1 dX6_takes_29 rfl (lv_at hl 0 rfl) ?_
  refine lv_if_eq (tgt := 66) C.1 C.2.1 dX6_takes_30 (by decide) (fun c1 => ?_) (fun c1 => ?_)
  · have h := if_t c1 h
    cases h
    exact k_vret C hP hS dX6_takes_66
  · have h := if_f c1 h
    refine lv_aload_n C.1 C.2.1 dX6_takes_33 rfl (lv_at hl 1 rfl) ?_
    refine k_getf C G hP r_obj rfl 0 (by decide) n_X6_takes_X6 q_X6_takes_0 (v := .ref (ad (89 + 1))) rfl dX6_takes_34 ?_
    refine lv_iload_n C.1 C.2.1 dX6_takes_37 rfl (lv_at hl 3 rfl) ?_
    refine lv_bipush (v := 6) C.1 C.2.1 dX6_takes_38 (by decide) ?_
    obtain ⟨v2, ev2, h⟩ := lt_out h
    refine k_iadd C ev2 dX6_takes_40 ?_
    refine lv_aload_n C.1 C.2.1 dX6_takes_41 rfl (lv_at hl 1 rfl) ?_
    refine lv_iload_n C.1 C.2.1 dX6_takes_42 rfl (lv_at hl 3 rfl) ?_
    obtain ⟨r3, c4, h⟩ := bd_out h
    refine k_callVi C G hP hS (m_X6_cycle l G.2.1 _  c4) r_obj rfl (cwV 1 C.2.2.2.2.2.1 gX6_takes_X6_cycle rfl rfl rfl (by decide +kernel) ⟨Nat.le_of_ble_eq_true rfl, Nat.le_of_ble_eq_true rfl⟩) (As := [.int x2]) rfl hl.1 rfl (Nat.le_of_ble_eq_true rfl) dX6_takes_43 ⟨Nat.le_of_ble_eq_true rfl, Nat.le_of_ble_eq_true rfl⟩ (fun H locs hP hS => ?_)
    obtain ⟨g5, h⟩ := gd_out h
    have g5 := chk_in g5
    obtain ⟨M6, eM6, h⟩ := lt_out h
    refine k_iast C G hP hS (r_arr (k := 1) (by decide)) g5 (j := v2.toNatClampNeg) rfl (r_arrS (k := 1) (by decide)) dX6_takes_46 (fun H locs hP hS => ?_)
    rw [← eM6] at hP
    refine lv_iload_n C.1 C.2.1 dX6_takes_47 rfl (lv_at hl 2 rfl) ?_
    refine lv_if_le (tgt := 66) C.1 C.2.1 dX6_takes_48 (by decide) (fun c7 => ?_) (fun c7 => ?_)
    · have h := if_t c7 h
      cases h
      exact k_vret C hP hS dX6_takes_66
    · have h := if_f c7 h
      refine lv_aload_n C.1 C.2.1 dX6_takes_51 rfl (lv_at hl 1 rfl) ?_
      refine k_getf C G hP r_obj rfl 0 (by decide) n_X6_takes_X6 q_X6_takes_0 (v := .ref (ad (89 + 1))) rfl dX6_takes_52 ?_
      refine lv_iload_n C.1 C.2.1 dX6_takes_55 rfl (lv_at hl 3 rfl) ?_
      refine lv_bipush (v := 16) C.1 C.2.1 dX6_takes_56 (by decide) ?_
      obtain ⟨v8, ev8, h⟩ := lt_out h
      refine k_isub C ev8 dX6_takes_58 ?_
      refine lv_iconst (v := 5) C.1 C.2.1 dX6_takes_59 (by decide) ?_
      obtain ⟨v9, ev9, h⟩ := lt_out h
      refine k_iadd C ev9 dX6_takes_60 ?_
      refine lv_dup2_11 C.1 C.2.1 dX6_takes_61 rfl rfl ?_
      obtain ⟨g10, h⟩ := gd_out h
      have g10 := chk_in g10
      obtain ⟨v11, ev11, h⟩ := lt_out h
      refine k_iald C G hP (r_arr (k := 1) (by decide)) g10 (j := v9.toNatClampNeg) rfl ev11 dX6_takes_62 ?_
      refine lv_iconst (v := 1) C.1 C.2.1 dX6_takes_63 (by decide) ?_
      obtain ⟨v12, ev12, h⟩ := lt_out h
      refine k_isub C ev12 dX6_takes_64 ?_
      obtain ⟨M13, eM13, h⟩ := lt_out h
      refine k_iast C G hP hS (r_arr (k := 1) (by decide)) g10 (j := v9.toNatClampNeg) rfl (r_arrS (k := 1) (by decide)) dX6_takes_65 (fun H locs hP hS => ?_)
      rw [← eM13] at hP
      cases h
      exact k_vret C hP hS dX6_takes_66
set_option maxRecDepth 100000 in
set_option maxHeartbeats 4000000 in
theorem w_X6_takes_b23 {res : SL} (C : Cx p s m args meth c cX6_takes 4 none RX6 wsX6_takes) (G : Gx D cs ad s) {Ls : Nat → SL} {Hs : SL} {T : SL} {dr : Int64} {hs : Int64} {o : Int64} {od : UInt64} {M : SL} {x1 : Int32} {x2 : Int32} {H : Heap} {locs : List Loc} {ls : Array Slot} (hP : va_P D vwCl (wA cs ad Ls Hs T M dr hs o od) H) (hS : va_S (Afr ad s.heap.size) s.heap H locs) (hl : lv_has ls 4 [(0, .ref (ad 89)), (1, .int x1), (2, .int x2)]) (h : f_X6_takes_b23 M x1 x2 = some res) : W p l e rmX6_takes s m args below meth c H locs 0 0 (MQ below (va_Qv (fun (_ : Unit) => True) (fun _ t => va_P D vwCl (wA cs ad Ls Hs T res dr hs o od) t.heap) (Afr ad s.heap.size)) args s 0 0 (Afr ad s.heap.size)) (F0 m 23 ls []) := by
  unfold f_X6_takes_b23 at h
  refine lv_iconst (v := 1) C.1 C.2.1 dX6_takes_23 (by decide) ?_
  refine lv_goto (tgt := 28) C.1 C.2.1 dX6_takes_24 (by decide) ?_
  exact w_X6_takes_b28 C G hP hS (lv_sub hl [0, 1, 2] rfl) h
set_option maxRecDepth 100000 in
set_option maxHeartbeats 4000000 in
theorem w_X6_takes_e {res : SL} (C : Cx p s m args meth c cX6_takes 4 none RX6 wsX6_takes) (G : Gx D cs ad s) {Ls : Nat → SL} {Hs : SL} {T : SL} {dr : Int64} {hs : Int64} {o : Int64} {od : UInt64} {M : SL} {x1 : Int32} {H : Heap} {locs : List Loc} {ls : Array Slot} (hP : va_P D vwCl (wA cs ad Ls Hs T M dr hs o od) H) (hS : va_S (Afr ad s.heap.size) s.heap H locs) (hl : lv_has ls 4 [(0, .ref (ad 89)), (1, .int x1)]) (h : f_X6_takes M x1 = some res) : W p l e rmX6_takes s m args below meth c H locs 0 0 (MQ below (va_Qv (fun (_ : Unit) => True) (fun _ t => va_P D vwCl (wA cs ad Ls Hs T res dr hs o od) t.heap) (Afr ad s.heap.size)) args s 0 0 (Afr ad s.heap.size)) (F0 m 0 ls []) := by
  unfold f_X6_takes at h
  refine lv_iload_n C.1 C.2.1 dX6_takes_0 rfl (lv_at hl 1 rfl) ?_
  obtain ⟨r1, c2, h⟩ := bd_out h
  refine k_callSi C G hP hS (m_X6_of l G.2.1 _  c2) (va_cwS 1 C.2.2.2.2.2.1 gX6_takes_X6_of rfl rfl rfl (by decide +kernel) ⟨Nat.le_of_ble_eq_true rfl, Nat.le_of_ble_eq_true rfl⟩) (As := [.int x1]) rfl hl.1 rfl (Nat.le_of_ble_eq_true rfl) dX6_takes_1 ⟨Nat.le_of_ble_eq_true rfl, Nat.le_of_ble_eq_true rfl⟩ (fun H locs hP hS => ?_)
  refine lv_istore_n (lv' := [(2, .int r1), (0, .ref (ad 89)), (1, .int x1)]) C.1 C.2.1 dX6_takes_4 rfl hl (by decide) rfl (fun ls hl => ?_)
  refine lv_iload_n C.1 C.2.1 dX6_takes_5 rfl (lv_at hl 2 rfl) ?_
  refine lv_if_eq (tgt := 23) C.1 C.2.1 dX6_takes_6 (by decide) (fun c3 => ?_) (fun c3 => ?_)
  · have h := if_t c3 h
    exact w_X6_takes_b23 C G hP hS (lv_sub hl [1, 2, 0] rfl) h
  · have h := if_f c3 h
    refine lv_aload_n C.1 C.2.1 dX6_takes_9 rfl (lv_at hl 1 rfl) ?_
    refine k_getf C G hP r_obj rfl 0 (by decide) n_X6_takes_X6 q_X6_takes_0 (v := .ref (ad (89 + 1))) rfl dX6_takes_10 ?_
    refine lv_iload_n C.1 C.2.1 dX6_takes_13 rfl (lv_at hl 0 rfl) ?_
    refine lv_bipush (v := 16) C.1 C.2.1 dX6_takes_14 (by decide) ?_
    obtain ⟨v4, ev4, h⟩ := lt_out h
    refine k_isub C ev4 dX6_takes_16 ?_
    refine lv_iconst (v := 5) C.1 C.2.1 dX6_takes_17 (by decide) ?_
    obtain ⟨v5, ev5, h⟩ := lt_out h
    refine k_iadd C ev5 dX6_takes_18 ?_
    obtain ⟨g6, h⟩ := gd_out h
    have g6 := chk_in g6
    obtain ⟨v7, ev7, h⟩ := lt_out h
    refine k_iald C G hP (r_arr (k := 1) (by decide)) g6 (j := v5.toNatClampNeg) rfl ev7 dX6_takes_19 ?_
    refine lv_if_le (tgt := 27) C.1 C.2.1 dX6_takes_20 (by decide) (fun c8 => ?_) (fun c8 => ?_)
    · have h := if_t c8 h
      refine lv_iconst (v := 0) C.1 C.2.1 dX6_takes_27 (by decide) ?_
      exact w_X6_takes_b28 C G hP hS (lv_sub hl [1, 2, 0] rfl) h
    · have h := if_f c8 h
      exact w_X6_takes_b23 C G hP hS (lv_sub hl [1, 2, 0] rfl) h
set_option maxRecDepth 100000 in
set_option maxHeartbeats 4000000 in
theorem m_X6_takes (l : Launch) {D : va_G} {cs : Nat → ClassId} {ad : Nat → Nat} (hAd : adOK ad) (sz : Nat) {Ls : Nat → SL} {Hs : SL} {T : SL} {M : SL} {dr : Int64} {hs : Int64} {o : Int64} {od : UInt64} {x1 : Int32} {res : SL} (h : f_X6_takes M x1 = some res) : Met l yX6_takes wsX6_takes rmX6_takes (PA D cs sz (wA cs ad Ls Hs T M dr hs o od) [.ref (ad 89), .int x1]) (va_Qv (fun (_ : Unit) => True) (fun _ t => va_P D vwCl (wA cs ad Ls Hs T res dr hs o od) t.heap) (Afr ad sz)) 0 0 (Afr ad sz) :=
  k_met (by decide) rfl (Nat.le_of_ble_eq_true rfl) hAd (fun p e s m below meth c ls C G hP hsz hl hS => by
    subst hsz
    exact w_X6_takes_e C G  hP hS hl  h)
/-! X6 turns -/
abbrev rmX6_turns : Room := { frames := 2, cells := 0, slots := 0, locals := 47 }
theorem q_X6_turns_0 : Cond.fieldLink RX6 7 "LineBuffersModel" "now" "[I" ∈ wsX6_turns := List.mem_of_getElem? (i := 1) rfl
theorem n_X6_turns_X6 : ∀ x ∈ u_ws RX6 TX6 12, x ∈ wsX6_turns := fun x h => List.mem_cons_of_mem _ (List.mem_append_right _ h)
set_option maxRecDepth 100000 in
set_option maxHeartbeats 4000000 in
theorem w_X6_turns_b57 {res : Int32 × SL} (C : Cx p s m args meth c cX6_turns 4 (some .int) RX6 wsX6_turns) (G : Gx D cs ad s) {Ls : Nat → SL} {Hs : SL} {T : SL} {dr : Int64} {hs : Int64} {o : Int64} {od : UInt64} {M : SL} {x1 : Int32} {x2 : Int32} {x3 : Int32} {H : Heap} {locs : List Loc} {ls : Array Slot} (hP : va_P D vwCl (wA cs ad Ls Hs T M dr hs o od) H) (hS : va_S (Afr ad s.heap.size) s.heap H locs) (hl : lv_has ls 4 [(0, .ref (ad 89)), (1, .int x1), (2, .int x2), (3, .int x3)]) (h : f_X6_turns_b57 M x1 x2 x3 = some res) : W p l e rmX6_turns s m args below meth c H locs 0 0 (MQ below (va_Qi (fun r' (_ : Unit) => r' = res.1) (fun _ t => va_P D vwCl (wA cs ad Ls Hs T res.2 dr hs o od) t.heap) (Afr ad s.heap.size)) args s 0 0 (Afr ad s.heap.size)) (F0 m 57 ls []) := by
  unfold f_X6_turns_b57 at h
  refine lv_aload_n C.1 C.2.1 dX6_turns_57 rfl (lv_at hl 0 rfl) ?_
  refine k_getf C G hP r_obj rfl 0 (by decide) n_X6_turns_X6 q_X6_turns_0 (v := .ref (ad (89 + 1))) rfl dX6_turns_58 ?_
  refine lv_iload_n C.1 C.2.1 dX6_turns_61 rfl (lv_at hl 3 rfl) ?_
  refine lv_bipush (v := 6) C.1 C.2.1 dX6_turns_62 (by decide) ?_
  obtain ⟨v1, ev1, h⟩ := lt_out h
  refine k_iadd C ev1 dX6_turns_64 ?_
  obtain ⟨g2, h⟩ := gd_out h
  have g2 := chk_in g2
  obtain ⟨v3, ev3, h⟩ := lt_out h
  refine k_iald C G hP (r_arr (k := 1) (by decide)) g2 (j := v1.toNatClampNeg) rfl ev3 dX6_turns_65 ?_
  refine lv_if_le (tgt := 102) C.1 C.2.1 dX6_turns_66 (by decide) (fun c4 => ?_) (fun c4 => ?_)
  · have h := if_t c4 h
    refine lv_aload_n C.1 C.2.1 dX6_turns_102 rfl (lv_at hl 0 rfl) ?_
    refine k_getf C G hP r_obj rfl 0 (by decide) n_X6_turns_X6 q_X6_turns_0 (v := .ref (ad (89 + 1))) rfl dX6_turns_103 ?_
    refine lv_iload_n C.1 C.2.1 dX6_turns_106 rfl (lv_at hl 3 rfl) ?_
    refine lv_bipush (v := 6) C.1 C.2.1 dX6_turns_107 (by decide) ?_
    obtain ⟨v5, ev5, h⟩ := lt_out h
    refine k_iadd C ev5 dX6_turns_109 ?_
    obtain ⟨g6, h⟩ := gd_out h
    have g6 := chk_in g6
    obtain ⟨v7, ev7, h⟩ := lt_out h
    refine k_iald C G hP (r_arr (k := 1) (by decide)) g6 (j := v5.toNatClampNeg) rfl ev7 dX6_turns_110 ?_
    refine lv_if_ne (tgt := 118) C.1 C.2.1 dX6_turns_111 (by decide) (fun c8 => ?_) (fun c8 => ?_)
    · have h := if_t c8 h
      refine lv_iconst (v := 2) C.1 C.2.1 dX6_turns_118 (by decide) ?_
      cases h
      exact k_iret C hP hS dX6_turns_119
    · have h := if_n c8 h
      refine lv_iconst (v := 3) C.1 C.2.1 dX6_turns_114 (by decide) ?_
      refine lv_goto (tgt := 119) C.1 C.2.1 dX6_turns_115 (by decide) ?_
      cases h
      exact k_iret C hP hS dX6_turns_119
  · have h := if_f c4 h
    refine lv_aload_n C.1 C.2.1 dX6_turns_69 rfl (lv_at hl 0 rfl) ?_
    refine k_getf C G hP r_obj rfl 0 (by decide) n_X6_turns_X6 q_X6_turns_0 (v := .ref (ad (89 + 1))) rfl dX6_turns_70 ?_
    refine lv_iload_n C.1 C.2.1 dX6_turns_73 rfl (lv_at hl 3 rfl) ?_
    refine lv_bipush (v := 6) C.1 C.2.1 dX6_turns_74 (by decide) ?_
    obtain ⟨v9, ev9, h⟩ := lt_out h
    refine k_iadd C ev9 dX6_turns_76 ?_
    refine lv_dup2_11 C.1 C.2.1 dX6_turns_77 rfl rfl ?_
    obtain ⟨g10, h⟩ := gd_out h
    have g10 := chk_in g10
    obtain ⟨v11, ev11, h⟩ := lt_out h
    refine k_iald C G hP (r_arr (k := 1) (by decide)) g10 (j := v9.toNatClampNeg) rfl ev11 dX6_turns_78 ?_
    refine lv_iconst (v := 1) C.1 C.2.1 dX6_turns_79 (by decide) ?_
    obtain ⟨v12, ev12, h⟩ := lt_out h
    refine k_isub C ev12 dX6_turns_80 ?_
    obtain ⟨M13, eM13, h⟩ := lt_out h
    refine k_iast C G hP hS (r_arr (k := 1) (by decide)) g10 (j := v9.toNatClampNeg) rfl (r_arrS (k := 1) (by decide)) dX6_turns_81 (fun H locs hP hS => ?_)
    rw [← eM13] at hP
    refine lv_aload_n C.1 C.2.1 dX6_turns_82 rfl (lv_at hl 0 rfl) ?_
    refine k_getf C G hP r_obj rfl 0 (by decide) n_X6_turns_X6 q_X6_turns_0 (v := .ref (ad (89 + 1))) rfl dX6_turns_83 ?_
    refine lv_iload_n C.1 C.2.1 dX6_turns_86 rfl (lv_at hl 3 rfl) ?_
    refine lv_bipush (v := 6) C.1 C.2.1 dX6_turns_87 (by decide) ?_
    obtain ⟨v14, ev14, h⟩ := lt_out h
    refine k_iadd C ev14 dX6_turns_89 ?_
    obtain ⟨g15, h⟩ := gd_out h
    have g15 := chk_in g15
    obtain ⟨v16, ev16, h⟩ := lt_out h
    refine k_iald C G hP (r_arr (k := 1) (by decide)) g15 (j := v14.toNatClampNeg) rfl ev16 dX6_turns_90 ?_
    refine lv_if_ne (tgt := 100) C.1 C.2.1 dX6_turns_91 (by decide) (fun c17 => ?_) (fun c17 => ?_)
    · have h := if_t c17 h
      refine lv_iconst (v := 1) C.1 C.2.1 dX6_turns_100 (by decide) ?_
      cases h
      exact k_iret C hP hS dX6_turns_101
    · have h := if_n c17 h
      refine lv_aload_n C.1 C.2.1 dX6_turns_94 rfl (lv_at hl 0 rfl) ?_
      refine lv_iload_n C.1 C.2.1 dX6_turns_95 rfl (lv_at hl 1 rfl) ?_
      refine lv_iload_n C.1 C.2.1 dX6_turns_96 rfl (lv_at hl 2 rfl) ?_
      obtain ⟨M18, c19, h⟩ := bd_out h
      refine k_callVv C G hP hS (m_X6_leaves l G.2.1 _  c19) r_obj rfl (cwV 2 C.2.2.2.2.2.1 gX6_turns_X6_leaves rfl rfl rfl (by decide +kernel) ⟨Nat.le_of_ble_eq_true rfl, Nat.le_of_ble_eq_true rfl⟩) (As := [.int x1, .int x2]) rfl hl.1 rfl (Nat.le_of_ble_eq_true rfl) dX6_turns_97 ⟨Nat.le_of_ble_eq_true rfl, Nat.le_of_ble_eq_true rfl⟩ (fun H locs hP hS => ?_)
      refine lv_iconst (v := 1) C.1 C.2.1 dX6_turns_100 (by decide) ?_
      cases h
      exact k_iret C hP hS dX6_turns_101
set_option maxRecDepth 100000 in
set_option maxHeartbeats 4000000 in
theorem w_X6_turns_b39 {res : Int32 × SL} (C : Cx p s m args meth c cX6_turns 4 (some .int) RX6 wsX6_turns) (G : Gx D cs ad s) {Ls : Nat → SL} {Hs : SL} {T : SL} {dr : Int64} {hs : Int64} {o : Int64} {od : UInt64} {M : SL} {x1 : Int32} {x2 : Int32} {x3 : Int32} {H : Heap} {locs : List Loc} {ls : Array Slot} (hP : va_P D vwCl (wA cs ad Ls Hs T M dr hs o od) H) (hS : va_S (Afr ad s.heap.size) s.heap H locs) (hl : lv_has ls 4 [(0, .ref (ad 89)), (1, .int x1), (2, .int x2), (3, .int x3)]) (h : f_X6_turns_b39 M x1 x2 x3 = some res) : W p l e rmX6_turns s m args below meth c H locs 0 0 (MQ below (va_Qi (fun r' (_ : Unit) => r' = res.1) (fun _ t => va_P D vwCl (wA cs ad Ls Hs T res.2 dr hs o od) t.heap) (Afr ad s.heap.size)) args s 0 0 (Afr ad s.heap.size)) (F0 m 39 ls []) := by
  unfold f_X6_turns_b39 at h
  refine lv_aload_n C.1 C.2.1 dX6_turns_39 rfl (lv_at hl 0 rfl) ?_
  refine k_getf C G hP r_obj rfl 0 (by decide) n_X6_turns_X6 q_X6_turns_0 (v := .ref (ad (89 + 1))) rfl dX6_turns_40 ?_
  refine lv_iload_n C.1 C.2.1 dX6_turns_43 rfl (lv_at hl 3 rfl) ?_
  refine lv_bipush (v := 6) C.1 C.2.1 dX6_turns_44 (by decide) ?_
  obtain ⟨v1, ev1, h⟩ := lt_out h
  refine k_iadd C ev1 dX6_turns_46 ?_
  obtain ⟨g2, h⟩ := gd_out h
  have g2 := chk_in g2
  obtain ⟨v3, ev3, h⟩ := lt_out h
  refine k_iald C G hP (r_arr (k := 1) (by decide)) g2 (j := v1.toNatClampNeg) rfl ev3 dX6_turns_47 ?_
  refine lv_iconst (v := (-1)) C.1 C.2.1 dX6_turns_48 (by decide) ?_
  refine lv_icmp_ne (tgt := 57) C.1 C.2.1 dX6_turns_49 (by decide) (fun c4 => ?_) (fun c4 => ?_)
  · have h := if_t c4 h
    exact w_X6_turns_b57 C G hP hS (lv_sub hl [0, 1, 2, 3] rfl) h
  · have h := if_n c4 h
    refine lv_aload_n C.1 C.2.1 dX6_turns_52 rfl (lv_at hl 0 rfl) ?_
    refine lv_iload_n C.1 C.2.1 dX6_turns_53 rfl (lv_at hl 1 rfl) ?_
    obtain ⟨M5, c6, h⟩ := bd_out h
    refine k_callVv C G hP hS (m_X6_takes l G.2.1 _  c6) r_obj rfl (cwV 1 C.2.2.2.2.2.1 gX6_turns_X6_takes rfl rfl rfl (by decide +kernel) ⟨Nat.le_of_ble_eq_true rfl, Nat.le_of_ble_eq_true rfl⟩) (As := [.int x1]) rfl hl.1 rfl (Nat.le_of_ble_eq_true rfl) dX6_turns_54 ⟨Nat.le_of_ble_eq_true rfl, Nat.le_of_ble_eq_true rfl⟩ (fun H locs hP hS => ?_)
    exact w_X6_turns_b57 C G hP hS (lv_sub hl [0, 1, 2, 3] rfl) h
set_option maxRecDepth 100000 in
set_option maxHeartbeats 4000000 in
theorem w_X6_turns_e {res : Int32 × SL} (C : Cx p s m args meth c cX6_turns 4 (some .int) RX6 wsX6_turns) (G : Gx D cs ad s) {Ls : Nat → SL} {Hs : SL} {T : SL} {dr : Int64} {hs : Int64} {o : Int64} {od : UInt64} {M : SL} {x1 : Int32} {x2 : Int32} {H : Heap} {locs : List Loc} {ls : Array Slot} (hP : va_P D vwCl (wA cs ad Ls Hs T M dr hs o od) H) (hS : va_S (Afr ad s.heap.size) s.heap H locs) (hl : lv_has ls 4 [(0, .ref (ad 89)), (1, .int x1), (2, .int x2)]) (h : f_X6_turns M x1 x2 = some res) : W p l e rmX6_turns s m args below meth c H locs 0 0 (MQ below (va_Qi (fun r' (_ : Unit) => r' = res.1) (fun _ t => va_P D vwCl (wA cs ad Ls Hs T res.2 dr hs o od) t.heap) (Afr ad s.heap.size)) args s 0 0 (Afr ad s.heap.size)) (F0 m 0 ls []) := by
  unfold f_X6_turns at h
  refine lv_iload_n C.1 C.2.1 dX6_turns_0 rfl (lv_at hl 1 rfl) ?_
  obtain ⟨r1, c2, h⟩ := bd_out h
  refine k_callSi C G hP hS (m_X6_of l G.2.1 _  c2) (va_cwS 1 C.2.2.2.2.2.1 gX6_turns_X6_of rfl rfl rfl (by decide +kernel) ⟨Nat.le_of_ble_eq_true rfl, Nat.le_of_ble_eq_true rfl⟩) (As := [.int x1]) rfl hl.1 rfl (Nat.le_of_ble_eq_true rfl) dX6_turns_1 ⟨Nat.le_of_ble_eq_true rfl, Nat.le_of_ble_eq_true rfl⟩ (fun H locs hP hS => ?_)
  refine lv_istore_n (lv' := [(3, .int r1), (0, .ref (ad 89)), (1, .int x1), (2, .int x2)]) C.1 C.2.1 dX6_turns_4 rfl hl (by decide) rfl (fun ls hl => ?_)
  refine lv_aload_n C.1 C.2.1 dX6_turns_5 rfl (lv_at hl 1 rfl) ?_
  refine lv_iload_n C.1 C.2.1 dX6_turns_6 rfl (lv_at hl 2 rfl) ?_
  obtain ⟨M3, c4, h⟩ := bd_out h
  refine k_callVv C G hP hS (m_X6_speeds l G.2.1 _  c4) r_obj rfl (cwV 1 C.2.2.2.2.2.1 gX6_turns_X6_speeds rfl rfl rfl (by decide +kernel) ⟨Nat.le_of_ble_eq_true rfl, Nat.le_of_ble_eq_true rfl⟩) (As := [.int x1]) rfl hl.1 rfl (Nat.le_of_ble_eq_true rfl) dX6_turns_7 ⟨Nat.le_of_ble_eq_true rfl, Nat.le_of_ble_eq_true rfl⟩ (fun H locs hP hS => ?_)
  refine lv_aload_n C.1 C.2.1 dX6_turns_10 rfl (lv_at hl 1 rfl) ?_
  refine lv_iload_n C.1 C.2.1 dX6_turns_11 rfl (lv_at hl 2 rfl) ?_
  refine lv_iload_n C.1 C.2.1 dX6_turns_12 rfl (lv_at hl 3 rfl) ?_
  obtain ⟨r5, c6, h⟩ := bd_out h
  refine k_callVi C G hP hS (m_X6_isDown l G.2.1 _  c6) r_obj rfl (cwV 2 C.2.2.2.2.2.1 gX6_turns_X6_isDown rfl rfl rfl (by decide +kernel) ⟨Nat.le_of_ble_eq_true rfl, Nat.le_of_ble_eq_true rfl⟩) (As := [.int x1, .int x2]) rfl hl.1 rfl (Nat.le_of_ble_eq_true rfl) dX6_turns_13 ⟨Nat.le_of_ble_eq_true rfl, Nat.le_of_ble_eq_true rfl⟩ (fun H locs hP hS => ?_)
  refine lv_if_eq (tgt := 21) C.1 C.2.1 dX6_turns_16 (by decide) (fun c7 => ?_) (fun c7 => ?_)
  · have h := if_t c7 h
    refine lv_aload_n C.1 C.2.1 dX6_turns_21 rfl (lv_at hl 1 rfl) ?_
    refine k_getf C G hP r_obj rfl 0 (by decide) n_X6_turns_X6 q_X6_turns_0 (v := .ref (ad (89 + 1))) rfl dX6_turns_22 ?_
    refine lv_iload_n C.1 C.2.1 dX6_turns_25 rfl (lv_at hl 0 rfl) ?_
    refine lv_bipush (v := 6) C.1 C.2.1 dX6_turns_26 (by decide) ?_
    obtain ⟨v8, ev8, h⟩ := lt_out h
    refine k_iadd C ev8 dX6_turns_28 ?_
    obtain ⟨g9, h⟩ := gd_out h
    have g9 := chk_in g9
    obtain ⟨v10, ev10, h⟩ := lt_out h
    refine k_iald C G hP (r_arr (k := 1) (by decide)) g9 (j := v8.toNatClampNeg) rfl ev10 dX6_turns_29 ?_
    refine lv_if_ne (tgt := 39) C.1 C.2.1 dX6_turns_30 (by decide) (fun c11 => ?_) (fun c11 => ?_)
    · have h := if_t c11 h
      exact w_X6_turns_b39 C G hP hS (lv_sub hl [1, 2, 3, 0] rfl) h
    · have h := if_n c11 h
      refine lv_aload_n C.1 C.2.1 dX6_turns_33 rfl (lv_at hl 1 rfl) ?_
      refine lv_iload_n C.1 C.2.1 dX6_turns_34 rfl (lv_at hl 2 rfl) ?_
      refine lv_iload_n C.1 C.2.1 dX6_turns_35 rfl (lv_at hl 3 rfl) ?_
      obtain ⟨M12, c13, h⟩ := bd_out h
      refine k_callVv C G hP hS (m_X6_leaves l G.2.1 _  c13) r_obj rfl (cwV 2 C.2.2.2.2.2.1 gX6_turns_X6_leaves rfl rfl rfl (by decide +kernel) ⟨Nat.le_of_ble_eq_true rfl, Nat.le_of_ble_eq_true rfl⟩) (As := [.int x1, .int x2]) rfl hl.1 rfl (Nat.le_of_ble_eq_true rfl) dX6_turns_36 ⟨Nat.le_of_ble_eq_true rfl, Nat.le_of_ble_eq_true rfl⟩ (fun H locs hP hS => ?_)
      exact w_X6_turns_b39 C G hP hS (lv_sub hl [1, 2, 3, 0] rfl) h
  · have h := if_f c7 h
    refine lv_iconst (v := 4) C.1 C.2.1 dX6_turns_19 (by decide) ?_
    cases h
    exact k_iret C hP hS dX6_turns_20
set_option maxRecDepth 100000 in
set_option maxHeartbeats 4000000 in
theorem m_X6_turns (l : Launch) {D : va_G} {cs : Nat → ClassId} {ad : Nat → Nat} (hAd : adOK ad) (sz : Nat) {Ls : Nat → SL} {Hs : SL} {T : SL} {M : SL} {dr : Int64} {hs : Int64} {o : Int64} {od : UInt64} {x1 : Int32} {x2 : Int32} {res : Int32 × SL} (h : f_X6_turns M x1 x2 = some res) : Met l yX6_turns wsX6_turns rmX6_turns (PA D cs sz (wA cs ad Ls Hs T M dr hs o od) [.ref (ad 89), .int x1, .int x2]) (va_Qi (fun r' (_ : Unit) => r' = res.1) (fun _ t => va_P D vwCl (wA cs ad Ls Hs T res.2 dr hs o od) t.heap) (Afr ad sz)) 0 0 (Afr ad sz) :=
  k_met (by decide) rfl (Nat.le_of_ble_eq_true rfl) hAd (fun p e s m below meth c ls C G hP hsz hl hS => by
    subst hsz
    exact w_X6_turns_e C G  hP hS hl  h)
/-! X6 passes -/
abbrev rmX6_passes : Room := { frames := 3, cells := 0, slots := 0, locals := 70 }
theorem q_X6_passes_0 : Cond.fieldLink RX6 7 "LineBuffersModel" "now" "[I" ∈ wsX6_passes := List.mem_of_getElem? (i := 1) rfl
theorem n_X6_passes_X6 : ∀ x ∈ u_ws RX6 TX6 12, x ∈ wsX6_passes := fun x h => List.mem_cons_of_mem _ (List.mem_append_right _ h)
set_option maxRecDepth 100000 in
set_option maxHeartbeats 4000000 in
theorem w_X6_passes_b149 {res : SL} (C : Cx p s m args meth c cX6_passes 3 none RX6 wsX6_passes) (G : Gx D cs ad s) {Ls : Nat → SL} {Hs : SL} {T : SL} {dr : Int64} {hs : Int64} {o : Int64} {od : UInt64} {K76 : SL → Int32 → Option (SL)} (hK76 : ∀ {M : SL} {x1 : Int32} {H : Heap} {locs : List Loc} {ls : Array Slot}, va_P D vwCl (wA cs ad Ls Hs T M dr hs o od) H → va_S (Afr ad s.heap.size) s.heap H locs → lv_has ls 3 [(0, .ref (ad 89)), (1, .int x1)] → K76 M x1 = some res → W p l e rmX6_passes s m args below meth c H locs 0 0 (MQ below (va_Qv (fun (_ : Unit) => True) (fun _ t => va_P D vwCl (wA cs ad Ls Hs T res dr hs o od) t.heap) (Afr ad s.heap.size)) args s 0 0 (Afr ad s.heap.size)) (F0 m 76 ls [])) {M : SL} {x1 : Int32} {s1 : Int32} {s2 : Int32} {s3 : Int32} {H : Heap} {locs : List Loc} {ls : Array Slot} (hP : va_P D vwCl (wA cs ad Ls Hs T M dr hs o od) H) (hS : va_S (Afr ad s.heap.size) s.heap H locs) (hl : lv_has ls 3 [(0, .ref (ad 89)), (1, .int x1)]) (h : f_X6_passes_b149 K76 M x1 s1 s2 s3 = some res) : W p l e rmX6_passes s m args below meth c H locs 0 0 (MQ below (va_Qv (fun (_ : Unit) => True) (fun _ t => va_P D vwCl (wA cs ad Ls Hs T res dr hs o od) t.heap) (Afr ad s.heap.size)) args s 0 0 (Afr ad s.heap.size)) (F0 m 149 ls [.int s3, .int s2, .int s1, .ref (ad (89 + 1))]) := by
  unfold f_X6_passes_b149 at h
  obtain ⟨v1, ev1, h⟩ := lt_out h
  refine k_iadd C ev1 dX6_passes_149 ?_
  obtain ⟨g2, h⟩ := gd_out h
  have g2 := chk_in g2
  obtain ⟨M3, eM3, h⟩ := lt_out h
  refine k_iast C G hP hS (r_arr (k := 1) (by decide)) g2 (j := s1.toNatClampNeg) rfl (r_arrS (k := 1) (by decide)) dX6_passes_150 (fun H locs hP hS => ?_)
  rw [← eM3] at hP
  obtain ⟨z4, ez4, h⟩ := lt_out h
  refine lv_iinc (v := z4) (lv' := [(1, .int z4), (0, .ref (ad 89))]) C.1 C.2.1 dX6_passes_151 hl (k := 1) rfl (by rw [ez4]; rfl) (by decide) rfl (fun ls hl => ?_)
  refine lv_goto (tgt := 76) C.1 C.2.1 dX6_passes_154 (by decide) ?_
  exact hK76 hP hS (lv_sub hl [1, 0] rfl)  h
set_option maxRecDepth 100000 in
set_option maxHeartbeats 4000000 in
theorem w_X6_passes_b76 {res : SL} (C : Cx p s m args meth c cX6_passes 3 none RX6 wsX6_passes) (G : Gx D cs ad s) {Ls : Nat → SL} {Hs : SL} {T : SL} {dr : Int64} {hs : Int64} {o : Int64} {od : UInt64} {K76 : SL → Int32 → Option (SL)} (hK76 : ∀ {M : SL} {x1 : Int32} {H : Heap} {locs : List Loc} {ls : Array Slot}, va_P D vwCl (wA cs ad Ls Hs T M dr hs o od) H → va_S (Afr ad s.heap.size) s.heap H locs → lv_has ls 3 [(0, .ref (ad 89)), (1, .int x1)] → K76 M x1 = some res → W p l e rmX6_passes s m args below meth c H locs 0 0 (MQ below (va_Qv (fun (_ : Unit) => True) (fun _ t => va_P D vwCl (wA cs ad Ls Hs T res dr hs o od) t.heap) (Afr ad s.heap.size)) args s 0 0 (Afr ad s.heap.size)) (F0 m 76 ls [])) {M : SL} {x1 : Int32} {H : Heap} {locs : List Loc} {ls : Array Slot} (hP : va_P D vwCl (wA cs ad Ls Hs T M dr hs o od) H) (hS : va_S (Afr ad s.heap.size) s.heap H locs) (hl : lv_has ls 3 [(0, .ref (ad 89)), (1, .int x1)]) (h : f_X6_passes_b76 K76 M x1 = some res) : W p l e rmX6_passes s m args below meth c H locs 0 0 (MQ below (va_Qv (fun (_ : Unit) => True) (fun _ t => va_P D vwCl (wA cs ad Ls Hs T res dr hs o od) t.heap) (Afr ad s.heap.size)) args s 0 0 (Afr ad s.heap.size)) (F0 m 76 ls []) := by
  unfold f_X6_passes_b76 at h
  refine lv_iload_n C.1 C.2.1 dX6_passes_76 rfl (lv_at hl 1 rfl) ?_
  refine lv_aload_n C.1 C.2.1 dX6_passes_77 rfl (lv_at hl 0 rfl) ?_
  refine k_getf C G hP r_obj rfl 0 (by decide) n_X6_passes_X6 q_X6_passes_0 (v := .ref (ad (89 + 1))) rfl dX6_passes_78 ?_
  refine lv_iconst (v := 0) C.1 C.2.1 dX6_passes_81 (by decide) ?_
  obtain ⟨v1, ev1, h⟩ := lt_out h
  refine k_iald C G hP (r_arr (k := 1) (by decide)) (chk_in rfl) (j := 0) rfl ev1 dX6_passes_82 ?_
  refine lv_iconst (v := 1) C.1 C.2.1 dX6_passes_83 (by decide) ?_
  obtain ⟨v2, ev2, h⟩ := lt_out h
  refine k_isub C ev2 dX6_passes_84 ?_
  refine lv_icmp_ge (tgt := 157) C.1 C.2.1 dX6_passes_85 (by decide) (fun c3 => ?_) (fun c3 => ?_)
  · have h := if_t c3 h
    cases h
    exact k_vret C hP hS dX6_passes_157
  · have h := if_f c3 h
    refine lv_iload_n C.1 C.2.1 dX6_passes_88 rfl (lv_at hl 1 rfl) ?_
    obtain ⟨r4, c5, h⟩ := bd_out h
    refine k_callSi C G hP hS (m_X6_of l G.2.1 _  c5) (va_cwS 1 C.2.2.2.2.2.1 gX6_passes_X6_of rfl rfl rfl (by decide +kernel) ⟨Nat.le_of_ble_eq_true rfl, Nat.le_of_ble_eq_true rfl⟩) (As := [.int x1]) rfl hl.1 rfl (Nat.le_of_ble_eq_true rfl) dX6_passes_89 ⟨Nat.le_of_ble_eq_true rfl, Nat.le_of_ble_eq_true rfl⟩ (fun H locs hP hS => ?_)
    refine lv_istore_n (lv' := [(2, .int r4), (0, .ref (ad 89)), (1, .int x1)]) C.1 C.2.1 dX6_passes_92 rfl hl (by decide) rfl (fun ls hl => ?_)
    refine lv_aload_n C.1 C.2.1 dX6_passes_93 rfl (lv_at hl 1 rfl) ?_
    refine k_getf C G hP r_obj rfl 0 (by decide) n_X6_passes_X6 q_X6_passes_0 (v := .ref (ad (89 + 1))) rfl dX6_passes_94 ?_
    refine lv_iload_n C.1 C.2.1 dX6_passes_97 rfl (lv_at hl 0 rfl) ?_
    refine lv_bipush (v := 15) C.1 C.2.1 dX6_passes_98 (by decide) ?_
    obtain ⟨v6, ev6, h⟩ := lt_out h
    refine k_iadd C ev6 dX6_passes_100 ?_
    refine lv_dup2_11 C.1 C.2.1 dX6_passes_101 rfl rfl ?_
    obtain ⟨g7, h⟩ := gd_out h
    have g7 := chk_in g7
    obtain ⟨v8, ev8, h⟩ := lt_out h
    refine k_iald C G hP (r_arr (k := 1) (by decide)) g7 (j := v6.toNatClampNeg) rfl ev8 dX6_passes_102 ?_
    refine lv_aload_n C.1 C.2.1 dX6_passes_103 rfl (lv_at hl 1 rfl) ?_
    refine k_getf C G hP r_obj rfl 0 (by decide) n_X6_passes_X6 q_X6_passes_0 (v := .ref (ad (89 + 1))) rfl dX6_passes_104 ?_
    refine lv_iload_n C.1 C.2.1 dX6_passes_107 rfl (lv_at hl 0 rfl) ?_
    refine lv_iconst (v := 5) C.1 C.2.1 dX6_passes_108 (by decide) ?_
    obtain ⟨v9, ev9, h⟩ := lt_out h
    refine k_iadd C ev9 dX6_passes_109 ?_
    obtain ⟨g10, h⟩ := gd_out h
    have g10 := chk_in g10
    obtain ⟨v11, ev11, h⟩ := lt_out h
    refine k_iald C G hP (r_arr (k := 1) (by decide)) g10 (j := v9.toNatClampNeg) rfl ev11 dX6_passes_110 ?_
    obtain ⟨v12, ev12, h⟩ := lt_out h
    refine k_iadd C ev12 dX6_passes_111 ?_
    obtain ⟨M13, eM13, h⟩ := lt_out h
    refine k_iast C G hP hS (r_arr (k := 1) (by decide)) g7 (j := v6.toNatClampNeg) rfl (r_arrS (k := 1) (by decide)) dX6_passes_112 (fun H locs hP hS => ?_)
    rw [← eM13] at hP
    refine lv_aload_n C.1 C.2.1 dX6_passes_113 rfl (lv_at hl 1 rfl) ?_
    refine k_getf C G hP r_obj rfl 0 (by decide) n_X6_passes_X6 q_X6_passes_0 (v := .ref (ad (89 + 1))) rfl dX6_passes_114 ?_
    refine lv_iload_n C.1 C.2.1 dX6_passes_117 rfl (lv_at hl 0 rfl) ?_
    refine lv_bipush (v := 9) C.1 C.2.1 dX6_passes_118 (by decide) ?_
    obtain ⟨v14, ev14, h⟩ := lt_out h
    refine k_iadd C ev14 dX6_passes_120 ?_
    refine lv_iconst (v := 5) C.1 C.2.1 dX6_passes_121 (by decide) ?_
    obtain ⟨v15, ev15, h⟩ := lt_out h
    refine k_iadd C ev15 dX6_passes_122 ?_
    refine lv_dup2_11 C.1 C.2.1 dX6_passes_123 rfl rfl ?_
    obtain ⟨g16, h⟩ := gd_out h
    have g16 := chk_in g16
    obtain ⟨v17, ev17, h⟩ := lt_out h
    refine k_iald C G hP (r_arr (k := 1) (by decide)) g16 (j := v15.toNatClampNeg) rfl ev17 dX6_passes_124 ?_
    refine lv_aload_n C.1 C.2.1 dX6_passes_125 rfl (lv_at hl 1 rfl) ?_
    refine k_getf C G hP r_obj rfl 0 (by decide) n_X6_passes_X6 q_X6_passes_0 (v := .ref (ad (89 + 1))) rfl dX6_passes_126 ?_
    refine lv_iload_n C.1 C.2.1 dX6_passes_129 rfl (lv_at hl 0 rfl) ?_
    refine lv_iconst (v := 5) C.1 C.2.1 dX6_passes_130 (by decide) ?_
    obtain ⟨v18, ev18, h⟩ := lt_out h
    refine k_iadd C ev18 dX6_passes_131 ?_
    obtain ⟨g19, h⟩ := gd_out h
    have g19 := chk_in g19
    obtain ⟨v20, ev20, h⟩ := lt_out h
    refine k_iald C G hP (r_arr (k := 1) (by decide)) g19 (j := v18.toNatClampNeg) rfl ev20 dX6_passes_132 ?_
    refine lv_aload_n C.1 C.2.1 dX6_passes_133 rfl (lv_at hl 1 rfl) ?_
    refine k_getf C G hP r_obj rfl 0 (by decide) n_X6_passes_X6 q_X6_passes_0 (v := .ref (ad (89 + 1))) rfl dX6_passes_134 ?_
    refine lv_iload_n C.1 C.2.1 dX6_passes_137 rfl (lv_at hl 0 rfl) ?_
    refine lv_iconst (v := 4) C.1 C.2.1 dX6_passes_138 (by decide) ?_
    obtain ⟨v21, ev21, h⟩ := lt_out h
    refine k_iadd C ev21 dX6_passes_139 ?_
    obtain ⟨g22, h⟩ := gd_out h
    have g22 := chk_in g22
    obtain ⟨v23, ev23, h⟩ := lt_out h
    refine k_iald C G hP (r_arr (k := 1) (by decide)) g22 (j := v21.toNatClampNeg) rfl ev23 dX6_passes_140 ?_
    refine lv_icmp_lt (tgt := 148) C.1 C.2.1 dX6_passes_141 (by decide) (fun c24 => ?_) (fun c24 => ?_)
    · have h := if_t c24 h
      refine lv_iconst (v := 0) C.1 C.2.1 dX6_passes_148 (by decide) ?_
      exact w_X6_passes_b149 C G hK76 hP hS (lv_sub hl [1, 2] rfl) h
    · have h := if_f c24 h
      refine lv_iconst (v := 1) C.1 C.2.1 dX6_passes_144 (by decide) ?_
      refine lv_goto (tgt := 149) C.1 C.2.1 dX6_passes_145 (by decide) ?_
      exact w_X6_passes_b149 C G hK76 hP hS (lv_sub hl [1, 2] rfl) h
set_option maxRecDepth 100000 in
set_option maxHeartbeats 4000000 in
theorem w_X6_passes_h76 {res : SL} (C : Cx p s m args meth c cX6_passes 3 none RX6 wsX6_passes) (G : Gx D cs ad s) {Ls : Nat → SL} {Hs : SL} {T : SL} {dr : Int64} {hs : Int64} {o : Int64} {od : UInt64} : ∀ (n : Nat) {M : SL} {x1 : Int32} {H : Heap} {locs : List Loc} {ls : Array Slot}, va_P D vwCl (wA cs ad Ls Hs T M dr hs o od) H → va_S (Afr ad s.heap.size) s.heap H locs → lv_has ls 3 [(0, .ref (ad 89)), (1, .int x1)] → f_X6_passes_h76 n M x1 = some res → W p l e rmX6_passes s m args below meth c H locs 0 0 (MQ below (va_Qv (fun (_ : Unit) => True) (fun _ t => va_P D vwCl (wA cs ad Ls Hs T res dr hs o od) t.heap) (Afr ad s.heap.size)) args s 0 0 (Afr ad s.heap.size)) (F0 m 76 ls []) := by
  intro n
  induction n with
  | zero => intro M x1 H locs ls hP hS hl  h; cases h
  | succ n ih => intro M x1 H locs ls hP hS hl  h; exact w_X6_passes_b76 C G    ih hP hS hl  h
set_option maxRecDepth 100000 in
set_option maxHeartbeats 4000000 in
theorem w_X6_passes_b19 {res : SL} (C : Cx p s m args meth c cX6_passes 3 none RX6 wsX6_passes) (G : Gx D cs ad s) {Ls : Nat → SL} {Hs : SL} {T : SL} {dr : Int64} {hs : Int64} {o : Int64} {od : UInt64} {K19 : SL → Int32 → Option (SL)} (hK19 : ∀ {M : SL} {x1 : Int32} {H : Heap} {locs : List Loc} {ls : Array Slot}, va_P D vwCl (wA cs ad Ls Hs T M dr hs o od) H → va_S (Afr ad s.heap.size) s.heap H locs → lv_has ls 3 [(0, .ref (ad 89)), (1, .int x1)] → K19 M x1 = some res → W p l e rmX6_passes s m args below meth c H locs 0 0 (MQ below (va_Qv (fun (_ : Unit) => True) (fun _ t => va_P D vwCl (wA cs ad Ls Hs T res dr hs o od) t.heap) (Afr ad s.heap.size)) args s 0 0 (Afr ad s.heap.size)) (F0 m 19 ls [])) {M : SL} {x1 : Int32} {H : Heap} {locs : List Loc} {ls : Array Slot} (hP : va_P D vwCl (wA cs ad Ls Hs T M dr hs o od) H) (hS : va_S (Afr ad s.heap.size) s.heap H locs) (hl : lv_has ls 3 [(0, .ref (ad 89)), (1, .int x1)]) (h : f_X6_passes_b19 K19 M x1 = some res) : W p l e rmX6_passes s m args below meth c H locs 0 0 (MQ below (va_Qv (fun (_ : Unit) => True) (fun _ t => va_P D vwCl (wA cs ad Ls Hs T res dr hs o od) t.heap) (Afr ad s.heap.size)) args s 0 0 (Afr ad s.heap.size)) (F0 m 19 ls []) := by
  unfold f_X6_passes_b19 at h
  refine lv_iload_n C.1 C.2.1 dX6_passes_19 rfl (lv_at hl 1 rfl) ?_
  refine lv_if_lt (tgt := 74) C.1 C.2.1 dX6_passes_20 (by decide) (fun c1 => ?_) (fun c1 => ?_)
  · have h := if_t c1 h
    refine lv_iconst (v := 0) C.1 C.2.1 dX6_passes_74 (by decide) ?_
    refine lv_istore_n (lv' := [(1, .int 0), (0, .ref (ad 89))]) C.1 C.2.1 dX6_passes_75 rfl hl (by decide) rfl (fun ls hl => ?_)
    exact w_X6_passes_h76 C G fuel hP hS (lv_sub hl [1, 0] rfl) h
  · have h := if_f c1 h
    refine lv_aload_n C.1 C.2.1 dX6_passes_23 rfl (lv_at hl 0 rfl) ?_
    refine lv_iload_n C.1 C.2.1 dX6_passes_24 rfl (lv_at hl 1 rfl) ?_
    refine lv_aload_n C.1 C.2.1 dX6_passes_25 rfl (lv_at hl 0 rfl) ?_
    refine k_getf C G hP r_obj rfl 0 (by decide) n_X6_passes_X6 q_X6_passes_0 (v := .ref (ad (89 + 1))) rfl dX6_passes_26 ?_
    refine lv_iconst (v := 1) C.1 C.2.1 dX6_passes_29 (by decide) ?_
    obtain ⟨v2, ev2, h⟩ := lt_out h
    refine k_iald C G hP (r_arr (k := 1) (by decide)) (chk_in rfl) (j := 1) rfl ev2 dX6_passes_30 ?_
    obtain ⟨r3, M4, c5, h⟩ := bd2_out h
    refine k_callVi C G hP hS (m_X6_turns l G.2.1 _  c5) r_obj rfl (cwV 2 C.2.2.2.2.2.1 gX6_passes_X6_turns rfl rfl rfl (by decide +kernel) ⟨Nat.le_of_ble_eq_true rfl, Nat.le_of_ble_eq_true rfl⟩) (As := [.int x1, .int v2]) rfl hl.1 rfl (Nat.le_of_ble_eq_true rfl) dX6_passes_31 ⟨Nat.le_of_ble_eq_true rfl, Nat.le_of_ble_eq_true rfl⟩ (fun H locs hP hS => ?_)
    refine lv_istore_n (lv' := [(2, .int r3), (0, .ref (ad 89)), (1, .int x1)]) C.1 C.2.1 dX6_passes_34 rfl hl (by decide) rfl (fun ls hl => ?_)
    refine lv_aload_n C.1 C.2.1 dX6_passes_35 rfl (lv_at hl 1 rfl) ?_
    refine k_getf C G hP r_obj rfl 0 (by decide) n_X6_passes_X6 q_X6_passes_0 (v := .ref (ad (89 + 1))) rfl dX6_passes_36 ?_
    refine lv_iload_n C.1 C.2.1 dX6_passes_39 rfl (lv_at hl 2 rfl) ?_
    obtain ⟨r6, c7, h⟩ := bd_out h
    refine k_callSi C G hP hS (m_X6_of l G.2.1 _  c7) (va_cwS 1 C.2.2.2.2.2.1 gX6_passes_X6_of rfl rfl rfl (by decide +kernel) ⟨Nat.le_of_ble_eq_true rfl, Nat.le_of_ble_eq_true rfl⟩) (As := [.int x1]) rfl hl.1 rfl (Nat.le_of_ble_eq_true rfl) dX6_passes_40 ⟨Nat.le_of_ble_eq_true rfl, Nat.le_of_ble_eq_true rfl⟩ (fun H locs hP hS => ?_)
    refine lv_bipush (v := 8) C.1 C.2.1 dX6_passes_43 (by decide) ?_
    obtain ⟨v8, ev8, h⟩ := lt_out h
    refine k_iadd C ev8 dX6_passes_45 ?_
    refine lv_iload_n C.1 C.2.1 dX6_passes_46 rfl (lv_at hl 0 rfl) ?_
    obtain ⟨g9, h⟩ := gd_out h
    have g9 := chk_in g9
    obtain ⟨M10, eM10, h⟩ := lt_out h
    refine k_iast C G hP hS (r_arr (k := 1) (by decide)) g9 (j := v8.toNatClampNeg) rfl (r_arrS (k := 1) (by decide)) dX6_passes_47 (fun H locs hP hS => ?_)
    rw [← eM10] at hP
    refine lv_aload_n C.1 C.2.1 dX6_passes_48 rfl (lv_at hl 1 rfl) ?_
    refine k_getf C G hP r_obj rfl 0 (by decide) n_X6_passes_X6 q_X6_passes_0 (v := .ref (ad (89 + 1))) rfl dX6_passes_49 ?_
    refine lv_iload_n C.1 C.2.1 dX6_passes_52 rfl (lv_at hl 2 rfl) ?_
    obtain ⟨r11, c12, h⟩ := bd_out h
    refine k_callSi C G hP hS (m_X6_of l G.2.1 _  c12) (va_cwS 1 C.2.2.2.2.2.1 gX6_passes_X6_of rfl rfl rfl (by decide +kernel) ⟨Nat.le_of_ble_eq_true rfl, Nat.le_of_ble_eq_true rfl⟩) (As := [.int x1]) rfl hl.1 rfl (Nat.le_of_ble_eq_true rfl) dX6_passes_53 ⟨Nat.le_of_ble_eq_true rfl, Nat.le_of_ble_eq_true rfl⟩ (fun H locs hP hS => ?_)
    refine lv_bipush (v := 9) C.1 C.2.1 dX6_passes_56 (by decide) ?_
    obtain ⟨v13, ev13, h⟩ := lt_out h
    refine k_iadd C ev13 dX6_passes_58 ?_
    refine lv_iload_n C.1 C.2.1 dX6_passes_59 rfl (lv_at hl 0 rfl) ?_
    obtain ⟨v14, ev14, h⟩ := lt_out h
    refine k_iadd C ev14 dX6_passes_60 ?_
    refine lv_iconst (v := 1) C.1 C.2.1 dX6_passes_61 (by decide) ?_
    obtain ⟨v15, ev15, h⟩ := lt_out h
    refine k_isub C ev15 dX6_passes_62 ?_
    refine lv_dup2_11 C.1 C.2.1 dX6_passes_63 rfl rfl ?_
    obtain ⟨g16, h⟩ := gd_out h
    have g16 := chk_in g16
    obtain ⟨v17, ev17, h⟩ := lt_out h
    refine k_iald C G hP (r_arr (k := 1) (by decide)) g16 (j := v15.toNatClampNeg) rfl ev17 dX6_passes_64 ?_
    refine lv_iconst (v := 1) C.1 C.2.1 dX6_passes_65 (by decide) ?_
    obtain ⟨v18, ev18, h⟩ := lt_out h
    refine k_iadd C ev18 dX6_passes_66 ?_
    obtain ⟨M19, eM19, h⟩ := lt_out h
    refine k_iast C G hP hS (r_arr (k := 1) (by decide)) g16 (j := v15.toNatClampNeg) rfl (r_arrS (k := 1) (by decide)) dX6_passes_67 (fun H locs hP hS => ?_)
    rw [← eM19] at hP
    obtain ⟨z20, ez20, h⟩ := lt_out h
    refine lv_iinc (v := z20) (lv' := [(1, .int z20), (2, .int r3), (0, .ref (ad 89))]) C.1 C.2.1 dX6_passes_68 hl (k := 2) rfl (by rw [ez20]; rfl) (by decide) rfl (fun ls hl => ?_)
    refine lv_goto (tgt := 19) C.1 C.2.1 dX6_passes_71 (by decide) ?_
    exact hK19 hP hS (lv_sub hl [2, 0] rfl)  h
set_option maxRecDepth 100000 in
set_option maxHeartbeats 4000000 in
theorem w_X6_passes_h19 {res : SL} (C : Cx p s m args meth c cX6_passes 3 none RX6 wsX6_passes) (G : Gx D cs ad s) {Ls : Nat → SL} {Hs : SL} {T : SL} {dr : Int64} {hs : Int64} {o : Int64} {od : UInt64} : ∀ (n : Nat) {M : SL} {x1 : Int32} {H : Heap} {locs : List Loc} {ls : Array Slot}, va_P D vwCl (wA cs ad Ls Hs T M dr hs o od) H → va_S (Afr ad s.heap.size) s.heap H locs → lv_has ls 3 [(0, .ref (ad 89)), (1, .int x1)] → f_X6_passes_h19 n M x1 = some res → W p l e rmX6_passes s m args below meth c H locs 0 0 (MQ below (va_Qv (fun (_ : Unit) => True) (fun _ t => va_P D vwCl (wA cs ad Ls Hs T res dr hs o od) t.heap) (Afr ad s.heap.size)) args s 0 0 (Afr ad s.heap.size)) (F0 m 19 ls []) := by
  intro n
  induction n with
  | zero => intro M x1 H locs ls hP hS hl  h; cases h
  | succ n ih => intro M x1 H locs ls hP hS hl  h; exact w_X6_passes_b19 C G    ih hP hS hl  h
set_option maxRecDepth 100000 in
set_option maxHeartbeats 4000000 in
theorem w_X6_passes_e {res : SL} (C : Cx p s m args meth c cX6_passes 3 none RX6 wsX6_passes) (G : Gx D cs ad s) {Ls : Nat → SL} {Hs : SL} {T : SL} {dr : Int64} {hs : Int64} {o : Int64} {od : UInt64} {M : SL} {H : Heap} {locs : List Loc} {ls : Array Slot} (hP : va_P D vwCl (wA cs ad Ls Hs T M dr hs o od) H) (hS : va_S (Afr ad s.heap.size) s.heap H locs) (hl : lv_has ls 3 [(0, .ref (ad 89))]) (h : f_X6_passes M = some res) : W p l e rmX6_passes s m args below meth c H locs 0 0 (MQ below (va_Qv (fun (_ : Unit) => True) (fun _ t => va_P D vwCl (wA cs ad Ls Hs T res dr hs o od) t.heap) (Afr ad s.heap.size)) args s 0 0 (Afr ad s.heap.size)) (F0 m 0 ls []) := by
  unfold f_X6_passes at h
  refine lv_aload_n C.1 C.2.1 dX6_passes_0 rfl (lv_at hl 0 rfl) ?_
  refine k_getf C G hP r_obj rfl 0 (by decide) n_X6_passes_X6 q_X6_passes_0 (v := .ref (ad (89 + 1))) rfl dX6_passes_1 ?_
  refine lv_iconst (v := 1) C.1 C.2.1 dX6_passes_4 (by decide) ?_
  refine lv_dup2_11 C.1 C.2.1 dX6_passes_5 rfl rfl ?_
  obtain ⟨v1, ev1, h⟩ := lt_out h
  refine k_iald C G hP (r_arr (k := 1) (by decide)) (chk_in rfl) (j := 1) rfl ev1 dX6_passes_6 ?_
  refine lv_iconst (v := 1) C.1 C.2.1 dX6_passes_7 (by decide) ?_
  obtain ⟨v2, ev2, h⟩ := lt_out h
  refine k_iadd C ev2 dX6_passes_8 ?_
  obtain ⟨M3, eM3, h⟩ := lt_out h
  refine k_iast C G hP hS (r_arr (k := 1) (by decide)) (chk_in rfl) (j := 1) rfl (r_arrS (k := 1) (by decide)) dX6_passes_9 (fun H locs hP hS => ?_)
  rw [← eM3] at hP
  refine lv_aload_n C.1 C.2.1 dX6_passes_10 rfl (lv_at hl 0 rfl) ?_
  refine k_getf C G hP r_obj rfl 0 (by decide) n_X6_passes_X6 q_X6_passes_0 (v := .ref (ad (89 + 1))) rfl dX6_passes_11 ?_
  refine lv_iconst (v := 0) C.1 C.2.1 dX6_passes_14 (by decide) ?_
  obtain ⟨v4, ev4, h⟩ := lt_out h
  refine k_iald C G hP (r_arr (k := 1) (by decide)) (chk_in rfl) (j := 0) rfl ev4 dX6_passes_15 ?_
  refine lv_iconst (v := 1) C.1 C.2.1 dX6_passes_16 (by decide) ?_
  obtain ⟨v5, ev5, h⟩ := lt_out h
  refine k_isub C ev5 dX6_passes_17 ?_
  refine lv_istore_n (lv' := [(1, .int v5), (0, .ref (ad 89))]) C.1 C.2.1 dX6_passes_18 rfl hl (by decide) rfl (fun ls hl => ?_)
  exact w_X6_passes_h19 C G fuel hP hS (lv_sub hl [1, 0] rfl) h
set_option maxRecDepth 100000 in
set_option maxHeartbeats 4000000 in
theorem m_X6_passes (l : Launch) {D : va_G} {cs : Nat → ClassId} {ad : Nat → Nat} (hAd : adOK ad) (sz : Nat) {Ls : Nat → SL} {Hs : SL} {T : SL} {M : SL} {dr : Int64} {hs : Int64} {o : Int64} {od : UInt64} {res : SL} (h : f_X6_passes M = some res) : Met l yX6_passes wsX6_passes rmX6_passes (PA D cs sz (wA cs ad Ls Hs T M dr hs o od) [.ref (ad 89)]) (va_Qv (fun (_ : Unit) => True) (fun _ t => va_P D vwCl (wA cs ad Ls Hs T res dr hs o od) t.heap) (Afr ad sz)) 0 0 (Afr ad sz) :=
  k_met (by decide) rfl (Nat.le_of_ble_eq_true rfl) hAd (fun p e s m below meth c ls C G hP hsz hl hS => by
    subst hsz
    exact w_X6_passes_e C G  hP hS hl  h)
/-! X6 made -/
abbrev rmX6_made : Room := { frames := 1, cells := 0, slots := 0, locals := 20 }
theorem q_X6_made_0 : Cond.fieldLink RX6 7 "LineBuffersModel" "now" "[I" ∈ wsX6_made := List.mem_of_getElem? (i := 1) rfl
theorem n_X6_made_X6 : ∀ x ∈ u_ws RX6 TX6 12, x ∈ wsX6_made := fun x h => List.mem_cons_of_mem _ (List.mem_append_right _ h)
set_option maxRecDepth 100000 in
set_option maxHeartbeats 4000000 in
theorem w_X6_made_e {res : Int32} (C : Cx p s m args meth c cX6_made 1 (some .int) RX6 wsX6_made) (G : Gx D cs ad s) {Ls : Nat → SL} {Hs : SL} {T : SL} {dr : Int64} {hs : Int64} {o : Int64} {od : UInt64} {M : SL} {H : Heap} {locs : List Loc} {ls : Array Slot} (hP : va_P D vwCl (wA cs ad Ls Hs T M dr hs o od) H) (hS : va_S (Afr ad s.heap.size) s.heap H locs) (hl : lv_has ls 1 [(0, .ref (ad 89))]) (h : f_X6_made M = some res) : W p l e rmX6_made s m args below meth c H locs 0 0 (MQ below (va_Qi (fun r' (_ : Unit) => r' = res) (fun _ t => va_P D vwCl (wA cs ad Ls Hs T M dr hs o od) t.heap) (Afr ad s.heap.size)) args s 0 0 (Afr ad s.heap.size)) (F0 m 0 ls []) := by
  unfold f_X6_made at h
  refine lv_aload_n C.1 C.2.1 dX6_made_0 rfl (lv_at hl 0 rfl) ?_
  refine k_getf C G hP r_obj rfl 0 (by decide) n_X6_made_X6 q_X6_made_0 (v := .ref (ad (89 + 1))) rfl dX6_made_1 ?_
  refine lv_iconst (v := 0) C.1 C.2.1 dX6_made_4 (by decide) ?_
  obtain ⟨v1, ev1, h⟩ := lt_out h
  refine k_iald C G hP (r_arr (k := 1) (by decide)) (chk_in rfl) (j := 0) rfl ev1 dX6_made_5 ?_
  refine lv_if_ne (tgt := 13) C.1 C.2.1 dX6_made_6 (by decide) (fun c2 => ?_) (fun c2 => ?_)
  · have h := if_t c2 h
    refine lv_aload_n C.1 C.2.1 dX6_made_13 rfl (lv_at hl 0 rfl) ?_
    refine k_getf C G hP r_obj rfl 0 (by decide) n_X6_made_X6 q_X6_made_0 (v := .ref (ad (89 + 1))) rfl dX6_made_14 ?_
    refine lv_aload_n C.1 C.2.1 dX6_made_17 rfl (lv_at hl 0 rfl) ?_
    refine k_getf C G hP r_obj rfl 0 (by decide) n_X6_made_X6 q_X6_made_0 (v := .ref (ad (89 + 1))) rfl dX6_made_18 ?_
    refine lv_iconst (v := 0) C.1 C.2.1 dX6_made_21 (by decide) ?_
    obtain ⟨v3, ev3, h⟩ := lt_out h
    refine k_iald C G hP (r_arr (k := 1) (by decide)) (chk_in rfl) (j := 0) rfl ev3 dX6_made_22 ?_
    refine lv_iconst (v := 1) C.1 C.2.1 dX6_made_23 (by decide) ?_
    obtain ⟨v4, ev4, h⟩ := lt_out h
    refine k_isub C ev4 dX6_made_24 ?_
    obtain ⟨r5, c6, h⟩ := bd_out h
    refine k_callSi C G hP hS (m_X6_of l G.2.1 _  c6) (va_cwS 1 C.2.2.2.2.2.1 gX6_made_X6_of rfl rfl rfl (by decide +kernel) ⟨Nat.le_of_ble_eq_true rfl, Nat.le_of_ble_eq_true rfl⟩) (As := [.int v4]) rfl hl.1 rfl (Nat.le_of_ble_eq_true rfl) dX6_made_25 ⟨Nat.le_of_ble_eq_true rfl, Nat.le_of_ble_eq_true rfl⟩ (fun H locs hP hS => ?_)
    refine lv_bipush (v := 9) C.1 C.2.1 dX6_made_28 (by decide) ?_
    obtain ⟨v7, ev7, h⟩ := lt_out h
    refine k_iadd C ev7 dX6_made_30 ?_
    refine lv_iconst (v := 4) C.1 C.2.1 dX6_made_31 (by decide) ?_
    obtain ⟨v8, ev8, h⟩ := lt_out h
    refine k_iadd C ev8 dX6_made_32 ?_
    obtain ⟨g9, h⟩ := gd_out h
    have g9 := chk_in g9
    obtain ⟨v10, ev10, h⟩ := lt_out h
    refine k_iald C G hP (r_arr (k := 1) (by decide)) g9 (j := v8.toNatClampNeg) rfl ev10 dX6_made_33 ?_
    cases h
    exact k_iret C hP hS dX6_made_34
  · have h := if_n c2 h
    refine lv_iconst (v := 0) C.1 C.2.1 dX6_made_9 (by decide) ?_
    refine lv_goto (tgt := 34) C.1 C.2.1 dX6_made_10 (by decide) ?_
    cases h
    exact k_iret C hP hS dX6_made_34
set_option maxRecDepth 100000 in
set_option maxHeartbeats 4000000 in
theorem m_X6_made (l : Launch) {D : va_G} {cs : Nat → ClassId} {ad : Nat → Nat} (hAd : adOK ad) (sz : Nat) {Ls : Nat → SL} {Hs : SL} {T : SL} {M : SL} {dr : Int64} {hs : Int64} {o : Int64} {od : UInt64} {res : Int32} (h : f_X6_made M = some res) : Met l yX6_made wsX6_made rmX6_made (PA D cs sz (wA cs ad Ls Hs T M dr hs o od) [.ref (ad 89)]) (va_Qi (fun r' (_ : Unit) => r' = res) (fun _ t => va_P D vwCl (wA cs ad Ls Hs T M dr hs o od) t.heap) (Afr ad sz)) 0 0 (Afr ad sz) :=
  k_met (by decide) rfl (Nat.le_of_ble_eq_true rfl) hAd (fun p e s m below meth c ls C G hP hsz hl hS => by
    subst hsz
    exact w_X6_made_e C G  hP hS hl  h)
/-! X6 goes -/
abbrev rmX6_goes : Room := { frames := 4, cells := 0, slots := 0, locals := 92 }
theorem q_X6_goes_0 : Cond.fieldLink RX6 7 "LineBuffersModel" "now" "[I" ∈ wsX6_goes := List.mem_of_getElem? (i := 1) rfl
theorem n_X6_goes_X6 : ∀ x ∈ u_ws RX6 TX6 12, x ∈ wsX6_goes := fun x h => List.mem_cons_of_mem _ (List.mem_append_right _ h)
set_option maxRecDepth 100000 in
set_option maxHeartbeats 4000000 in
theorem w_X6_goes_b27 {res : Int32 × SL} (C : Cx p s m args meth c cX6_goes 4 (some .int) RX6 wsX6_goes) (G : Gx D cs ad s) {Ls : Nat → SL} {Hs : SL} {T : SL} {dr : Int64} {hs : Int64} {o : Int64} {od : UInt64} {K27 : SL → Int32 → Int32 → Int32 → Option (Int32 × SL)} (hK27 : ∀ {M : SL} {x1 : Int32} {x2 : Int32} {x3 : Int32} {H : Heap} {locs : List Loc} {ls : Array Slot}, va_P D vwCl (wA cs ad Ls Hs T M dr hs o od) H → va_S (Afr ad s.heap.size) s.heap H locs → lv_has ls 4 [(0, .ref (ad 89)), (1, .int x1), (2, .int x2), (3, .int x3)] → K27 M x1 x2 x3 = some res → W p l e rmX6_goes s m args below meth c H locs 0 0 (MQ below (va_Qi (fun r' (_ : Unit) => r' = res.1) (fun _ t => va_P D vwCl (wA cs ad Ls Hs T res.2 dr hs o od) t.heap) (Afr ad s.heap.size)) args s 0 0 (Afr ad s.heap.size)) (F0 m 27 ls [])) {M : SL} {x1 : Int32} {x2 : Int32} {x3 : Int32} {H : Heap} {locs : List Loc} {ls : Array Slot} (hP : va_P D vwCl (wA cs ad Ls Hs T M dr hs o od) H) (hS : va_S (Afr ad s.heap.size) s.heap H locs) (hl : lv_has ls 4 [(0, .ref (ad 89)), (1, .int x1), (2, .int x2), (3, .int x3)]) (h : f_X6_goes_b27 K27 M x1 x2 x3 = some res) : W p l e rmX6_goes s m args below meth c H locs 0 0 (MQ below (va_Qi (fun r' (_ : Unit) => r' = res.1) (fun _ t => va_P D vwCl (wA cs ad Ls Hs T res.2 dr hs o od) t.heap) (Afr ad s.heap.size)) args s 0 0 (Afr ad s.heap.size)) (F0 m 27 ls []) := by
  unfold f_X6_goes_b27 at h
  refine lv_iload_n C.1 C.2.1 dX6_goes_27 rfl (lv_at hl 3 rfl) ?_
  refine lv_iload_n C.1 C.2.1 dX6_goes_28 rfl (lv_at hl 1 rfl) ?_
  refine lv_icmp_ge (tgt := 42) C.1 C.2.1 dX6_goes_29 (by decide) (fun c1 => ?_) (fun c1 => ?_)
  · have h := if_t c1 h
    refine lv_aload_n C.1 C.2.1 dX6_goes_42 rfl (lv_at hl 0 rfl) ?_
    obtain ⟨r2, c3, h⟩ := bd_out h
    refine k_callVi C G hP hS (m_X6_made l G.2.1 _  c3) r_obj rfl (cwV 0 C.2.2.2.2.2.1 gX6_goes_X6_made rfl rfl rfl (by decide +kernel) ⟨Nat.le_of_ble_eq_true rfl, Nat.le_of_ble_eq_true rfl⟩) (As := []) rfl hl.1 rfl (Nat.le_of_ble_eq_true rfl) dX6_goes_43 ⟨Nat.le_of_ble_eq_true rfl, Nat.le_of_ble_eq_true rfl⟩ (fun H locs hP hS => ?_)
    refine lv_iload_n C.1 C.2.1 dX6_goes_46 rfl (lv_at hl 2 rfl) ?_
    obtain ⟨v4, ev4, h⟩ := lt_out h
    refine k_isub C ev4 dX6_goes_47 ?_
    cases h
    exact k_iret C hP hS dX6_goes_48
  · have h := if_f c1 h
    refine lv_aload_n C.1 C.2.1 dX6_goes_32 rfl (lv_at hl 0 rfl) ?_
    obtain ⟨M5, c6, h⟩ := bd_out h
    refine k_callVv C G hP hS (m_X6_passes l G.2.1 _  c6) r_obj rfl (cwV 0 C.2.2.2.2.2.1 gX6_goes_X6_passes rfl rfl rfl (by decide +kernel) ⟨Nat.le_of_ble_eq_true rfl, Nat.le_of_ble_eq_true rfl⟩) (As := []) rfl hl.1 rfl (Nat.le_of_ble_eq_true rfl) dX6_goes_33 ⟨Nat.le_of_ble_eq_true rfl, Nat.le_of_ble_eq_true rfl⟩ (fun H locs hP hS => ?_)
    obtain ⟨z7, ez7, h⟩ := lt_out h
    refine lv_iinc (v := z7) (lv' := [(3, .int z7), (0, .ref (ad 89)), (1, .int x1), (2, .int x2)]) C.1 C.2.1 dX6_goes_36 hl (k := 3) rfl (by rw [ez7]; rfl) (by decide) rfl (fun ls hl => ?_)
    refine lv_goto (tgt := 27) C.1 C.2.1 dX6_goes_39 (by decide) ?_
    exact hK27 hP hS (lv_sub hl [1, 2, 3, 0] rfl)  h
set_option maxRecDepth 100000 in
set_option maxHeartbeats 4000000 in
theorem w_X6_goes_h27 {res : Int32 × SL} (C : Cx p s m args meth c cX6_goes 4 (some .int) RX6 wsX6_goes) (G : Gx D cs ad s) {Ls : Nat → SL} {Hs : SL} {T : SL} {dr : Int64} {hs : Int64} {o : Int64} {od : UInt64} : ∀ (n : Nat) {M : SL} {x1 : Int32} {x2 : Int32} {x3 : Int32} {H : Heap} {locs : List Loc} {ls : Array Slot}, va_P D vwCl (wA cs ad Ls Hs T M dr hs o od) H → va_S (Afr ad s.heap.size) s.heap H locs → lv_has ls 4 [(0, .ref (ad 89)), (1, .int x1), (2, .int x2), (3, .int x3)] → f_X6_goes_h27 n M x1 x2 x3 = some res → W p l e rmX6_goes s m args below meth c H locs 0 0 (MQ below (va_Qi (fun r' (_ : Unit) => r' = res.1) (fun _ t => va_P D vwCl (wA cs ad Ls Hs T res.2 dr hs o od) t.heap) (Afr ad s.heap.size)) args s 0 0 (Afr ad s.heap.size)) (F0 m 27 ls []) := by
  intro n
  induction n with
  | zero => intro M x1 x2 x3 H locs ls hP hS hl  h; cases h
  | succ n ih => intro M x1 x2 x3 H locs ls hP hS hl  h; exact w_X6_goes_b27 C G    ih hP hS hl  h
set_option maxRecDepth 100000 in
set_option maxHeartbeats 4000000 in
theorem w_X6_goes_e {res : Int32 × SL} (C : Cx p s m args meth c cX6_goes 4 (some .int) RX6 wsX6_goes) (G : Gx D cs ad s) {Ls : Nat → SL} {Hs : SL} {T : SL} {dr : Int64} {hs : Int64} {o : Int64} {od : UInt64} {M : SL} {x1 : Int32} {H : Heap} {locs : List Loc} {ls : Array Slot} (hP : va_P D vwCl (wA cs ad Ls Hs T M dr hs o od) H) (hS : va_S (Afr ad s.heap.size) s.heap H locs) (hl : lv_has ls 4 [(0, .ref (ad 89)), (1, .int x1)]) (h : f_X6_goes M x1 = some res) : W p l e rmX6_goes s m args below meth c H locs 0 0 (MQ below (va_Qi (fun r' (_ : Unit) => r' = res.1) (fun _ t => va_P D vwCl (wA cs ad Ls Hs T res.2 dr hs o od) t.heap) (Afr ad s.heap.size)) args s 0 0 (Afr ad s.heap.size)) (F0 m 0 ls []) := by
  unfold f_X6_goes at h
  refine lv_aload_n C.1 C.2.1 dX6_goes_0 rfl (lv_at hl 0 rfl) ?_
  obtain ⟨r1, c2, h⟩ := bd_out h
  refine k_callVi C G hP hS (m_X6_made l G.2.1 _  c2) r_obj rfl (cwV 0 C.2.2.2.2.2.1 gX6_goes_X6_made rfl rfl rfl (by decide +kernel) ⟨Nat.le_of_ble_eq_true rfl, Nat.le_of_ble_eq_true rfl⟩) (As := []) rfl hl.1 rfl (Nat.le_of_ble_eq_true rfl) dX6_goes_1 ⟨Nat.le_of_ble_eq_true rfl, Nat.le_of_ble_eq_true rfl⟩ (fun H locs hP hS => ?_)
  refine lv_istore_n (lv' := [(2, .int r1), (0, .ref (ad 89)), (1, .int x1)]) C.1 C.2.1 dX6_goes_4 rfl hl (by decide) rfl (fun ls hl => ?_)
  refine lv_aload_n C.1 C.2.1 dX6_goes_5 rfl (lv_at hl 1 rfl) ?_
  refine lv_aload_n C.1 C.2.1 dX6_goes_6 rfl (lv_at hl 1 rfl) ?_
  refine k_getf C G hP r_obj rfl 0 (by decide) n_X6_goes_X6 q_X6_goes_0 (v := .ref (ad (89 + 1))) rfl dX6_goes_7 ?_
  refine lv_iconst (v := 1) C.1 C.2.1 dX6_goes_10 (by decide) ?_
  obtain ⟨v3, ev3, h⟩ := lt_out h
  refine k_iald C G hP (r_arr (k := 1) (by decide)) (chk_in rfl) (j := 1) rfl ev3 dX6_goes_11 ?_
  refine lv_iconst (v := 1) C.1 C.2.1 dX6_goes_12 (by decide) ?_
  obtain ⟨v4, ev4, h⟩ := lt_out h
  refine k_iadd C ev4 dX6_goes_13 ?_
  refine lv_aload_n C.1 C.2.1 dX6_goes_14 rfl (lv_at hl 1 rfl) ?_
  refine k_getf C G hP r_obj rfl 0 (by decide) n_X6_goes_X6 q_X6_goes_0 (v := .ref (ad (89 + 1))) rfl dX6_goes_15 ?_
  refine lv_iconst (v := 1) C.1 C.2.1 dX6_goes_18 (by decide) ?_
  obtain ⟨v5, ev5, h⟩ := lt_out h
  refine k_iald C G hP (r_arr (k := 1) (by decide)) (chk_in rfl) (j := 1) rfl ev5 dX6_goes_19 ?_
  refine lv_iload_n C.1 C.2.1 dX6_goes_20 rfl (lv_at hl 2 rfl) ?_
  obtain ⟨v6, ev6, h⟩ := lt_out h
  refine k_iadd C ev6 dX6_goes_21 ?_
  obtain ⟨M7, c8, h⟩ := bd_out h
  refine k_callVv C G hP hS (m_X6_laysDown l G.2.1 _  c8) r_obj rfl (cwV 2 C.2.2.2.2.2.1 gX6_goes_X6_laysDown rfl rfl rfl (by decide +kernel) ⟨Nat.le_of_ble_eq_true rfl, Nat.le_of_ble_eq_true rfl⟩) (As := [.int v4, .int v6]) rfl hl.1 rfl (Nat.le_of_ble_eq_true rfl) dX6_goes_22 ⟨Nat.le_of_ble_eq_true rfl, Nat.le_of_ble_eq_true rfl⟩ (fun H locs hP hS => ?_)
  refine lv_iconst (v := 0) C.1 C.2.1 dX6_goes_25 (by decide) ?_
  refine lv_istore_n (lv' := [(3, .int 0), (2, .int r1), (0, .ref (ad 89)), (1, .int x1)]) C.1 C.2.1 dX6_goes_26 rfl hl (by decide) rfl (fun ls hl => ?_)
  exact w_X6_goes_h27 C G fuel hP hS (lv_sub hl [2, 3, 1, 0] rfl) h
set_option maxRecDepth 100000 in
set_option maxHeartbeats 4000000 in
theorem m_X6_goes (l : Launch) {D : va_G} {cs : Nat → ClassId} {ad : Nat → Nat} (hAd : adOK ad) (sz : Nat) {Ls : Nat → SL} {Hs : SL} {T : SL} {M : SL} {dr : Int64} {hs : Int64} {o : Int64} {od : UInt64} {x1 : Int32} {res : Int32 × SL} (h : f_X6_goes M x1 = some res) : Met l yX6_goes wsX6_goes rmX6_goes (PA D cs sz (wA cs ad Ls Hs T M dr hs o od) [.ref (ad 89), .int x1]) (va_Qi (fun r' (_ : Unit) => r' = res.1) (fun _ t => va_P D vwCl (wA cs ad Ls Hs T res.2 dr hs o od) t.heap) (Afr ad sz)) 0 0 (Afr ad sz) :=
  k_met (by decide) rfl (Nat.le_of_ble_eq_true rfl) hAd (fun p e s m below meth c ls C G hP hsz hl hS => by
    subst hsz
    exact w_X6_goes_e C G  hP hS hl  h)
/-! X6 run -/
abbrev rmX6_run : Room := { frames := 5, cells := 0, slots := 0, locals := 115 }
theorem q_X6_run_0 : Cond.fieldLink RX6 7 "LineBuffersModel" "now" "[I" ∈ wsX6_run := List.mem_of_getElem? (i := 1) rfl
theorem n_X6_run_X6 : ∀ x ∈ u_ws RX6 TX6 12, x ∈ wsX6_run := fun x h => List.mem_cons_of_mem _ (List.mem_append_right _ h)
set_option maxRecDepth 100000 in
set_option maxHeartbeats 4000000 in
theorem w_X6_run_b44 {res : Int32 × SL} (C : Cx p s m args meth c cX6_run 2 (some .int) RX6 wsX6_run) (G : Gx D cs ad s) {Ls : Nat → SL} {Hs : SL} {T : SL} {dr : Int64} {hs : Int64} {o : Int64} {od : UInt64} {M : SL} {x1 : Int32} {s1 : Int32} {H : Heap} {locs : List Loc} {ls : Array Slot} (hP : va_P D vwCl (wA cs ad Ls Hs T M dr hs o od) H) (hS : va_S (Afr ad s.heap.size) s.heap H locs) (hl : lv_has ls 2 [(0, .ref (ad 89)), (1, .int x1)]) (h : f_X6_run_b44 M x1 s1 = some res) : W p l e rmX6_run s m args below meth c H locs 0 0 (MQ below (va_Qi (fun r' (_ : Unit) => r' = res.1) (fun _ t => va_P D vwCl (wA cs ad Ls Hs T res.2 dr hs o od) t.heap) (Afr ad s.heap.size)) args s 0 0 (Afr ad s.heap.size)) (F0 m 44 ls [.int s1, .ref (ad 89)]) := by
  unfold f_X6_run_b44 at h
  obtain ⟨r1, M2, c3, h⟩ := bd2_out h
  refine k_callVi C G hP hS (m_X6_refused l G.2.1 _  c3) r_obj rfl (cwV 1 C.2.2.2.2.2.1 gX6_run_X6_refused rfl rfl rfl (by decide +kernel) ⟨Nat.le_of_ble_eq_true rfl, Nat.le_of_ble_eq_true rfl⟩) (As := [.int s1]) rfl hl.1 rfl (Nat.le_of_ble_eq_true rfl) dX6_run_44 ⟨Nat.le_of_ble_eq_true rfl, Nat.le_of_ble_eq_true rfl⟩ (fun H locs hP hS => ?_)
  refine lv_if_eq (tgt := 52) C.1 C.2.1 dX6_run_47 (by decide) (fun c4 => ?_) (fun c4 => ?_)
  · have h := if_t c4 h
    refine lv_aload_n C.1 C.2.1 dX6_run_52 rfl (lv_at hl 0 rfl) ?_
    obtain ⟨M5, c6, h⟩ := bd_out h
    refine k_callVv C G hP hS (m_X6_saves l G.2.1 _  c6) r_obj rfl (cwV 0 C.2.2.2.2.2.1 gX6_run_X6_saves rfl rfl rfl (by decide +kernel) ⟨Nat.le_of_ble_eq_true rfl, Nat.le_of_ble_eq_true rfl⟩) (As := []) rfl hl.1 rfl (Nat.le_of_ble_eq_true rfl) dX6_run_53 ⟨Nat.le_of_ble_eq_true rfl, Nat.le_of_ble_eq_true rfl⟩ (fun H locs hP hS => ?_)
    refine lv_aload_n C.1 C.2.1 dX6_run_56 rfl (lv_at hl 0 rfl) ?_
    refine lv_iload_n C.1 C.2.1 dX6_run_57 rfl (lv_at hl 1 rfl) ?_
    obtain ⟨r7, M8, c9, h⟩ := bd2_out h
    refine k_callVi C G hP hS (m_X6_goes l G.2.1 _  c9) r_obj rfl (cwV 1 C.2.2.2.2.2.1 gX6_run_X6_goes rfl rfl rfl (by decide +kernel) ⟨Nat.le_of_ble_eq_true rfl, Nat.le_of_ble_eq_true rfl⟩) (As := [.int x1]) rfl hl.1 rfl (Nat.le_of_ble_eq_true rfl) dX6_run_58 ⟨Nat.le_of_ble_eq_true rfl, Nat.le_of_ble_eq_true rfl⟩ (fun H locs hP hS => ?_)
    cases h
    exact k_iret C hP hS dX6_run_61
  · have h := if_f c4 h
    refine lv_iconst (v := 0) C.1 C.2.1 dX6_run_50 (by decide) ?_
    cases h
    exact k_iret C hP hS dX6_run_51
set_option maxRecDepth 100000 in
set_option maxHeartbeats 4000000 in
theorem w_X6_run_b39 {res : Int32 × SL} (C : Cx p s m args meth c cX6_run 2 (some .int) RX6 wsX6_run) (G : Gx D cs ad s) {Ls : Nat → SL} {Hs : SL} {T : SL} {dr : Int64} {hs : Int64} {o : Int64} {od : UInt64} {M : SL} {x1 : Int32} {H : Heap} {locs : List Loc} {ls : Array Slot} (hP : va_P D vwCl (wA cs ad Ls Hs T M dr hs o od) H) (hS : va_S (Afr ad s.heap.size) s.heap H locs) (hl : lv_has ls 2 [(0, .ref (ad 89)), (1, .int x1)]) (h : f_X6_run_b39 M x1 = some res) : W p l e rmX6_run s m args below meth c H locs 0 0 (MQ below (va_Qi (fun r' (_ : Unit) => r' = res.1) (fun _ t => va_P D vwCl (wA cs ad Ls Hs T res.2 dr hs o od) t.heap) (Afr ad s.heap.size)) args s 0 0 (Afr ad s.heap.size)) (F0 m 39 ls [.ref (ad 89)]) := by
  unfold f_X6_run_b39 at h
  refine lv_iconst (v := 2) C.1 C.2.1 dX6_run_39 (by decide) ?_
  refine lv_goto (tgt := 44) C.1 C.2.1 dX6_run_40 (by decide) ?_
  exact w_X6_run_b44 C G hP hS (lv_sub hl [0, 1] rfl) h
set_option maxRecDepth 100000 in
set_option maxHeartbeats 4000000 in
theorem w_X6_run_e {res : Int32 × SL} (C : Cx p s m args meth c cX6_run 2 (some .int) RX6 wsX6_run) (G : Gx D cs ad s) {Ls : Nat → SL} {Hs : SL} {T : SL} {dr : Int64} {hs : Int64} {o : Int64} {od : UInt64} {M : SL} {x1 : Int32} {H : Heap} {locs : List Loc} {ls : Array Slot} (hP : va_P D vwCl (wA cs ad Ls Hs T M dr hs o od) H) (hS : va_S (Afr ad s.heap.size) s.heap H locs) (hl : lv_has ls 2 [(0, .ref (ad 89)), (1, .int x1)]) (h : f_X6_run M x1 = some res) : W p l e rmX6_run s m args below meth c H locs 0 0 (MQ below (va_Qi (fun r' (_ : Unit) => r' = res.1) (fun _ t => va_P D vwCl (wA cs ad Ls Hs T res.2 dr hs o od) t.heap) (Afr ad s.heap.size)) args s 0 0 (Afr ad s.heap.size)) (F0 m 0 ls []) := by
  unfold f_X6_run at h
  refine lv_aload_n C.1 C.2.1 dX6_run_0 rfl (lv_at hl 0 rfl) ?_
  refine lv_iload_n C.1 C.2.1 dX6_run_1 rfl (lv_at hl 1 rfl) ?_
  refine lv_iconst (v := 0) C.1 C.2.1 dX6_run_2 (by decide) ?_
  refine lv_sipush (v := 2000) C.1 C.2.1 dX6_run_3 (by decide) ?_
  obtain ⟨r1, c2, h⟩ := bd_out h
  refine k_callSi C G hP hS (m_X6_within l G.2.1 _  c2) (va_cwS 3 C.2.2.2.2.2.1 gX6_run_X6_within rfl rfl rfl (by decide +kernel) ⟨Nat.le_of_ble_eq_true rfl, Nat.le_of_ble_eq_true rfl⟩) (As := [.int x1, .int 0, .int 2000]) rfl hl.1 rfl (Nat.le_of_ble_eq_true rfl) dX6_run_6 ⟨Nat.le_of_ble_eq_true rfl, Nat.le_of_ble_eq_true rfl⟩ (fun H locs hP hS => ?_)
  refine lv_if_ne (tgt := 16) C.1 C.2.1 dX6_run_9 (by decide) (fun c3 => ?_) (fun c3 => ?_)
  · have h := if_t c3 h
    refine lv_aload_n C.1 C.2.1 dX6_run_16 rfl (lv_at hl 0 rfl) ?_
    refine k_getf C G hP r_obj rfl 0 (by decide) n_X6_run_X6 q_X6_run_0 (v := .ref (ad (89 + 1))) rfl dX6_run_17 ?_
    refine lv_iconst (v := 0) C.1 C.2.1 dX6_run_20 (by decide) ?_
    obtain ⟨v4, ev4, h⟩ := lt_out h
    refine k_iald C G hP (r_arr (k := 1) (by decide)) (chk_in rfl) (j := 0) rfl ev4 dX6_run_21 ?_
    refine lv_if_eq (tgt := 39) C.1 C.2.1 dX6_run_22 (by decide) (fun c5 => ?_) (fun c5 => ?_)
    · have h := if_t c5 h
      exact w_X6_run_b39 C G hP hS (lv_sub hl [0, 1] rfl) h
    · have h := if_f c5 h
      refine lv_aload_n C.1 C.2.1 dX6_run_25 rfl (lv_at hl 0 rfl) ?_
      refine k_getf C G hP r_obj rfl 0 (by decide) n_X6_run_X6 q_X6_run_0 (v := .ref (ad (89 + 1))) rfl dX6_run_26 ?_
      refine lv_iconst (v := 1) C.1 C.2.1 dX6_run_29 (by decide) ?_
      obtain ⟨v6, ev6, h⟩ := lt_out h
      refine k_iald C G hP (r_arr (k := 1) (by decide)) (chk_in rfl) (j := 1) rfl ev6 dX6_run_30 ?_
      refine lv_iload_n C.1 C.2.1 dX6_run_31 rfl (lv_at hl 1 rfl) ?_
      obtain ⟨v7, ev7, h⟩ := lt_out h
      refine k_iadd C ev7 dX6_run_32 ?_
      refine lv_sipush (v := 10000) C.1 C.2.1 dX6_run_33 (by decide) ?_
      refine lv_icmp_le (tgt := 43) C.1 C.2.1 dX6_run_36 (by decide) (fun c8 => ?_) (fun c8 => ?_)
      · have h := if_t c8 h
        refine lv_iconst (v := 0) C.1 C.2.1 dX6_run_43 (by decide) ?_
        exact w_X6_run_b44 C G hP hS (lv_sub hl [0, 1] rfl) h
      · have h := if_f c8 h
        exact w_X6_run_b39 C G hP hS (lv_sub hl [0, 1] rfl) h
  · have h := if_n c3 h
    refine lv_iconst (v := 1) C.1 C.2.1 dX6_run_12 (by decide) ?_
    refine lv_goto (tgt := 44) C.1 C.2.1 dX6_run_13 (by decide) ?_
    exact w_X6_run_b44 C G hP hS (lv_sub hl [0, 1] rfl) h
set_option maxRecDepth 100000 in
set_option maxHeartbeats 4000000 in
theorem m_X6_run (l : Launch) {D : va_G} {cs : Nat → ClassId} {ad : Nat → Nat} (hAd : adOK ad) (sz : Nat) {Ls : Nat → SL} {Hs : SL} {T : SL} {M : SL} {dr : Int64} {hs : Int64} {o : Int64} {od : UInt64} {x1 : Int32} {res : Int32 × SL} (h : f_X6_run M x1 = some res) : Met l yX6_run wsX6_run rmX6_run (PA D cs sz (wA cs ad Ls Hs T M dr hs o od) [.ref (ad 89), .int x1]) (va_Qi (fun r' (_ : Unit) => r' = res.1) (fun _ t => va_P D vwCl (wA cs ad Ls Hs T res.2 dr hs o od) t.heap) (Afr ad sz)) 0 0 (Afr ad sz) :=
  k_met (by decide) rfl (Nat.le_of_ble_eq_true rfl) hAd (fun p e s m below meth c ls C G hP hsz hl hS => by
    subst hsz
    exact w_X6_run_e C G  hP hS hl  h)
/-! X6 empties -/
abbrev rmX6_empties : Room := { frames := 1, cells := 0, slots := 0, locals := 20 }
theorem q_X6_empties_0 : Cond.fieldLink RX6 7 "LineBuffersModel" "now" "[I" ∈ wsX6_empties := List.mem_of_getElem? (i := 1) rfl
theorem n_X6_empties_X6 : ∀ x ∈ u_ws RX6 TX6 12, x ∈ wsX6_empties := fun x h => List.mem_cons_of_mem _ (List.mem_append_right _ h)
set_option maxRecDepth 100000 in
set_option maxHeartbeats 4000000 in
theorem w_X6_empties_b26 {res : SL} (C : Cx p s m args meth c cX6_empties 4 none RX6 wsX6_empties) (G : Gx D cs ad s) {Ls : Nat → SL} {Hs : SL} {T : SL} {dr : Int64} {hs : Int64} {o : Int64} {od : UInt64} {K9 : SL → Int32 → Option (SL)} (hK9 : ∀ {M : SL} {x1 : Int32} {H : Heap} {locs : List Loc} {ls : Array Slot}, va_P D vwCl (wA cs ad Ls Hs T M dr hs o od) H → va_S (Afr ad s.heap.size) s.heap H locs → lv_has ls 4 [(0, .ref (ad 89)), (1, .int x1)] → K9 M x1 = some res → W p l e rmX6_empties s m args below meth c H locs 0 0 (MQ below (va_Qv (fun (_ : Unit) => True) (fun _ t => va_P D vwCl (wA cs ad Ls Hs T res dr hs o od) t.heap) (Afr ad s.heap.size)) args s 0 0 (Afr ad s.heap.size)) (F0 m 9 ls [])) {K26 : SL → Int32 → Int32 → Int32 → Option (SL)} (hK26 : ∀ {M : SL} {x1 : Int32} {x2 : Int32} {x3 : Int32} {H : Heap} {locs : List Loc} {ls : Array Slot}, va_P D vwCl (wA cs ad Ls Hs T M dr hs o od) H → va_S (Afr ad s.heap.size) s.heap H locs → lv_has ls 4 [(0, .ref (ad 89)), (1, .int x1), (2, .int x2), (3, .int x3)] → K26 M x1 x2 x3 = some res → W p l e rmX6_empties s m args below meth c H locs 0 0 (MQ below (va_Qv (fun (_ : Unit) => True) (fun _ t => va_P D vwCl (wA cs ad Ls Hs T res dr hs o od) t.heap) (Afr ad s.heap.size)) args s 0 0 (Afr ad s.heap.size)) (F0 m 26 ls [])) {M : SL} {x1 : Int32} {x2 : Int32} {x3 : Int32} {H : Heap} {locs : List Loc} {ls : Array Slot} (hP : va_P D vwCl (wA cs ad Ls Hs T M dr hs o od) H) (hS : va_S (Afr ad s.heap.size) s.heap H locs) (hl : lv_has ls 4 [(0, .ref (ad 89)), (1, .int x1), (2, .int x2), (3, .int x3)]) (h : f_X6_empties_b26 K9 K26 M x1 x2 x3 = some res) : W p l e rmX6_empties s m args below meth c H locs 0 0 (MQ below (va_Qv (fun (_ : Unit) => True) (fun _ t => va_P D vwCl (wA cs ad Ls Hs T res dr hs o od) t.heap) (Afr ad s.heap.size)) args s 0 0 (Afr ad s.heap.size)) (F0 m 26 ls []) := by
  unfold f_X6_empties_b26 at h
  refine lv_iload_n C.1 C.2.1 dX6_empties_26 rfl (lv_at hl 3 rfl) ?_
  refine lv_bipush (v := 16) C.1 C.2.1 dX6_empties_27 (by decide) ?_
  refine lv_icmp_ge (tgt := 47) C.1 C.2.1 dX6_empties_29 (by decide) (fun c1 => ?_) (fun c1 => ?_)
  · have h := if_t c1 h
    refine lv_aload_n C.1 C.2.1 dX6_empties_47 rfl (lv_at hl 0 rfl) ?_
    refine k_getf C G hP r_obj rfl 0 (by decide) n_X6_empties_X6 q_X6_empties_0 (v := .ref (ad (89 + 1))) rfl dX6_empties_48 ?_
    refine lv_iload_n C.1 C.2.1 dX6_empties_51 rfl (lv_at hl 2 rfl) ?_
    refine lv_bipush (v := 6) C.1 C.2.1 dX6_empties_52 (by decide) ?_
    obtain ⟨v2, ev2, h⟩ := lt_out h
    refine k_iadd C ev2 dX6_empties_54 ?_
    refine lv_iconst (v := (-1)) C.1 C.2.1 dX6_empties_55 (by decide) ?_
    obtain ⟨g3, h⟩ := gd_out h
    have g3 := chk_in g3
    obtain ⟨M4, eM4, h⟩ := lt_out h
    refine k_iast C G hP hS (r_arr (k := 1) (by decide)) g3 (j := v2.toNatClampNeg) rfl (r_arrS (k := 1) (by decide)) dX6_empties_56 (fun H locs hP hS => ?_)
    rw [← eM4] at hP
    refine lv_aload_n C.1 C.2.1 dX6_empties_57 rfl (lv_at hl 0 rfl) ?_
    refine k_getf C G hP r_obj rfl 0 (by decide) n_X6_empties_X6 q_X6_empties_0 (v := .ref (ad (89 + 1))) rfl dX6_empties_58 ?_
    refine lv_iload_n C.1 C.2.1 dX6_empties_61 rfl (lv_at hl 2 rfl) ?_
    refine lv_bipush (v := 7) C.1 C.2.1 dX6_empties_62 (by decide) ?_
    obtain ⟨v5, ev5, h⟩ := lt_out h
    refine k_iadd C ev5 dX6_empties_64 ?_
    refine lv_iconst (v := 1) C.1 C.2.1 dX6_empties_65 (by decide) ?_
    obtain ⟨g6, h⟩ := gd_out h
    have g6 := chk_in g6
    obtain ⟨M7, eM7, h⟩ := lt_out h
    refine k_iast C G hP hS (r_arr (k := 1) (by decide)) g6 (j := v5.toNatClampNeg) rfl (r_arrS (k := 1) (by decide)) dX6_empties_66 (fun H locs hP hS => ?_)
    rw [← eM7] at hP
    obtain ⟨z8, ez8, h⟩ := lt_out h
    refine lv_iinc (v := z8) (lv' := [(1, .int z8), (0, .ref (ad 89)), (2, .int x2), (3, .int x3)]) C.1 C.2.1 dX6_empties_67 hl (k := 1) rfl (by rw [ez8]; rfl) (by decide) rfl (fun ls hl => ?_)
    refine lv_goto (tgt := 9) C.1 C.2.1 dX6_empties_70 (by decide) ?_
    exact hK9 hP hS (lv_sub hl [1, 0] rfl)  h
  · have h := if_f c1 h
    refine lv_aload_n C.1 C.2.1 dX6_empties_32 rfl (lv_at hl 0 rfl) ?_
    refine k_getf C G hP r_obj rfl 0 (by decide) n_X6_empties_X6 q_X6_empties_0 (v := .ref (ad (89 + 1))) rfl dX6_empties_33 ?_
    refine lv_iload_n C.1 C.2.1 dX6_empties_36 rfl (lv_at hl 2 rfl) ?_
    refine lv_iload_n C.1 C.2.1 dX6_empties_37 rfl (lv_at hl 3 rfl) ?_
    obtain ⟨v9, ev9, h⟩ := lt_out h
    refine k_iadd C ev9 dX6_empties_38 ?_
    refine lv_iconst (v := 0) C.1 C.2.1 dX6_empties_39 (by decide) ?_
    obtain ⟨g10, h⟩ := gd_out h
    have g10 := chk_in g10
    obtain ⟨M11, eM11, h⟩ := lt_out h
    refine k_iast C G hP hS (r_arr (k := 1) (by decide)) g10 (j := v9.toNatClampNeg) rfl (r_arrS (k := 1) (by decide)) dX6_empties_40 (fun H locs hP hS => ?_)
    rw [← eM11] at hP
    obtain ⟨z12, ez12, h⟩ := lt_out h
    refine lv_iinc (v := z12) (lv' := [(3, .int z12), (0, .ref (ad 89)), (1, .int x1), (2, .int x2)]) C.1 C.2.1 dX6_empties_41 hl (k := 3) rfl (by rw [ez12]; rfl) (by decide) rfl (fun ls hl => ?_)
    refine lv_goto (tgt := 26) C.1 C.2.1 dX6_empties_44 (by decide) ?_
    exact hK26 hP hS (lv_sub hl [1, 2, 3, 0] rfl)  h
set_option maxRecDepth 100000 in
set_option maxHeartbeats 4000000 in
theorem w_X6_empties_h26 {res : SL} (C : Cx p s m args meth c cX6_empties 4 none RX6 wsX6_empties) (G : Gx D cs ad s) {Ls : Nat → SL} {Hs : SL} {T : SL} {dr : Int64} {hs : Int64} {o : Int64} {od : UInt64} {K9 : SL → Int32 → Option (SL)} (hK9 : ∀ {M : SL} {x1 : Int32} {H : Heap} {locs : List Loc} {ls : Array Slot}, va_P D vwCl (wA cs ad Ls Hs T M dr hs o od) H → va_S (Afr ad s.heap.size) s.heap H locs → lv_has ls 4 [(0, .ref (ad 89)), (1, .int x1)] → K9 M x1 = some res → W p l e rmX6_empties s m args below meth c H locs 0 0 (MQ below (va_Qv (fun (_ : Unit) => True) (fun _ t => va_P D vwCl (wA cs ad Ls Hs T res dr hs o od) t.heap) (Afr ad s.heap.size)) args s 0 0 (Afr ad s.heap.size)) (F0 m 9 ls [])) : ∀ (n : Nat) {M : SL} {x1 : Int32} {x2 : Int32} {x3 : Int32} {H : Heap} {locs : List Loc} {ls : Array Slot}, va_P D vwCl (wA cs ad Ls Hs T M dr hs o od) H → va_S (Afr ad s.heap.size) s.heap H locs → lv_has ls 4 [(0, .ref (ad 89)), (1, .int x1), (2, .int x2), (3, .int x3)] → f_X6_empties_h26 K9 n M x1 x2 x3 = some res → W p l e rmX6_empties s m args below meth c H locs 0 0 (MQ below (va_Qv (fun (_ : Unit) => True) (fun _ t => va_P D vwCl (wA cs ad Ls Hs T res dr hs o od) t.heap) (Afr ad s.heap.size)) args s 0 0 (Afr ad s.heap.size)) (F0 m 26 ls []) := by
  intro n
  induction n with
  | zero => intro M x1 x2 x3 H locs ls hP hS hl  h; cases h
  | succ n ih => intro M x1 x2 x3 H locs ls hP hS hl  h; exact w_X6_empties_b26 C G   hK9 ih hP hS hl  h
set_option maxRecDepth 100000 in
set_option maxHeartbeats 4000000 in
theorem w_X6_empties_b9 {res : SL} (C : Cx p s m args meth c cX6_empties 4 none RX6 wsX6_empties) (G : Gx D cs ad s) {Ls : Nat → SL} {Hs : SL} {T : SL} {dr : Int64} {hs : Int64} {o : Int64} {od : UInt64} {K9 : SL → Int32 → Option (SL)} (hK9 : ∀ {M : SL} {x1 : Int32} {H : Heap} {locs : List Loc} {ls : Array Slot}, va_P D vwCl (wA cs ad Ls Hs T M dr hs o od) H → va_S (Afr ad s.heap.size) s.heap H locs → lv_has ls 4 [(0, .ref (ad 89)), (1, .int x1)] → K9 M x1 = some res → W p l e rmX6_empties s m args below meth c H locs 0 0 (MQ below (va_Qv (fun (_ : Unit) => True) (fun _ t => va_P D vwCl (wA cs ad Ls Hs T res dr hs o od) t.heap) (Afr ad s.heap.size)) args s 0 0 (Afr ad s.heap.size)) (F0 m 9 ls [])) {M : SL} {x1 : Int32} {H : Heap} {locs : List Loc} {ls : Array Slot} (hP : va_P D vwCl (wA cs ad Ls Hs T M dr hs o od) H) (hS : va_S (Afr ad s.heap.size) s.heap H locs) (hl : lv_has ls 4 [(0, .ref (ad 89)), (1, .int x1)]) (h : f_X6_empties_b9 K9 M x1 = some res) : W p l e rmX6_empties s m args below meth c H locs 0 0 (MQ below (va_Qv (fun (_ : Unit) => True) (fun _ t => va_P D vwCl (wA cs ad Ls Hs T res dr hs o od) t.heap) (Afr ad s.heap.size)) args s 0 0 (Afr ad s.heap.size)) (F0 m 9 ls []) := by
  unfold f_X6_empties_b9 at h
  refine lv_iload_n C.1 C.2.1 dX6_empties_9 rfl (lv_at hl 1 rfl) ?_
  refine lv_aload_n C.1 C.2.1 dX6_empties_10 rfl (lv_at hl 0 rfl) ?_
  refine k_getf C G hP r_obj rfl 0 (by decide) n_X6_empties_X6 q_X6_empties_0 (v := .ref (ad (89 + 1))) rfl dX6_empties_11 ?_
  refine lv_iconst (v := 0) C.1 C.2.1 dX6_empties_14 (by decide) ?_
  obtain ⟨v1, ev1, h⟩ := lt_out h
  refine k_iald C G hP (r_arr (k := 1) (by decide)) (chk_in rfl) (j := 0) rfl ev1 dX6_empties_15 ?_
  refine lv_icmp_ge (tgt := 73) C.1 C.2.1 dX6_empties_16 (by decide) (fun c2 => ?_) (fun c2 => ?_)
  · have h := if_t c2 h
    cases h
    exact k_vret C hP hS dX6_empties_73
  · have h := if_f c2 h
    refine lv_iload_n C.1 C.2.1 dX6_empties_19 rfl (lv_at hl 1 rfl) ?_
    obtain ⟨r3, c4, h⟩ := bd_out h
    refine k_callSi C G hP hS (m_X6_of l G.2.1 _  c4) (va_cwS 1 C.2.2.2.2.2.1 gX6_empties_X6_of rfl rfl rfl (by decide +kernel) ⟨Nat.le_of_ble_eq_true rfl, Nat.le_of_ble_eq_true rfl⟩) (As := [.int x1]) rfl hl.1 rfl (Nat.le_of_ble_eq_true rfl) dX6_empties_20 ⟨Nat.le_of_ble_eq_true rfl, Nat.le_of_ble_eq_true rfl⟩ (fun H locs hP hS => ?_)
    refine lv_istore_n (lv' := [(2, .int r3), (0, .ref (ad 89)), (1, .int x1)]) C.1 C.2.1 dX6_empties_23 rfl hl (by decide) rfl (fun ls hl => ?_)
    refine lv_iconst (v := 5) C.1 C.2.1 dX6_empties_24 (by decide) ?_
    refine lv_istore_n (lv' := [(3, .int 5), (2, .int r3), (0, .ref (ad 89)), (1, .int x1)]) C.1 C.2.1 dX6_empties_25 rfl hl (by decide) rfl (fun ls hl => ?_)
    exact w_X6_empties_h26 C G hK9 fuel hP hS (lv_sub hl [2, 3, 1, 0] rfl) h
set_option maxRecDepth 100000 in
set_option maxHeartbeats 4000000 in
theorem w_X6_empties_h9 {res : SL} (C : Cx p s m args meth c cX6_empties 4 none RX6 wsX6_empties) (G : Gx D cs ad s) {Ls : Nat → SL} {Hs : SL} {T : SL} {dr : Int64} {hs : Int64} {o : Int64} {od : UInt64} : ∀ (n : Nat) {M : SL} {x1 : Int32} {H : Heap} {locs : List Loc} {ls : Array Slot}, va_P D vwCl (wA cs ad Ls Hs T M dr hs o od) H → va_S (Afr ad s.heap.size) s.heap H locs → lv_has ls 4 [(0, .ref (ad 89)), (1, .int x1)] → f_X6_empties_h9 n M x1 = some res → W p l e rmX6_empties s m args below meth c H locs 0 0 (MQ below (va_Qv (fun (_ : Unit) => True) (fun _ t => va_P D vwCl (wA cs ad Ls Hs T res dr hs o od) t.heap) (Afr ad s.heap.size)) args s 0 0 (Afr ad s.heap.size)) (F0 m 9 ls []) := by
  intro n
  induction n with
  | zero => intro M x1 H locs ls hP hS hl  h; cases h
  | succ n ih => intro M x1 H locs ls hP hS hl  h; exact w_X6_empties_b9 C G    ih hP hS hl  h
set_option maxRecDepth 100000 in
set_option maxHeartbeats 4000000 in
theorem w_X6_empties_e {res : SL} (C : Cx p s m args meth c cX6_empties 4 none RX6 wsX6_empties) (G : Gx D cs ad s) {Ls : Nat → SL} {Hs : SL} {T : SL} {dr : Int64} {hs : Int64} {o : Int64} {od : UInt64} {M : SL} {H : Heap} {locs : List Loc} {ls : Array Slot} (hP : va_P D vwCl (wA cs ad Ls Hs T M dr hs o od) H) (hS : va_S (Afr ad s.heap.size) s.heap H locs) (hl : lv_has ls 4 [(0, .ref (ad 89))]) (h : f_X6_empties M = some res) : W p l e rmX6_empties s m args below meth c H locs 0 0 (MQ below (va_Qv (fun (_ : Unit) => True) (fun _ t => va_P D vwCl (wA cs ad Ls Hs T res dr hs o od) t.heap) (Afr ad s.heap.size)) args s 0 0 (Afr ad s.heap.size)) (F0 m 0 ls []) := by
  unfold f_X6_empties at h
  refine lv_aload_n C.1 C.2.1 dX6_empties_0 rfl (lv_at hl 0 rfl) ?_
  refine k_getf C G hP r_obj rfl 0 (by decide) n_X6_empties_X6 q_X6_empties_0 (v := .ref (ad (89 + 1))) rfl dX6_empties_1 ?_
  refine lv_iconst (v := 1) C.1 C.2.1 dX6_empties_4 (by decide) ?_
  refine lv_iconst (v := 0) C.1 C.2.1 dX6_empties_5 (by decide) ?_
  obtain ⟨M1, eM1, h⟩ := lt_out h
  refine k_iast C G hP hS (r_arr (k := 1) (by decide)) (chk_in rfl) (j := 1) rfl (r_arrS (k := 1) (by decide)) dX6_empties_6 (fun H locs hP hS => ?_)
  rw [← eM1] at hP
  refine lv_iconst (v := 0) C.1 C.2.1 dX6_empties_7 (by decide) ?_
  refine lv_istore_n (lv' := [(1, .int 0), (0, .ref (ad 89))]) C.1 C.2.1 dX6_empties_8 rfl hl (by decide) rfl (fun ls hl => ?_)
  exact w_X6_empties_h9 C G fuel hP hS (lv_sub hl [1, 0] rfl) h
set_option maxRecDepth 100000 in
set_option maxHeartbeats 4000000 in
theorem m_X6_empties (l : Launch) {D : va_G} {cs : Nat → ClassId} {ad : Nat → Nat} (hAd : adOK ad) (sz : Nat) {Ls : Nat → SL} {Hs : SL} {T : SL} {M : SL} {dr : Int64} {hs : Int64} {o : Int64} {od : UInt64} {res : SL} (h : f_X6_empties M = some res) : Met l yX6_empties wsX6_empties rmX6_empties (PA D cs sz (wA cs ad Ls Hs T M dr hs o od) [.ref (ad 89)]) (va_Qv (fun (_ : Unit) => True) (fun _ t => va_P D vwCl (wA cs ad Ls Hs T res dr hs o od) t.heap) (Afr ad sz)) 0 0 (Afr ad sz) :=
  k_met (by decide) rfl (Nat.le_of_ble_eq_true rfl) hAd (fun p e s m below meth c ls C G hP hsz hl hS => by
    subst hsz
    exact w_X6_empties_e C G  hP hS hl  h)
/-! X6 restart -/
abbrev rmX6_restart : Room := { frames := 2, cells := 0, slots := 0, locals := 43 }
theorem q_X6_restart_0 : Cond.fieldLink RX6 25 "LineBuffersModel" "refusal" "I" ∈ wsX6_restart := List.mem_of_getElem? (i := 1) rfl
theorem q_X6_restart_1 : Cond.fieldLink RX6 7 "LineBuffersModel" "now" "[I" ∈ wsX6_restart := List.mem_of_getElem? (i := 2) rfl
theorem n_X6_restart_X6 : ∀ x ∈ u_ws RX6 TX6 12, x ∈ wsX6_restart := fun x h => List.mem_cons_of_mem _ (List.mem_append_right _ h)
set_option maxRecDepth 100000 in
set_option maxHeartbeats 4000000 in
theorem w_X6_restart_e {res : Int32 × SL} (C : Cx p s m args meth c cX6_restart 2 (some .int) RX6 wsX6_restart) (G : Gx D cs ad s) {Ls : Nat → SL} {Hs : SL} {T : SL} {dr : Int64} {hs : Int64} {o : Int64} {od : UInt64} {M : SL} {H : Heap} {locs : List Loc} {ls : Array Slot} (hP : va_P D vwCl (wA cs ad Ls Hs T M dr hs o od) H) (hS : va_S (Afr ad s.heap.size) s.heap H locs) (hl : lv_has ls 2 [(0, .ref (ad 89))]) (h : f_X6_restart M = some res) : W p l e rmX6_restart s m args below meth c H locs 0 0 (MQ below (va_Qi (fun r' (_ : Unit) => r' = res.1) (fun _ t => va_P D vwCl (wA cs ad Ls Hs T res.2 dr hs o od) t.heap) (Afr ad s.heap.size)) args s 0 0 (Afr ad s.heap.size)) (F0 m 0 ls []) := by
  unfold f_X6_restart at h
  refine lv_aload_n C.1 C.2.1 dX6_restart_0 rfl (lv_at hl 0 rfl) ?_
  refine lv_iconst (v := 0) C.1 C.2.1 dX6_restart_1 (by decide) ?_
  obtain ⟨M1, eM1, h⟩ := lt_out h
  refine k_puti C G hP hS r_obj rfl 4 (by decide) n_X6_restart_X6 q_X6_restart_0 tyX6_ok nmX6 rfl (tyX6_ok 4 (by decide)) (Nat.le_of_ble_eq_true rfl) r_objS4 dX6_restart_2 (fun H locs hP hS => ?_)
  rw [← eM1] at hP
  refine lv_aload_n C.1 C.2.1 dX6_restart_5 rfl (lv_at hl 0 rfl) ?_
  obtain ⟨M2, c3, h⟩ := bd_out h
  refine k_callVv C G hP hS (m_X6_saves l G.2.1 _  c3) r_obj rfl (cwV 0 C.2.2.2.2.2.1 gX6_restart_X6_saves rfl rfl rfl (by decide +kernel) ⟨Nat.le_of_ble_eq_true rfl, Nat.le_of_ble_eq_true rfl⟩) (As := []) rfl hl.1 rfl (Nat.le_of_ble_eq_true rfl) dX6_restart_6 ⟨Nat.le_of_ble_eq_true rfl, Nat.le_of_ble_eq_true rfl⟩ (fun H locs hP hS => ?_)
  refine lv_aload_n C.1 C.2.1 dX6_restart_9 rfl (lv_at hl 0 rfl) ?_
  refine k_getf C G hP r_obj rfl 0 (by decide) n_X6_restart_X6 q_X6_restart_1 (v := .ref (ad (89 + 1))) rfl dX6_restart_10 ?_
  refine lv_iconst (v := 1) C.1 C.2.1 dX6_restart_13 (by decide) ?_
  obtain ⟨v4, ev4, h⟩ := lt_out h
  refine k_iald C G hP (r_arr (k := 1) (by decide)) (chk_in rfl) (j := 1) rfl ev4 dX6_restart_14 ?_
  refine lv_istore_n (lv' := [(1, .int v4), (0, .ref (ad 89))]) C.1 C.2.1 dX6_restart_15 rfl hl (by decide) rfl (fun ls hl => ?_)
  refine lv_aload_n C.1 C.2.1 dX6_restart_16 rfl (lv_at hl 1 rfl) ?_
  obtain ⟨M5, c6, h⟩ := bd_out h
  refine k_callVv C G hP hS (m_X6_empties l G.2.1 _  c6) r_obj rfl (cwV 0 C.2.2.2.2.2.1 gX6_restart_X6_empties rfl rfl rfl (by decide +kernel) ⟨Nat.le_of_ble_eq_true rfl, Nat.le_of_ble_eq_true rfl⟩) (As := []) rfl hl.1 rfl (Nat.le_of_ble_eq_true rfl) dX6_restart_17 ⟨Nat.le_of_ble_eq_true rfl, Nat.le_of_ble_eq_true rfl⟩ (fun H locs hP hS => ?_)
  refine lv_iload_n C.1 C.2.1 dX6_restart_20 rfl (lv_at hl 0 rfl) ?_
  cases h
  exact k_iret C hP hS dX6_restart_21
set_option maxRecDepth 100000 in
set_option maxHeartbeats 4000000 in
theorem m_X6_restart (l : Launch) {D : va_G} {cs : Nat → ClassId} {ad : Nat → Nat} (hAd : adOK ad) (sz : Nat) {Ls : Nat → SL} {Hs : SL} {T : SL} {M : SL} {dr : Int64} {hs : Int64} {o : Int64} {od : UInt64} {res : Int32 × SL} (h : f_X6_restart M = some res) : Met l yX6_restart wsX6_restart rmX6_restart (PA D cs sz (wA cs ad Ls Hs T M dr hs o od) [.ref (ad 89)]) (va_Qi (fun r' (_ : Unit) => r' = res.1) (fun _ t => va_P D vwCl (wA cs ad Ls Hs T res.2 dr hs o od) t.heap) (Afr ad sz)) 0 0 (Afr ad sz) :=
  k_met (by decide) rfl (Nat.le_of_ble_eq_true rfl) hAd (fun p e s m below meth c ls C G hP hsz hl hS => by
    subst hsz
    exact w_X6_restart_e C G  hP hS hl  h)
/-! X6 now -/
abbrev rmX6_now : Room := { frames := 0, cells := 0, slots := 0, locals := 0 }
theorem q_X6_now_0 : Cond.fieldLink RX6 25 "LineBuffersModel" "refusal" "I" ∈ wsX6_now := List.mem_of_getElem? (i := 1) rfl
theorem q_X6_now_1 : Cond.fieldLink RX6 7 "LineBuffersModel" "now" "[I" ∈ wsX6_now := List.mem_of_getElem? (i := 2) rfl
theorem n_X6_now_X6 : ∀ x ∈ u_ws RX6 TX6 12, x ∈ wsX6_now := fun x h => List.mem_cons_of_mem _ (List.mem_append_right _ h)
set_option maxRecDepth 100000 in
set_option maxHeartbeats 4000000 in
theorem w_X6_now_e {res : Int32 × SL} (C : Cx p s m args meth c cX6_now 1 (some .int) RX6 wsX6_now) (G : Gx D cs ad s) {Ls : Nat → SL} {Hs : SL} {T : SL} {dr : Int64} {hs : Int64} {o : Int64} {od : UInt64} {M : SL} {H : Heap} {locs : List Loc} {ls : Array Slot} (hP : va_P D vwCl (wA cs ad Ls Hs T M dr hs o od) H) (hS : va_S (Afr ad s.heap.size) s.heap H locs) (hl : lv_has ls 1 [(0, .ref (ad 89))]) (h : f_X6_now M = some res) : W p l e rmX6_now s m args below meth c H locs 0 0 (MQ below (va_Qi (fun r' (_ : Unit) => r' = res.1) (fun _ t => va_P D vwCl (wA cs ad Ls Hs T res.2 dr hs o od) t.heap) (Afr ad s.heap.size)) args s 0 0 (Afr ad s.heap.size)) (F0 m 0 ls []) := by
  unfold f_X6_now at h
  refine lv_aload_n C.1 C.2.1 dX6_now_0 rfl (lv_at hl 0 rfl) ?_
  refine lv_iconst (v := 0) C.1 C.2.1 dX6_now_1 (by decide) ?_
  obtain ⟨M1, eM1, h⟩ := lt_out h
  refine k_puti C G hP hS r_obj rfl 4 (by decide) n_X6_now_X6 q_X6_now_0 tyX6_ok nmX6 rfl (tyX6_ok 4 (by decide)) (Nat.le_of_ble_eq_true rfl) r_objS4 dX6_now_2 (fun H locs hP hS => ?_)
  rw [← eM1] at hP
  refine lv_aload_n C.1 C.2.1 dX6_now_5 rfl (lv_at hl 0 rfl) ?_
  refine k_getf C G hP r_obj rfl 0 (by decide) n_X6_now_X6 q_X6_now_1 (v := .ref (ad (89 + 1))) rfl dX6_now_6 ?_
  refine lv_iconst (v := 1) C.1 C.2.1 dX6_now_9 (by decide) ?_
  obtain ⟨v2, ev2, h⟩ := lt_out h
  refine k_iald C G hP (r_arr (k := 1) (by decide)) (chk_in rfl) (j := 1) rfl ev2 dX6_now_10 ?_
  cases h
  exact k_iret C hP hS dX6_now_11
set_option maxRecDepth 100000 in
set_option maxHeartbeats 4000000 in
theorem m_X6_now (l : Launch) {D : va_G} {cs : Nat → ClassId} {ad : Nat → Nat} (hAd : adOK ad) (sz : Nat) {Ls : Nat → SL} {Hs : SL} {T : SL} {M : SL} {dr : Int64} {hs : Int64} {o : Int64} {od : UInt64} {res : Int32 × SL} (h : f_X6_now M = some res) : Met l yX6_now wsX6_now rmX6_now (PA D cs sz (wA cs ad Ls Hs T M dr hs o od) [.ref (ad 89)]) (va_Qi (fun r' (_ : Unit) => r' = res.1) (fun _ t => va_P D vwCl (wA cs ad Ls Hs T res.2 dr hs o od) t.heap) (Afr ad sz)) 0 0 (Afr ad sz) :=
  k_met (by decide) rfl (Nat.le_of_ble_eq_true rfl) hAd (fun p e s m below meth c ls C G hP hsz hl hS => by
    subst hsz
    exact w_X6_now_e C G  hP hS hl  h)
/-! X6 output -/
abbrev rmX6_output : Room := { frames := 2, cells := 0, slots := 0, locals := 40 }
theorem q_X6_output_0 : Cond.fieldLink RX6 25 "LineBuffersModel" "refusal" "I" ∈ wsX6_output := List.mem_of_getElem? (i := 1) rfl
theorem n_X6_output_X6 : ∀ x ∈ u_ws RX6 TX6 12, x ∈ wsX6_output := fun x h => List.mem_cons_of_mem _ (List.mem_append_right _ h)
set_option maxRecDepth 100000 in
set_option maxHeartbeats 4000000 in
theorem w_X6_output_e {res : Int32 × SL} (C : Cx p s m args meth c cX6_output 1 (some .int) RX6 wsX6_output) (G : Gx D cs ad s) {Ls : Nat → SL} {Hs : SL} {T : SL} {dr : Int64} {hs : Int64} {o : Int64} {od : UInt64} {M : SL} {H : Heap} {locs : List Loc} {ls : Array Slot} (hP : va_P D vwCl (wA cs ad Ls Hs T M dr hs o od) H) (hS : va_S (Afr ad s.heap.size) s.heap H locs) (hl : lv_has ls 1 [(0, .ref (ad 89))]) (h : f_X6_output M = some res) : W p l e rmX6_output s m args below meth c H locs 0 0 (MQ below (va_Qi (fun r' (_ : Unit) => r' = res.1) (fun _ t => va_P D vwCl (wA cs ad Ls Hs T res.2 dr hs o od) t.heap) (Afr ad s.heap.size)) args s 0 0 (Afr ad s.heap.size)) (F0 m 0 ls []) := by
  unfold f_X6_output at h
  refine lv_aload_n C.1 C.2.1 dX6_output_0 rfl (lv_at hl 0 rfl) ?_
  refine lv_iconst (v := 0) C.1 C.2.1 dX6_output_1 (by decide) ?_
  obtain ⟨M1, eM1, h⟩ := lt_out h
  refine k_puti C G hP hS r_obj rfl 4 (by decide) n_X6_output_X6 q_X6_output_0 tyX6_ok nmX6 rfl (tyX6_ok 4 (by decide)) (Nat.le_of_ble_eq_true rfl) r_objS4 dX6_output_2 (fun H locs hP hS => ?_)
  rw [← eM1] at hP
  refine lv_aload_n C.1 C.2.1 dX6_output_5 rfl (lv_at hl 0 rfl) ?_
  obtain ⟨r2, c3, h⟩ := bd_out h
  refine k_callVi C G hP hS (m_X6_made l G.2.1 _  c3) r_obj rfl (cwV 0 C.2.2.2.2.2.1 gX6_output_X6_made rfl rfl rfl (by decide +kernel) ⟨Nat.le_of_ble_eq_true rfl, Nat.le_of_ble_eq_true rfl⟩) (As := []) rfl hl.1 rfl (Nat.le_of_ble_eq_true rfl) dX6_output_6 ⟨Nat.le_of_ble_eq_true rfl, Nat.le_of_ble_eq_true rfl⟩ (fun H locs hP hS => ?_)
  cases h
  exact k_iret C hP hS dX6_output_9
set_option maxRecDepth 100000 in
set_option maxHeartbeats 4000000 in
theorem m_X6_output (l : Launch) {D : va_G} {cs : Nat → ClassId} {ad : Nat → Nat} (hAd : adOK ad) (sz : Nat) {Ls : Nat → SL} {Hs : SL} {T : SL} {M : SL} {dr : Int64} {hs : Int64} {o : Int64} {od : UInt64} {res : Int32 × SL} (h : f_X6_output M = some res) : Met l yX6_output wsX6_output rmX6_output (PA D cs sz (wA cs ad Ls Hs T M dr hs o od) [.ref (ad 89)]) (va_Qi (fun r' (_ : Unit) => r' = res.1) (fun _ t => va_P D vwCl (wA cs ad Ls Hs T res.2 dr hs o od) t.heap) (Afr ad sz)) 0 0 (Afr ad sz) :=
  k_met (by decide) rfl (Nat.le_of_ble_eq_true rfl) hAd (fun p e s m below meth c ls C G hP hsz hl hS => by
    subst hsz
    exact w_X6_output_e C G  hP hS hl  h)
/-! X6 setting -/
abbrev rmX6_setting : Room := { frames := 2, cells := 0, slots := 0, locals := 43 }
theorem q_X6_setting_0 : Cond.fieldLink RX6 7 "LineBuffersModel" "now" "[I" ∈ wsX6_setting := List.mem_of_getElem? (i := 1) rfl
theorem n_X6_setting_X6 : ∀ x ∈ u_ws RX6 TX6 12, x ∈ wsX6_setting := fun x h => List.mem_cons_of_mem _ (List.mem_append_right _ h)
set_option maxRecDepth 100000 in
set_option maxHeartbeats 4000000 in
theorem w_X6_setting_b27 {res : Int32 × SL} (C : Cx p s m args meth c cX6_setting 3 (some .int) RX6 wsX6_setting) (G : Gx D cs ad s) {Ls : Nat → SL} {Hs : SL} {T : SL} {dr : Int64} {hs : Int64} {o : Int64} {od : UInt64} {M : SL} {x1 : Int32} {x2 : Int32} {s1 : Int32} {H : Heap} {locs : List Loc} {ls : Array Slot} (hP : va_P D vwCl (wA cs ad Ls Hs T M dr hs o od) H) (hS : va_S (Afr ad s.heap.size) s.heap H locs) (hl : lv_has ls 3 [(0, .ref (ad 89)), (1, .int x1), (2, .int x2)]) (h : f_X6_setting_b27 M x1 x2 s1 = some res) : W p l e rmX6_setting s m args below meth c H locs 0 0 (MQ below (va_Qi (fun r' (_ : Unit) => r' = res.1) (fun _ t => va_P D vwCl (wA cs ad Ls Hs T res.2 dr hs o od) t.heap) (Afr ad s.heap.size)) args s 0 0 (Afr ad s.heap.size)) (F0 m 27 ls [.int s1, .ref (ad 89)]) := by
  unfold f_X6_setting_b27 at h
  obtain ⟨r1, M2, c3, h⟩ := bd2_out h
  refine k_callVi C G hP hS (m_X6_refused l G.2.1 _  c3) r_obj rfl (cwV 1 C.2.2.2.2.2.1 gX6_setting_X6_refused rfl rfl rfl (by decide +kernel) ⟨Nat.le_of_ble_eq_true rfl, Nat.le_of_ble_eq_true rfl⟩) (As := [.int s1]) rfl hl.1 rfl (Nat.le_of_ble_eq_true rfl) dX6_setting_27 ⟨Nat.le_of_ble_eq_true rfl, Nat.le_of_ble_eq_true rfl⟩ (fun H locs hP hS => ?_)
  refine lv_if_eq (tgt := 37) C.1 C.2.1 dX6_setting_30 (by decide) (fun c4 => ?_) (fun c4 => ?_)
  · have h := if_t c4 h
    refine lv_aload_n C.1 C.2.1 dX6_setting_37 rfl (lv_at hl 0 rfl) ?_
    refine k_getf C G hP r_obj rfl 0 (by decide) n_X6_setting_X6 q_X6_setting_0 (v := .ref (ad (89 + 1))) rfl dX6_setting_38 ?_
    refine lv_iload_n C.1 C.2.1 dX6_setting_41 rfl (lv_at hl 1 rfl) ?_
    obtain ⟨r5, c6, h⟩ := bd_out h
    refine k_callSi C G hP hS (m_X6_of l G.2.1 _  c6) (va_cwS 1 C.2.2.2.2.2.1 gX6_setting_X6_of rfl rfl rfl (by decide +kernel) ⟨Nat.le_of_ble_eq_true rfl, Nat.le_of_ble_eq_true rfl⟩) (As := [.int x1]) rfl hl.1 rfl (Nat.le_of_ble_eq_true rfl) dX6_setting_42 ⟨Nat.le_of_ble_eq_true rfl, Nat.le_of_ble_eq_true rfl⟩ (fun H locs hP hS => ?_)
    refine lv_iload_n C.1 C.2.1 dX6_setting_45 rfl (lv_at hl 2 rfl) ?_
    obtain ⟨v7, ev7, h⟩ := lt_out h
    refine k_iadd C ev7 dX6_setting_46 ?_
    obtain ⟨g8, h⟩ := gd_out h
    have g8 := chk_in g8
    obtain ⟨v9, ev9, h⟩ := lt_out h
    refine k_iald C G hP (r_arr (k := 1) (by decide)) g8 (j := v7.toNatClampNeg) rfl ev9 dX6_setting_47 ?_
    cases h
    exact k_iret C hP hS dX6_setting_48
  · have h := if_f c4 h
    refine lv_iconst (v := 0) C.1 C.2.1 dX6_setting_33 (by decide) ?_
    refine lv_goto (tgt := 48) C.1 C.2.1 dX6_setting_34 (by decide) ?_
    cases h
    exact k_iret C hP hS dX6_setting_48
set_option maxRecDepth 100000 in
set_option maxHeartbeats 4000000 in
theorem w_X6_setting_e {res : Int32 × SL} (C : Cx p s m args meth c cX6_setting 3 (some .int) RX6 wsX6_setting) (G : Gx D cs ad s) {Ls : Nat → SL} {Hs : SL} {T : SL} {dr : Int64} {hs : Int64} {o : Int64} {od : UInt64} {M : SL} {x1 : Int32} {x2 : Int32} {H : Heap} {locs : List Loc} {ls : Array Slot} (hP : va_P D vwCl (wA cs ad Ls Hs T M dr hs o od) H) (hS : va_S (Afr ad s.heap.size) s.heap H locs) (hl : lv_has ls 3 [(0, .ref (ad 89)), (1, .int x1), (2, .int x2)]) (h : f_X6_setting M x1 x2 = some res) : W p l e rmX6_setting s m args below meth c H locs 0 0 (MQ below (va_Qi (fun r' (_ : Unit) => r' = res.1) (fun _ t => va_P D vwCl (wA cs ad Ls Hs T res.2 dr hs o od) t.heap) (Afr ad s.heap.size)) args s 0 0 (Afr ad s.heap.size)) (F0 m 0 ls []) := by
  unfold f_X6_setting at h
  refine lv_aload_n C.1 C.2.1 dX6_setting_0 rfl (lv_at hl 0 rfl) ?_
  refine lv_aload_n C.1 C.2.1 dX6_setting_1 rfl (lv_at hl 0 rfl) ?_
  refine lv_iload_n C.1 C.2.1 dX6_setting_2 rfl (lv_at hl 1 rfl) ?_
  obtain ⟨r1, c2, h⟩ := bd_out h
  refine k_callVi C G hP hS (m_X6_isMachine l G.2.1 _  c2) r_obj rfl (cwV 1 C.2.2.2.2.2.1 gX6_setting_X6_isMachine rfl rfl rfl (by decide +kernel) ⟨Nat.le_of_ble_eq_true rfl, Nat.le_of_ble_eq_true rfl⟩) (As := [.int x1]) rfl hl.1 rfl (Nat.le_of_ble_eq_true rfl) dX6_setting_3 ⟨Nat.le_of_ble_eq_true rfl, Nat.le_of_ble_eq_true rfl⟩ (fun H locs hP hS => ?_)
  refine lv_if_ne (tgt := 13) C.1 C.2.1 dX6_setting_6 (by decide) (fun c3 => ?_) (fun c3 => ?_)
  · have h := if_t c3 h
    refine lv_iload_n C.1 C.2.1 dX6_setting_13 rfl (lv_at hl 2 rfl) ?_
    refine lv_iconst (v := 0) C.1 C.2.1 dX6_setting_14 (by decide) ?_
    refine lv_iconst (v := 4) C.1 C.2.1 dX6_setting_15 (by decide) ?_
    obtain ⟨r4, c5, h⟩ := bd_out h
    refine k_callSi C G hP hS (m_X6_within l G.2.1 _  c5) (va_cwS 3 C.2.2.2.2.2.1 gX6_setting_X6_within rfl rfl rfl (by decide +kernel) ⟨Nat.le_of_ble_eq_true rfl, Nat.le_of_ble_eq_true rfl⟩) (As := [.int x2, .int 0, .int 4]) rfl hl.1 rfl (Nat.le_of_ble_eq_true rfl) dX6_setting_16 ⟨Nat.le_of_ble_eq_true rfl, Nat.le_of_ble_eq_true rfl⟩ (fun H locs hP hS => ?_)
    refine lv_if_eq (tgt := 26) C.1 C.2.1 dX6_setting_19 (by decide) (fun c6 => ?_) (fun c6 => ?_)
    · have h := if_t c6 h
      refine lv_iconst (v := 2) C.1 C.2.1 dX6_setting_26 (by decide) ?_
      exact w_X6_setting_b27 C G hP hS (lv_sub hl [0, 1, 2] rfl) h
    · have h := if_f c6 h
      refine lv_iconst (v := 0) C.1 C.2.1 dX6_setting_22 (by decide) ?_
      refine lv_goto (tgt := 27) C.1 C.2.1 dX6_setting_23 (by decide) ?_
      exact w_X6_setting_b27 C G hP hS (lv_sub hl [0, 1, 2] rfl) h
  · have h := if_n c3 h
    refine lv_iconst (v := 1) C.1 C.2.1 dX6_setting_9 (by decide) ?_
    refine lv_goto (tgt := 27) C.1 C.2.1 dX6_setting_10 (by decide) ?_
    exact w_X6_setting_b27 C G hP hS (lv_sub hl [0, 1, 2] rfl) h
set_option maxRecDepth 100000 in
set_option maxHeartbeats 4000000 in
theorem m_X6_setting (l : Launch) {D : va_G} {cs : Nat → ClassId} {ad : Nat → Nat} (hAd : adOK ad) (sz : Nat) {Ls : Nat → SL} {Hs : SL} {T : SL} {M : SL} {dr : Int64} {hs : Int64} {o : Int64} {od : UInt64} {x1 : Int32} {x2 : Int32} {res : Int32 × SL} (h : f_X6_setting M x1 x2 = some res) : Met l yX6_setting wsX6_setting rmX6_setting (PA D cs sz (wA cs ad Ls Hs T M dr hs o od) [.ref (ad 89), .int x1, .int x2]) (va_Qi (fun r' (_ : Unit) => r' = res.1) (fun _ t => va_P D vwCl (wA cs ad Ls Hs T res.2 dr hs o od) t.heap) (Afr ad sz)) 0 0 (Afr ad sz) :=
  k_met (by decide) rfl (Nat.le_of_ble_eq_true rfl) hAd (fun p e s m below meth c ls C G hP hsz hl hS => by
    subst hsz
    exact w_X6_setting_e C G  hP hS hl  h)
/-! X6 tellMachine -/
abbrev rmX6_tellMachine : Room := { frames := 1, cells := 0, slots := 0, locals := 20 }
theorem q_X6_tellMachine_0 : Cond.fieldLink RX6 7 "LineBuffersModel" "now" "[I" ∈ wsX6_tellMachine := List.mem_of_getElem? (i := 1) rfl
theorem n_X6_tellMachine_X6 : ∀ x ∈ u_ws RX6 TX6 12, x ∈ wsX6_tellMachine := fun x h => List.mem_cons_of_mem _ (List.mem_append_right _ h)
set_option maxRecDepth 100000 in
set_option maxHeartbeats 4000000 in
theorem w_X6_tellMachine_e {res : Int32} (C : Cx p s m args meth c cX6_tellMachine 3 (some .int) RX6 wsX6_tellMachine) (G : Gx D cs ad s) {Ls : Nat → SL} {Hs : SL} {T : SL} {dr : Int64} {hs : Int64} {o : Int64} {od : UInt64} {M : SL} {x1 : Int32} {x2 : Int32} {H : Heap} {locs : List Loc} {ls : Array Slot} (hP : va_P D vwCl (wA cs ad Ls Hs T M dr hs o od) H) (hS : va_S (Afr ad s.heap.size) s.heap H locs) (hl : lv_has ls 3 [(0, .ref (ad 89)), (1, .int x1), (2, .int x2)]) (h : f_X6_tellMachine M x1 x2 = some res) : W p l e rmX6_tellMachine s m args below meth c H locs 0 0 (MQ below (va_Qi (fun r' (_ : Unit) => r' = res) (fun _ t => va_P D vwCl (wA cs ad Ls Hs T M dr hs o od) t.heap) (Afr ad s.heap.size)) args s 0 0 (Afr ad s.heap.size)) (F0 m 0 ls []) := by
  unfold f_X6_tellMachine at h
  refine lv_aload_n C.1 C.2.1 dX6_tellMachine_0 rfl (lv_at hl 0 rfl) ?_
  refine k_getf C G hP r_obj rfl 0 (by decide) n_X6_tellMachine_X6 q_X6_tellMachine_0 (v := .ref (ad (89 + 1))) rfl dX6_tellMachine_1 ?_
  refine lv_iload_n C.1 C.2.1 dX6_tellMachine_4 rfl (lv_at hl 1 rfl) ?_
  obtain ⟨r1, c2, h⟩ := bd_out h
  refine k_callSi C G hP hS (m_X6_of l G.2.1 _  c2) (va_cwS 1 C.2.2.2.2.2.1 gX6_tellMachine_X6_of rfl rfl rfl (by decide +kernel) ⟨Nat.le_of_ble_eq_true rfl, Nat.le_of_ble_eq_true rfl⟩) (As := [.int x1]) rfl hl.1 rfl (Nat.le_of_ble_eq_true rfl) dX6_tellMachine_5 ⟨Nat.le_of_ble_eq_true rfl, Nat.le_of_ble_eq_true rfl⟩ (fun H locs hP hS => ?_)
  refine lv_iconst (v := 5) C.1 C.2.1 dX6_tellMachine_8 (by decide) ?_
  obtain ⟨v3, ev3, h⟩ := lt_out h
  refine k_iadd C ev3 dX6_tellMachine_9 ?_
  refine lv_iload_n C.1 C.2.1 dX6_tellMachine_10 rfl (lv_at hl 2 rfl) ?_
  obtain ⟨v4, ev4, h⟩ := lt_out h
  refine k_iadd C ev4 dX6_tellMachine_11 ?_
  obtain ⟨g5, h⟩ := gd_out h
  have g5 := chk_in g5
  obtain ⟨v6, ev6, h⟩ := lt_out h
  refine k_iald C G hP (r_arr (k := 1) (by decide)) g5 (j := v4.toNatClampNeg) rfl ev6 dX6_tellMachine_12 ?_
  cases h
  exact k_iret C hP hS dX6_tellMachine_13
set_option maxRecDepth 100000 in
set_option maxHeartbeats 4000000 in
theorem m_X6_tellMachine (l : Launch) {D : va_G} {cs : Nat → ClassId} {ad : Nat → Nat} (hAd : adOK ad) (sz : Nat) {Ls : Nat → SL} {Hs : SL} {T : SL} {M : SL} {dr : Int64} {hs : Int64} {o : Int64} {od : UInt64} {x1 : Int32} {x2 : Int32} {res : Int32} (h : f_X6_tellMachine M x1 x2 = some res) : Met l yX6_tellMachine wsX6_tellMachine rmX6_tellMachine (PA D cs sz (wA cs ad Ls Hs T M dr hs o od) [.ref (ad 89), .int x1, .int x2]) (va_Qi (fun r' (_ : Unit) => r' = res) (fun _ t => va_P D vwCl (wA cs ad Ls Hs T M dr hs o od) t.heap) (Afr ad sz)) 0 0 (Afr ad sz) :=
  k_met (by decide) rfl (Nat.le_of_ble_eq_true rfl) hAd (fun p e s m below meth c ls C G hP hsz hl hS => by
    subst hsz
    exact w_X6_tellMachine_e C G  hP hS hl  h)
/-! X6 machine -/
abbrev rmX6_machine : Room := { frames := 2, cells := 0, slots := 0, locals := 43 }
set_option maxRecDepth 100000 in
set_option maxHeartbeats 4000000 in
theorem w_X6_machine_b27 {res : Int32 × SL} (C : Cx p s m args meth c cX6_machine 3 (some .int) RX6 wsX6_machine) (G : Gx D cs ad s) {Ls : Nat → SL} {Hs : SL} {T : SL} {dr : Int64} {hs : Int64} {o : Int64} {od : UInt64} {M : SL} {x1 : Int32} {x2 : Int32} {s1 : Int32} {H : Heap} {locs : List Loc} {ls : Array Slot} (hP : va_P D vwCl (wA cs ad Ls Hs T M dr hs o od) H) (hS : va_S (Afr ad s.heap.size) s.heap H locs) (hl : lv_has ls 3 [(0, .ref (ad 89)), (1, .int x1), (2, .int x2)]) (h : f_X6_machine_b27 M x1 x2 s1 = some res) : W p l e rmX6_machine s m args below meth c H locs 0 0 (MQ below (va_Qi (fun r' (_ : Unit) => r' = res.1) (fun _ t => va_P D vwCl (wA cs ad Ls Hs T res.2 dr hs o od) t.heap) (Afr ad s.heap.size)) args s 0 0 (Afr ad s.heap.size)) (F0 m 27 ls [.int s1, .ref (ad 89)]) := by
  unfold f_X6_machine_b27 at h
  obtain ⟨r1, M2, c3, h⟩ := bd2_out h
  refine k_callVi C G hP hS (m_X6_refused l G.2.1 _  c3) r_obj rfl (cwV 1 C.2.2.2.2.2.1 gX6_machine_X6_refused rfl rfl rfl (by decide +kernel) ⟨Nat.le_of_ble_eq_true rfl, Nat.le_of_ble_eq_true rfl⟩) (As := [.int s1]) rfl hl.1 rfl (Nat.le_of_ble_eq_true rfl) dX6_machine_27 ⟨Nat.le_of_ble_eq_true rfl, Nat.le_of_ble_eq_true rfl⟩ (fun H locs hP hS => ?_)
  refine lv_if_eq (tgt := 37) C.1 C.2.1 dX6_machine_30 (by decide) (fun c4 => ?_) (fun c4 => ?_)
  · have h := if_t c4 h
    refine lv_aload_n C.1 C.2.1 dX6_machine_37 rfl (lv_at hl 0 rfl) ?_
    refine lv_iload_n C.1 C.2.1 dX6_machine_38 rfl (lv_at hl 1 rfl) ?_
    refine lv_iload_n C.1 C.2.1 dX6_machine_39 rfl (lv_at hl 2 rfl) ?_
    obtain ⟨r5, c6, h⟩ := bd_out h
    refine k_callVi C G hP hS (m_X6_tellMachine l G.2.1 _  c6) r_obj rfl (cwV 2 C.2.2.2.2.2.1 gX6_machine_X6_tellMachine rfl rfl rfl (by decide +kernel) ⟨Nat.le_of_ble_eq_true rfl, Nat.le_of_ble_eq_true rfl⟩) (As := [.int x1, .int x2]) rfl hl.1 rfl (Nat.le_of_ble_eq_true rfl) dX6_machine_40 ⟨Nat.le_of_ble_eq_true rfl, Nat.le_of_ble_eq_true rfl⟩ (fun H locs hP hS => ?_)
    cases h
    exact k_iret C hP hS dX6_machine_43
  · have h := if_f c4 h
    refine lv_iconst (v := 0) C.1 C.2.1 dX6_machine_33 (by decide) ?_
    refine lv_goto (tgt := 43) C.1 C.2.1 dX6_machine_34 (by decide) ?_
    cases h
    exact k_iret C hP hS dX6_machine_43
set_option maxRecDepth 100000 in
set_option maxHeartbeats 4000000 in
theorem w_X6_machine_e {res : Int32 × SL} (C : Cx p s m args meth c cX6_machine 3 (some .int) RX6 wsX6_machine) (G : Gx D cs ad s) {Ls : Nat → SL} {Hs : SL} {T : SL} {dr : Int64} {hs : Int64} {o : Int64} {od : UInt64} {M : SL} {x1 : Int32} {x2 : Int32} {H : Heap} {locs : List Loc} {ls : Array Slot} (hP : va_P D vwCl (wA cs ad Ls Hs T M dr hs o od) H) (hS : va_S (Afr ad s.heap.size) s.heap H locs) (hl : lv_has ls 3 [(0, .ref (ad 89)), (1, .int x1), (2, .int x2)]) (h : f_X6_machine M x1 x2 = some res) : W p l e rmX6_machine s m args below meth c H locs 0 0 (MQ below (va_Qi (fun r' (_ : Unit) => r' = res.1) (fun _ t => va_P D vwCl (wA cs ad Ls Hs T res.2 dr hs o od) t.heap) (Afr ad s.heap.size)) args s 0 0 (Afr ad s.heap.size)) (F0 m 0 ls []) := by
  unfold f_X6_machine at h
  refine lv_aload_n C.1 C.2.1 dX6_machine_0 rfl (lv_at hl 0 rfl) ?_
  refine lv_aload_n C.1 C.2.1 dX6_machine_1 rfl (lv_at hl 0 rfl) ?_
  refine lv_iload_n C.1 C.2.1 dX6_machine_2 rfl (lv_at hl 1 rfl) ?_
  obtain ⟨r1, c2, h⟩ := bd_out h
  refine k_callVi C G hP hS (m_X6_isMachine l G.2.1 _  c2) r_obj rfl (cwV 1 C.2.2.2.2.2.1 gX6_machine_X6_isMachine rfl rfl rfl (by decide +kernel) ⟨Nat.le_of_ble_eq_true rfl, Nat.le_of_ble_eq_true rfl⟩) (As := [.int x1]) rfl hl.1 rfl (Nat.le_of_ble_eq_true rfl) dX6_machine_3 ⟨Nat.le_of_ble_eq_true rfl, Nat.le_of_ble_eq_true rfl⟩ (fun H locs hP hS => ?_)
  refine lv_if_ne (tgt := 13) C.1 C.2.1 dX6_machine_6 (by decide) (fun c3 => ?_) (fun c3 => ?_)
  · have h := if_t c3 h
    refine lv_iload_n C.1 C.2.1 dX6_machine_13 rfl (lv_at hl 2 rfl) ?_
    refine lv_iconst (v := 0) C.1 C.2.1 dX6_machine_14 (by decide) ?_
    refine lv_iconst (v := 3) C.1 C.2.1 dX6_machine_15 (by decide) ?_
    obtain ⟨r4, c5, h⟩ := bd_out h
    refine k_callSi C G hP hS (m_X6_within l G.2.1 _  c5) (va_cwS 3 C.2.2.2.2.2.1 gX6_machine_X6_within rfl rfl rfl (by decide +kernel) ⟨Nat.le_of_ble_eq_true rfl, Nat.le_of_ble_eq_true rfl⟩) (As := [.int x2, .int 0, .int 3]) rfl hl.1 rfl (Nat.le_of_ble_eq_true rfl) dX6_machine_16 ⟨Nat.le_of_ble_eq_true rfl, Nat.le_of_ble_eq_true rfl⟩ (fun H locs hP hS => ?_)
    refine lv_if_eq (tgt := 26) C.1 C.2.1 dX6_machine_19 (by decide) (fun c6 => ?_) (fun c6 => ?_)
    · have h := if_t c6 h
      refine lv_iconst (v := 2) C.1 C.2.1 dX6_machine_26 (by decide) ?_
      exact w_X6_machine_b27 C G hP hS (lv_sub hl [0, 1, 2] rfl) h
    · have h := if_f c6 h
      refine lv_iconst (v := 0) C.1 C.2.1 dX6_machine_22 (by decide) ?_
      refine lv_goto (tgt := 27) C.1 C.2.1 dX6_machine_23 (by decide) ?_
      exact w_X6_machine_b27 C G hP hS (lv_sub hl [0, 1, 2] rfl) h
  · have h := if_n c3 h
    refine lv_iconst (v := 1) C.1 C.2.1 dX6_machine_9 (by decide) ?_
    refine lv_goto (tgt := 27) C.1 C.2.1 dX6_machine_10 (by decide) ?_
    exact w_X6_machine_b27 C G hP hS (lv_sub hl [0, 1, 2] rfl) h
set_option maxRecDepth 100000 in
set_option maxHeartbeats 4000000 in
theorem m_X6_machine (l : Launch) {D : va_G} {cs : Nat → ClassId} {ad : Nat → Nat} (hAd : adOK ad) (sz : Nat) {Ls : Nat → SL} {Hs : SL} {T : SL} {M : SL} {dr : Int64} {hs : Int64} {o : Int64} {od : UInt64} {x1 : Int32} {x2 : Int32} {res : Int32 × SL} (h : f_X6_machine M x1 x2 = some res) : Met l yX6_machine wsX6_machine rmX6_machine (PA D cs sz (wA cs ad Ls Hs T M dr hs o od) [.ref (ad 89), .int x1, .int x2]) (va_Qi (fun r' (_ : Unit) => r' = res.1) (fun _ t => va_P D vwCl (wA cs ad Ls Hs T res.2 dr hs o od) t.heap) (Afr ad sz)) 0 0 (Afr ad sz) :=
  k_met (by decide) rfl (Nat.le_of_ble_eq_true rfl) hAd (fun p e s m below meth c ls C G hP hsz hl hS => by
    subst hsz
    exact w_X6_machine_e C G  hP hS hl  h)
/-! X6 count -/
abbrev rmX6_count : Room := { frames := 2, cells := 0, slots := 0, locals := 43 }
theorem q_X6_count_0 : Cond.fieldLink RX6 7 "LineBuffersModel" "now" "[I" ∈ wsX6_count := List.mem_of_getElem? (i := 1) rfl
theorem n_X6_count_X6 : ∀ x ∈ u_ws RX6 TX6 12, x ∈ wsX6_count := fun x h => List.mem_cons_of_mem _ (List.mem_append_right _ h)
set_option maxRecDepth 100000 in
set_option maxHeartbeats 4000000 in
theorem w_X6_count_b27 {res : Int32 × SL} (C : Cx p s m args meth c cX6_count 3 (some .int) RX6 wsX6_count) (G : Gx D cs ad s) {Ls : Nat → SL} {Hs : SL} {T : SL} {dr : Int64} {hs : Int64} {o : Int64} {od : UInt64} {M : SL} {x1 : Int32} {x2 : Int32} {s1 : Int32} {H : Heap} {locs : List Loc} {ls : Array Slot} (hP : va_P D vwCl (wA cs ad Ls Hs T M dr hs o od) H) (hS : va_S (Afr ad s.heap.size) s.heap H locs) (hl : lv_has ls 3 [(0, .ref (ad 89)), (1, .int x1), (2, .int x2)]) (h : f_X6_count_b27 M x1 x2 s1 = some res) : W p l e rmX6_count s m args below meth c H locs 0 0 (MQ below (va_Qi (fun r' (_ : Unit) => r' = res.1) (fun _ t => va_P D vwCl (wA cs ad Ls Hs T res.2 dr hs o od) t.heap) (Afr ad s.heap.size)) args s 0 0 (Afr ad s.heap.size)) (F0 m 27 ls [.int s1, .ref (ad 89)]) := by
  unfold f_X6_count_b27 at h
  obtain ⟨r1, M2, c3, h⟩ := bd2_out h
  refine k_callVi C G hP hS (m_X6_refused l G.2.1 _  c3) r_obj rfl (cwV 1 C.2.2.2.2.2.1 gX6_count_X6_refused rfl rfl rfl (by decide +kernel) ⟨Nat.le_of_ble_eq_true rfl, Nat.le_of_ble_eq_true rfl⟩) (As := [.int s1]) rfl hl.1 rfl (Nat.le_of_ble_eq_true rfl) dX6_count_27 ⟨Nat.le_of_ble_eq_true rfl, Nat.le_of_ble_eq_true rfl⟩ (fun H locs hP hS => ?_)
  refine lv_if_eq (tgt := 37) C.1 C.2.1 dX6_count_30 (by decide) (fun c4 => ?_) (fun c4 => ?_)
  · have h := if_t c4 h
    refine lv_aload_n C.1 C.2.1 dX6_count_37 rfl (lv_at hl 0 rfl) ?_
    refine k_getf C G hP r_obj rfl 0 (by decide) n_X6_count_X6 q_X6_count_0 (v := .ref (ad (89 + 1))) rfl dX6_count_38 ?_
    refine lv_iload_n C.1 C.2.1 dX6_count_41 rfl (lv_at hl 1 rfl) ?_
    obtain ⟨r5, c6, h⟩ := bd_out h
    refine k_callSi C G hP hS (m_X6_of l G.2.1 _  c6) (va_cwS 1 C.2.2.2.2.2.1 gX6_count_X6_of rfl rfl rfl (by decide +kernel) ⟨Nat.le_of_ble_eq_true rfl, Nat.le_of_ble_eq_true rfl⟩) (As := [.int x1]) rfl hl.1 rfl (Nat.le_of_ble_eq_true rfl) dX6_count_42 ⟨Nat.le_of_ble_eq_true rfl, Nat.le_of_ble_eq_true rfl⟩ (fun H locs hP hS => ?_)
    refine lv_bipush (v := 9) C.1 C.2.1 dX6_count_45 (by decide) ?_
    obtain ⟨v7, ev7, h⟩ := lt_out h
    refine k_iadd C ev7 dX6_count_47 ?_
    refine lv_iload_n C.1 C.2.1 dX6_count_48 rfl (lv_at hl 2 rfl) ?_
    obtain ⟨v8, ev8, h⟩ := lt_out h
    refine k_iadd C ev8 dX6_count_49 ?_
    obtain ⟨g9, h⟩ := gd_out h
    have g9 := chk_in g9
    obtain ⟨v10, ev10, h⟩ := lt_out h
    refine k_iald C G hP (r_arr (k := 1) (by decide)) g9 (j := v8.toNatClampNeg) rfl ev10 dX6_count_50 ?_
    cases h
    exact k_iret C hP hS dX6_count_51
  · have h := if_f c4 h
    refine lv_iconst (v := 0) C.1 C.2.1 dX6_count_33 (by decide) ?_
    refine lv_goto (tgt := 51) C.1 C.2.1 dX6_count_34 (by decide) ?_
    cases h
    exact k_iret C hP hS dX6_count_51
set_option maxRecDepth 100000 in
set_option maxHeartbeats 4000000 in
theorem w_X6_count_e {res : Int32 × SL} (C : Cx p s m args meth c cX6_count 3 (some .int) RX6 wsX6_count) (G : Gx D cs ad s) {Ls : Nat → SL} {Hs : SL} {T : SL} {dr : Int64} {hs : Int64} {o : Int64} {od : UInt64} {M : SL} {x1 : Int32} {x2 : Int32} {H : Heap} {locs : List Loc} {ls : Array Slot} (hP : va_P D vwCl (wA cs ad Ls Hs T M dr hs o od) H) (hS : va_S (Afr ad s.heap.size) s.heap H locs) (hl : lv_has ls 3 [(0, .ref (ad 89)), (1, .int x1), (2, .int x2)]) (h : f_X6_count M x1 x2 = some res) : W p l e rmX6_count s m args below meth c H locs 0 0 (MQ below (va_Qi (fun r' (_ : Unit) => r' = res.1) (fun _ t => va_P D vwCl (wA cs ad Ls Hs T res.2 dr hs o od) t.heap) (Afr ad s.heap.size)) args s 0 0 (Afr ad s.heap.size)) (F0 m 0 ls []) := by
  unfold f_X6_count at h
  refine lv_aload_n C.1 C.2.1 dX6_count_0 rfl (lv_at hl 0 rfl) ?_
  refine lv_aload_n C.1 C.2.1 dX6_count_1 rfl (lv_at hl 0 rfl) ?_
  refine lv_iload_n C.1 C.2.1 dX6_count_2 rfl (lv_at hl 1 rfl) ?_
  obtain ⟨r1, c2, h⟩ := bd_out h
  refine k_callVi C G hP hS (m_X6_isMachine l G.2.1 _  c2) r_obj rfl (cwV 1 C.2.2.2.2.2.1 gX6_count_X6_isMachine rfl rfl rfl (by decide +kernel) ⟨Nat.le_of_ble_eq_true rfl, Nat.le_of_ble_eq_true rfl⟩) (As := [.int x1]) rfl hl.1 rfl (Nat.le_of_ble_eq_true rfl) dX6_count_3 ⟨Nat.le_of_ble_eq_true rfl, Nat.le_of_ble_eq_true rfl⟩ (fun H locs hP hS => ?_)
  refine lv_if_ne (tgt := 13) C.1 C.2.1 dX6_count_6 (by decide) (fun c3 => ?_) (fun c3 => ?_)
  · have h := if_t c3 h
    refine lv_iload_n C.1 C.2.1 dX6_count_13 rfl (lv_at hl 2 rfl) ?_
    refine lv_iconst (v := 0) C.1 C.2.1 dX6_count_14 (by decide) ?_
    refine lv_iconst (v := 5) C.1 C.2.1 dX6_count_15 (by decide) ?_
    obtain ⟨r4, c5, h⟩ := bd_out h
    refine k_callSi C G hP hS (m_X6_within l G.2.1 _  c5) (va_cwS 3 C.2.2.2.2.2.1 gX6_count_X6_within rfl rfl rfl (by decide +kernel) ⟨Nat.le_of_ble_eq_true rfl, Nat.le_of_ble_eq_true rfl⟩) (As := [.int x2, .int 0, .int 5]) rfl hl.1 rfl (Nat.le_of_ble_eq_true rfl) dX6_count_16 ⟨Nat.le_of_ble_eq_true rfl, Nat.le_of_ble_eq_true rfl⟩ (fun H locs hP hS => ?_)
    refine lv_if_eq (tgt := 26) C.1 C.2.1 dX6_count_19 (by decide) (fun c6 => ?_) (fun c6 => ?_)
    · have h := if_t c6 h
      refine lv_iconst (v := 2) C.1 C.2.1 dX6_count_26 (by decide) ?_
      exact w_X6_count_b27 C G hP hS (lv_sub hl [0, 1, 2] rfl) h
    · have h := if_f c6 h
      refine lv_iconst (v := 0) C.1 C.2.1 dX6_count_22 (by decide) ?_
      refine lv_goto (tgt := 27) C.1 C.2.1 dX6_count_23 (by decide) ?_
      exact w_X6_count_b27 C G hP hS (lv_sub hl [0, 1, 2] rfl) h
  · have h := if_n c3 h
    refine lv_iconst (v := 1) C.1 C.2.1 dX6_count_9 (by decide) ?_
    refine lv_goto (tgt := 27) C.1 C.2.1 dX6_count_10 (by decide) ?_
    exact w_X6_count_b27 C G hP hS (lv_sub hl [0, 1, 2] rfl) h
set_option maxRecDepth 100000 in
set_option maxHeartbeats 4000000 in
theorem m_X6_count (l : Launch) {D : va_G} {cs : Nat → ClassId} {ad : Nat → Nat} (hAd : adOK ad) (sz : Nat) {Ls : Nat → SL} {Hs : SL} {T : SL} {M : SL} {dr : Int64} {hs : Int64} {o : Int64} {od : UInt64} {x1 : Int32} {x2 : Int32} {res : Int32 × SL} (h : f_X6_count M x1 x2 = some res) : Met l yX6_count wsX6_count rmX6_count (PA D cs sz (wA cs ad Ls Hs T M dr hs o od) [.ref (ad 89), .int x1, .int x2]) (va_Qi (fun r' (_ : Unit) => r' = res.1) (fun _ t => va_P D vwCl (wA cs ad Ls Hs T res.2 dr hs o od) t.heap) (Afr ad sz)) 0 0 (Afr ad sz) :=
  k_met (by decide) rfl (Nat.le_of_ble_eq_true rfl) hAd (fun p e s m below meth c ls C G hP hsz hl hS => by
    subst hsz
    exact w_X6_count_e C G  hP hS hl  h)
/-! X6 meanFill -/
abbrev rmX6_meanFill : Room := { frames := 2, cells := 0, slots := 0, locals := 43 }
theorem q_X6_meanFill_0 : Cond.fieldLink RX6 7 "LineBuffersModel" "now" "[I" ∈ wsX6_meanFill := List.mem_of_getElem? (i := 1) rfl
theorem n_X6_meanFill_X6 : ∀ x ∈ u_ws RX6 TX6 12, x ∈ wsX6_meanFill := fun x h => List.mem_cons_of_mem _ (List.mem_append_right _ h)
set_option maxRecDepth 100000 in
set_option maxHeartbeats 4000000 in
theorem w_X6_meanFill_b14 {res : UInt64 × SL} (C : Cx p s m args meth c cX6_meanFill 2 (some .double) RX6 wsX6_meanFill) (G : Gx D cs ad s) {Ls : Nat → SL} {Hs : SL} {T : SL} {dr : Int64} {hs : Int64} {o : Int64} {od : UInt64} {M : SL} {x1 : Int32} {s1 : Int32} {H : Heap} {locs : List Loc} {ls : Array Slot} (hP : va_P D vwCl (wA cs ad Ls Hs T M dr hs o od) H) (hS : va_S (Afr ad s.heap.size) s.heap H locs) (hl : lv_has ls 2 [(0, .ref (ad 89)), (1, .int x1)]) (h : f_X6_meanFill_b14 M x1 s1 = some res) : W p l e rmX6_meanFill s m args below meth c H locs 0 0 (MQ below (va_Qd (fun r' (_ : Unit) => r' = res.1) (fun _ t => va_P D vwCl (wA cs ad Ls Hs T res.2 dr hs o od) t.heap) (Afr ad s.heap.size)) args s 0 0 (Afr ad s.heap.size)) (F0 m 14 ls [.int s1, .ref (ad 89)]) := by
  unfold f_X6_meanFill_b14 at h
  obtain ⟨r1, M2, c3, h⟩ := bd2_out h
  refine k_callVi C G hP hS (m_X6_refused l G.2.1 _  c3) r_obj rfl (cwV 1 C.2.2.2.2.2.1 gX6_meanFill_X6_refused rfl rfl rfl (by decide +kernel) ⟨Nat.le_of_ble_eq_true rfl, Nat.le_of_ble_eq_true rfl⟩) (As := [.int s1]) rfl hl.1 rfl (Nat.le_of_ble_eq_true rfl) dX6_meanFill_14 ⟨Nat.le_of_ble_eq_true rfl, Nat.le_of_ble_eq_true rfl⟩ (fun H locs hP hS => ?_)
  refine lv_if_ne (tgt := 29) C.1 C.2.1 dX6_meanFill_17 (by decide) (fun c4 => ?_) (fun c4 => ?_)
  · have h := if_t c4 h
    refine lv_dconst0 C.1 C.2.1 dX6_meanFill_29 ?_
    cases h
    exact k_dret C hP hS dX6_meanFill_30
  · have h := if_n c4 h
    refine lv_aload_n C.1 C.2.1 dX6_meanFill_20 rfl (lv_at hl 0 rfl) ?_
    refine k_getf C G hP r_obj rfl 0 (by decide) n_X6_meanFill_X6 q_X6_meanFill_0 (v := .ref (ad (89 + 1))) rfl dX6_meanFill_21 ?_
    refine lv_iconst (v := 1) C.1 C.2.1 dX6_meanFill_24 (by decide) ?_
    obtain ⟨v5, ev5, h⟩ := lt_out h
    refine k_iald C G hP (r_arr (k := 1) (by decide)) (chk_in rfl) (j := 1) rfl ev5 dX6_meanFill_25 ?_
    refine lv_if_ne (tgt := 31) C.1 C.2.1 dX6_meanFill_26 (by decide) (fun c6 => ?_) (fun c6 => ?_)
    · have h := if_t c6 h
      refine lv_aload_n C.1 C.2.1 dX6_meanFill_31 rfl (lv_at hl 0 rfl) ?_
      refine k_getf C G hP r_obj rfl 0 (by decide) n_X6_meanFill_X6 q_X6_meanFill_0 (v := .ref (ad (89 + 1))) rfl dX6_meanFill_32 ?_
      refine lv_iload_n C.1 C.2.1 dX6_meanFill_35 rfl (lv_at hl 1 rfl) ?_
      obtain ⟨r7, c8, h⟩ := bd_out h
      refine k_callSi C G hP hS (m_X6_of l G.2.1 _  c8) (va_cwS 1 C.2.2.2.2.2.1 gX6_meanFill_X6_of rfl rfl rfl (by decide +kernel) ⟨Nat.le_of_ble_eq_true rfl, Nat.le_of_ble_eq_true rfl⟩) (As := [.int x1]) rfl hl.1 rfl (Nat.le_of_ble_eq_true rfl) dX6_meanFill_36 ⟨Nat.le_of_ble_eq_true rfl, Nat.le_of_ble_eq_true rfl⟩ (fun H locs hP hS => ?_)
      refine lv_bipush (v := 15) C.1 C.2.1 dX6_meanFill_39 (by decide) ?_
      obtain ⟨v9, ev9, h⟩ := lt_out h
      refine k_iadd C ev9 dX6_meanFill_41 ?_
      obtain ⟨g10, h⟩ := gd_out h
      have g10 := chk_in g10
      obtain ⟨v11, ev11, h⟩ := lt_out h
      refine k_iald C G hP (r_arr (k := 1) (by decide)) g10 (j := v9.toNatClampNeg) rfl ev11 dX6_meanFill_42 ?_
      obtain ⟨dd12, edd12, h⟩ := lt_out h
      refine k_i2d C edd12 dX6_meanFill_43 ?_
      refine lv_aload_n C.1 C.2.1 dX6_meanFill_44 rfl (lv_at hl 0 rfl) ?_
      refine k_getf C G hP r_obj rfl 0 (by decide) n_X6_meanFill_X6 q_X6_meanFill_0 (v := .ref (ad (89 + 1))) rfl dX6_meanFill_45 ?_
      refine lv_iconst (v := 1) C.1 C.2.1 dX6_meanFill_48 (by decide) ?_
      obtain ⟨v13, ev13, h⟩ := lt_out h
      refine k_iald C G hP (r_arr (k := 1) (by decide)) (chk_in rfl) (j := 1) rfl ev13 dX6_meanFill_49 ?_
      obtain ⟨dd14, edd14, h⟩ := lt_out h
      refine k_i2d C edd14 dX6_meanFill_50 ?_
      obtain ⟨g15, h⟩ := gd_out h
      have g15 := dnn_out g15
      obtain ⟨dd16, edd16, h⟩ := lt_out h
      refine k_ddiv C g15 edd16 dX6_meanFill_51 ?_
      cases h
      exact k_dret C hP hS dX6_meanFill_52
    · have h := if_n c6 h
      refine lv_dconst0 C.1 C.2.1 dX6_meanFill_29 ?_
      cases h
      exact k_dret C hP hS dX6_meanFill_30
set_option maxRecDepth 100000 in
set_option maxHeartbeats 4000000 in
theorem w_X6_meanFill_e {res : UInt64 × SL} (C : Cx p s m args meth c cX6_meanFill 2 (some .double) RX6 wsX6_meanFill) (G : Gx D cs ad s) {Ls : Nat → SL} {Hs : SL} {T : SL} {dr : Int64} {hs : Int64} {o : Int64} {od : UInt64} {M : SL} {x1 : Int32} {H : Heap} {locs : List Loc} {ls : Array Slot} (hP : va_P D vwCl (wA cs ad Ls Hs T M dr hs o od) H) (hS : va_S (Afr ad s.heap.size) s.heap H locs) (hl : lv_has ls 2 [(0, .ref (ad 89)), (1, .int x1)]) (h : f_X6_meanFill M x1 = some res) : W p l e rmX6_meanFill s m args below meth c H locs 0 0 (MQ below (va_Qd (fun r' (_ : Unit) => r' = res.1) (fun _ t => va_P D vwCl (wA cs ad Ls Hs T res.2 dr hs o od) t.heap) (Afr ad s.heap.size)) args s 0 0 (Afr ad s.heap.size)) (F0 m 0 ls []) := by
  unfold f_X6_meanFill at h
  refine lv_aload_n C.1 C.2.1 dX6_meanFill_0 rfl (lv_at hl 0 rfl) ?_
  refine lv_aload_n C.1 C.2.1 dX6_meanFill_1 rfl (lv_at hl 0 rfl) ?_
  refine lv_iload_n C.1 C.2.1 dX6_meanFill_2 rfl (lv_at hl 1 rfl) ?_
  obtain ⟨r1, c2, h⟩ := bd_out h
  refine k_callVi C G hP hS (m_X6_isMachine l G.2.1 _  c2) r_obj rfl (cwV 1 C.2.2.2.2.2.1 gX6_meanFill_X6_isMachine rfl rfl rfl (by decide +kernel) ⟨Nat.le_of_ble_eq_true rfl, Nat.le_of_ble_eq_true rfl⟩) (As := [.int x1]) rfl hl.1 rfl (Nat.le_of_ble_eq_true rfl) dX6_meanFill_3 ⟨Nat.le_of_ble_eq_true rfl, Nat.le_of_ble_eq_true rfl⟩ (fun H locs hP hS => ?_)
  refine lv_if_eq (tgt := 13) C.1 C.2.1 dX6_meanFill_6 (by decide) (fun c3 => ?_) (fun c3 => ?_)
  · have h := if_t c3 h
    refine lv_iconst (v := 1) C.1 C.2.1 dX6_meanFill_13 (by decide) ?_
    exact w_X6_meanFill_b14 C G hP hS (lv_sub hl [0, 1] rfl) h
  · have h := if_f c3 h
    refine lv_iconst (v := 0) C.1 C.2.1 dX6_meanFill_9 (by decide) ?_
    refine lv_goto (tgt := 14) C.1 C.2.1 dX6_meanFill_10 (by decide) ?_
    exact w_X6_meanFill_b14 C G hP hS (lv_sub hl [0, 1] rfl) h
set_option maxRecDepth 100000 in
set_option maxHeartbeats 4000000 in
theorem m_X6_meanFill (l : Launch) {D : va_G} {cs : Nat → ClassId} {ad : Nat → Nat} (hAd : adOK ad) (sz : Nat) {Ls : Nat → SL} {Hs : SL} {T : SL} {M : SL} {dr : Int64} {hs : Int64} {o : Int64} {od : UInt64} {x1 : Int32} {res : UInt64 × SL} (h : f_X6_meanFill M x1 = some res) : Met l yX6_meanFill wsX6_meanFill rmX6_meanFill (PA D cs sz (wA cs ad Ls Hs T M dr hs o od) [.ref (ad 89), .int x1]) (va_Qd (fun r' (_ : Unit) => r' = res.1) (fun _ t => va_P D vwCl (wA cs ad Ls Hs T res.2 dr hs o od) t.heap) (Afr ad sz)) 0 0 (Afr ad sz) :=
  k_met (by decide) rfl (Nat.le_of_ble_eq_true rfl) hAd (fun p e s m below meth c ls C G hP hsz hl hS => by
    subst hsz
    exact w_X6_meanFill_e C G  hP hS hl  h)
/-! X6 bottles -/
abbrev rmX6_bottles : Room := { frames := 1, cells := 0, slots := 0, locals := 20 }
theorem q_X6_bottles_0 : Cond.fieldLink RX6 7 "LineBuffersModel" "now" "[I" ∈ wsX6_bottles := List.mem_of_getElem? (i := 1) rfl
theorem n_X6_bottles_X6 : ∀ x ∈ u_ws RX6 TX6 12, x ∈ wsX6_bottles := fun x h => List.mem_cons_of_mem _ (List.mem_append_right _ h)
set_option maxRecDepth 100000 in
set_option maxHeartbeats 4000000 in
theorem w_X6_bottles_b47 {res : Int32} (C : Cx p s m args meth c cX6_bottles 3 (some .int) RX6 wsX6_bottles) (G : Gx D cs ad s) {Ls : Nat → SL} {Hs : SL} {T : SL} {dr : Int64} {hs : Int64} {o : Int64} {od : UInt64} {M : SL} {K4 : SL → Int32 → Int32 → Option (Int32)} (hK4 : ∀ {x1 : Int32} {x2 : Int32} {H : Heap} {locs : List Loc} {ls : Array Slot}, va_P D vwCl (wA cs ad Ls Hs T M dr hs o od) H → va_S (Afr ad s.heap.size) s.heap H locs → lv_has ls 3 [(0, .ref (ad 89)), (1, .int x1), (2, .int x2)] → K4 M x1 x2 = some res → W p l e rmX6_bottles s m args below meth c H locs 0 0 (MQ below (va_Qi (fun r' (_ : Unit) => r' = res) (fun _ t => va_P D vwCl (wA cs ad Ls Hs T M dr hs o od) t.heap) (Afr ad s.heap.size)) args s 0 0 (Afr ad s.heap.size)) (F0 m 4 ls [])) {x2 : Int32} {s0 : Int32} {s1 : Int32} {s2 : Int32} {H : Heap} {locs : List Loc} {ls : Array Slot} (hP : va_P D vwCl (wA cs ad Ls Hs T M dr hs o od) H) (hS : va_S (Afr ad s.heap.size) s.heap H locs) (hl : lv_has ls 3 [(0, .ref (ad 89)), (2, .int x2)]) (h : f_X6_bottles_b47 K4 M x2 s0 s1 s2 = some res) : W p l e rmX6_bottles s m args below meth c H locs 0 0 (MQ below (va_Qi (fun r' (_ : Unit) => r' = res) (fun _ t => va_P D vwCl (wA cs ad Ls Hs T M dr hs o od) t.heap) (Afr ad s.heap.size)) args s 0 0 (Afr ad s.heap.size)) (F0 m 47 ls [.int s2, .int s1, .int s0]) := by
  unfold f_X6_bottles_b47 at h
  obtain ⟨v1, ev1, h⟩ := lt_out h
  refine k_iadd C ev1 dX6_bottles_47 ?_
  obtain ⟨v2, ev2, h⟩ := lt_out h
  refine k_iadd C ev2 dX6_bottles_48 ?_
  refine lv_istore_n (lv' := [(1, .int v2), (0, .ref (ad 89)), (2, .int x2)]) C.1 C.2.1 dX6_bottles_49 rfl hl (by decide) rfl (fun ls hl => ?_)
  obtain ⟨z3, ez3, h⟩ := lt_out h
  refine lv_iinc (v := z3) (lv' := [(2, .int z3), (1, .int v2), (0, .ref (ad 89))]) C.1 C.2.1 dX6_bottles_50 hl (k := 2) rfl (by rw [ez3]; rfl) (by decide) rfl (fun ls hl => ?_)
  refine lv_goto (tgt := 4) C.1 C.2.1 dX6_bottles_53 (by decide) ?_
  exact hK4 hP hS (lv_sub hl [2, 1, 0] rfl)  h
set_option maxRecDepth 100000 in
set_option maxHeartbeats 4000000 in
theorem w_X6_bottles_b4 {res : Int32} (C : Cx p s m args meth c cX6_bottles 3 (some .int) RX6 wsX6_bottles) (G : Gx D cs ad s) {Ls : Nat → SL} {Hs : SL} {T : SL} {dr : Int64} {hs : Int64} {o : Int64} {od : UInt64} {M : SL} {K4 : SL → Int32 → Int32 → Option (Int32)} (hK4 : ∀ {x1 : Int32} {x2 : Int32} {H : Heap} {locs : List Loc} {ls : Array Slot}, va_P D vwCl (wA cs ad Ls Hs T M dr hs o od) H → va_S (Afr ad s.heap.size) s.heap H locs → lv_has ls 3 [(0, .ref (ad 89)), (1, .int x1), (2, .int x2)] → K4 M x1 x2 = some res → W p l e rmX6_bottles s m args below meth c H locs 0 0 (MQ below (va_Qi (fun r' (_ : Unit) => r' = res) (fun _ t => va_P D vwCl (wA cs ad Ls Hs T M dr hs o od) t.heap) (Afr ad s.heap.size)) args s 0 0 (Afr ad s.heap.size)) (F0 m 4 ls [])) {x1 : Int32} {x2 : Int32} {H : Heap} {locs : List Loc} {ls : Array Slot} (hP : va_P D vwCl (wA cs ad Ls Hs T M dr hs o od) H) (hS : va_S (Afr ad s.heap.size) s.heap H locs) (hl : lv_has ls 3 [(0, .ref (ad 89)), (1, .int x1), (2, .int x2)]) (h : f_X6_bottles_b4 K4 M x1 x2 = some res) : W p l e rmX6_bottles s m args below meth c H locs 0 0 (MQ below (va_Qi (fun r' (_ : Unit) => r' = res) (fun _ t => va_P D vwCl (wA cs ad Ls Hs T M dr hs o od) t.heap) (Afr ad s.heap.size)) args s 0 0 (Afr ad s.heap.size)) (F0 m 4 ls []) := by
  unfold f_X6_bottles_b4 at h
  refine lv_iload_n C.1 C.2.1 dX6_bottles_4 rfl (lv_at hl 2 rfl) ?_
  refine lv_aload_n C.1 C.2.1 dX6_bottles_5 rfl (lv_at hl 0 rfl) ?_
  refine k_getf C G hP r_obj rfl 0 (by decide) n_X6_bottles_X6 q_X6_bottles_0 (v := .ref (ad (89 + 1))) rfl dX6_bottles_6 ?_
  refine lv_iconst (v := 0) C.1 C.2.1 dX6_bottles_9 (by decide) ?_
  obtain ⟨v1, ev1, h⟩ := lt_out h
  refine k_iald C G hP (r_arr (k := 1) (by decide)) (chk_in rfl) (j := 0) rfl ev1 dX6_bottles_10 ?_
  refine lv_icmp_ge (tgt := 56) C.1 C.2.1 dX6_bottles_11 (by decide) (fun c2 => ?_) (fun c2 => ?_)
  · have h := if_t c2 h
    refine lv_iload_n C.1 C.2.1 dX6_bottles_56 rfl (lv_at hl 1 rfl) ?_
    cases h
    exact k_iret C hP hS dX6_bottles_57
  · have h := if_f c2 h
    refine lv_iload_n C.1 C.2.1 dX6_bottles_14 rfl (lv_at hl 1 rfl) ?_
    refine lv_aload_n C.1 C.2.1 dX6_bottles_15 rfl (lv_at hl 0 rfl) ?_
    refine k_getf C G hP r_obj rfl 0 (by decide) n_X6_bottles_X6 q_X6_bottles_0 (v := .ref (ad (89 + 1))) rfl dX6_bottles_16 ?_
    refine lv_iload_n C.1 C.2.1 dX6_bottles_19 rfl (lv_at hl 2 rfl) ?_
    obtain ⟨r3, c4, h⟩ := bd_out h
    refine k_callSi C G hP hS (m_X6_of l G.2.1 _  c4) (va_cwS 1 C.2.2.2.2.2.1 gX6_bottles_X6_of rfl rfl rfl (by decide +kernel) ⟨Nat.le_of_ble_eq_true rfl, Nat.le_of_ble_eq_true rfl⟩) (As := [.int x2]) rfl hl.1 rfl (Nat.le_of_ble_eq_true rfl) dX6_bottles_20 ⟨Nat.le_of_ble_eq_true rfl, Nat.le_of_ble_eq_true rfl⟩ (fun H locs hP hS => ?_)
    refine lv_iconst (v := 5) C.1 C.2.1 dX6_bottles_23 (by decide) ?_
    obtain ⟨v5, ev5, h⟩ := lt_out h
    refine k_iadd C ev5 dX6_bottles_24 ?_
    obtain ⟨g6, h⟩ := gd_out h
    have g6 := chk_in g6
    obtain ⟨v7, ev7, h⟩ := lt_out h
    refine k_iald C G hP (r_arr (k := 1) (by decide)) g6 (j := v5.toNatClampNeg) rfl ev7 dX6_bottles_25 ?_
    refine lv_aload_n C.1 C.2.1 dX6_bottles_26 rfl (lv_at hl 0 rfl) ?_
    refine k_getf C G hP r_obj rfl 0 (by decide) n_X6_bottles_X6 q_X6_bottles_0 (v := .ref (ad (89 + 1))) rfl dX6_bottles_27 ?_
    refine lv_iload_n C.1 C.2.1 dX6_bottles_30 rfl (lv_at hl 2 rfl) ?_
    obtain ⟨r8, c9, h⟩ := bd_out h
    refine k_callSi C G hP hS (m_X6_of l G.2.1 _  c9) (va_cwS 1 C.2.2.2.2.2.1 gX6_bottles_X6_of rfl rfl rfl (by decide +kernel) ⟨Nat.le_of_ble_eq_true rfl, Nat.le_of_ble_eq_true rfl⟩) (As := [.int x2]) rfl hl.1 rfl (Nat.le_of_ble_eq_true rfl) dX6_bottles_31 ⟨Nat.le_of_ble_eq_true rfl, Nat.le_of_ble_eq_true rfl⟩ (fun H locs hP hS => ?_)
    refine lv_bipush (v := 6) C.1 C.2.1 dX6_bottles_34 (by decide) ?_
    obtain ⟨v10, ev10, h⟩ := lt_out h
    refine k_iadd C ev10 dX6_bottles_36 ?_
    obtain ⟨g11, h⟩ := gd_out h
    have g11 := chk_in g11
    obtain ⟨v12, ev12, h⟩ := lt_out h
    refine k_iald C G hP (r_arr (k := 1) (by decide)) g11 (j := v10.toNatClampNeg) rfl ev12 dX6_bottles_37 ?_
    refine lv_iconst (v := (-1)) C.1 C.2.1 dX6_bottles_38 (by decide) ?_
    refine lv_icmp_ne (tgt := 46) C.1 C.2.1 dX6_bottles_39 (by decide) (fun c13 => ?_) (fun c13 => ?_)
    · have h := if_t c13 h
      refine lv_iconst (v := 1) C.1 C.2.1 dX6_bottles_46 (by decide) ?_
      exact w_X6_bottles_b47 C G hK4 hP hS (lv_sub hl [0, 2] rfl) h
    · have h := if_n c13 h
      refine lv_iconst (v := 0) C.1 C.2.1 dX6_bottles_42 (by decide) ?_
      refine lv_goto (tgt := 47) C.1 C.2.1 dX6_bottles_43 (by decide) ?_
      exact w_X6_bottles_b47 C G hK4 hP hS (lv_sub hl [0, 2] rfl) h
set_option maxRecDepth 100000 in
set_option maxHeartbeats 4000000 in
theorem w_X6_bottles_h4 {res : Int32} (C : Cx p s m args meth c cX6_bottles 3 (some .int) RX6 wsX6_bottles) (G : Gx D cs ad s) {Ls : Nat → SL} {Hs : SL} {T : SL} {dr : Int64} {hs : Int64} {o : Int64} {od : UInt64} {M : SL} : ∀ (n : Nat) {x1 : Int32} {x2 : Int32} {H : Heap} {locs : List Loc} {ls : Array Slot}, va_P D vwCl (wA cs ad Ls Hs T M dr hs o od) H → va_S (Afr ad s.heap.size) s.heap H locs → lv_has ls 3 [(0, .ref (ad 89)), (1, .int x1), (2, .int x2)] → f_X6_bottles_h4 n M x1 x2 = some res → W p l e rmX6_bottles s m args below meth c H locs 0 0 (MQ below (va_Qi (fun r' (_ : Unit) => r' = res) (fun _ t => va_P D vwCl (wA cs ad Ls Hs T M dr hs o od) t.heap) (Afr ad s.heap.size)) args s 0 0 (Afr ad s.heap.size)) (F0 m 4 ls []) := by
  intro n
  induction n with
  | zero => intro  x1 x2 H locs ls hP hS hl  h; cases h
  | succ n ih => intro  x1 x2 H locs ls hP hS hl  h; exact w_X6_bottles_b4 C G    ih hP hS hl  h
set_option maxRecDepth 100000 in
set_option maxHeartbeats 4000000 in
theorem w_X6_bottles_e {res : Int32} (C : Cx p s m args meth c cX6_bottles 3 (some .int) RX6 wsX6_bottles) (G : Gx D cs ad s) {Ls : Nat → SL} {Hs : SL} {T : SL} {dr : Int64} {hs : Int64} {o : Int64} {od : UInt64} {M : SL} {H : Heap} {locs : List Loc} {ls : Array Slot} (hP : va_P D vwCl (wA cs ad Ls Hs T M dr hs o od) H) (hS : va_S (Afr ad s.heap.size) s.heap H locs) (hl : lv_has ls 3 [(0, .ref (ad 89))]) (h : f_X6_bottles M = some res) : W p l e rmX6_bottles s m args below meth c H locs 0 0 (MQ below (va_Qi (fun r' (_ : Unit) => r' = res) (fun _ t => va_P D vwCl (wA cs ad Ls Hs T M dr hs o od) t.heap) (Afr ad s.heap.size)) args s 0 0 (Afr ad s.heap.size)) (F0 m 0 ls []) := by
  unfold f_X6_bottles at h
  refine lv_iconst (v := 0) C.1 C.2.1 dX6_bottles_0 (by decide) ?_
  refine lv_istore_n (lv' := [(1, .int 0), (0, .ref (ad 89))]) C.1 C.2.1 dX6_bottles_1 rfl hl (by decide) rfl (fun ls hl => ?_)
  refine lv_iconst (v := 0) C.1 C.2.1 dX6_bottles_2 (by decide) ?_
  refine lv_istore_n (lv' := [(2, .int 0), (1, .int 0), (0, .ref (ad 89))]) C.1 C.2.1 dX6_bottles_3 rfl hl (by decide) rfl (fun ls hl => ?_)
  exact w_X6_bottles_h4 C G fuel hP hS (lv_sub hl [2, 1, 0] rfl) h
set_option maxRecDepth 100000 in
set_option maxHeartbeats 4000000 in
theorem m_X6_bottles (l : Launch) {D : va_G} {cs : Nat → ClassId} {ad : Nat → Nat} (hAd : adOK ad) (sz : Nat) {Ls : Nat → SL} {Hs : SL} {T : SL} {M : SL} {dr : Int64} {hs : Int64} {o : Int64} {od : UInt64} {res : Int32} (h : f_X6_bottles M = some res) : Met l yX6_bottles wsX6_bottles rmX6_bottles (PA D cs sz (wA cs ad Ls Hs T M dr hs o od) [.ref (ad 89)]) (va_Qi (fun r' (_ : Unit) => r' = res) (fun _ t => va_P D vwCl (wA cs ad Ls Hs T M dr hs o od) t.heap) (Afr ad sz)) 0 0 (Afr ad sz) :=
  k_met (by decide) rfl (Nat.le_of_ble_eq_true rfl) hAd (fun p e s m below meth c ls C G hP hsz hl hS => by
    subst hsz
    exact w_X6_bottles_e C G  hP hS hl  h)
/-! X6 inside -/
abbrev rmX6_inside : Room := { frames := 2, cells := 0, slots := 0, locals := 42 }
theorem q_X6_inside_0 : Cond.fieldLink RX6 25 "LineBuffersModel" "refusal" "I" ∈ wsX6_inside := List.mem_of_getElem? (i := 1) rfl
theorem n_X6_inside_X6 : ∀ x ∈ u_ws RX6 TX6 12, x ∈ wsX6_inside := fun x h => List.mem_cons_of_mem _ (List.mem_append_right _ h)
set_option maxRecDepth 100000 in
set_option maxHeartbeats 4000000 in
theorem w_X6_inside_e {res : Int32 × SL} (C : Cx p s m args meth c cX6_inside 1 (some .int) RX6 wsX6_inside) (G : Gx D cs ad s) {Ls : Nat → SL} {Hs : SL} {T : SL} {dr : Int64} {hs : Int64} {o : Int64} {od : UInt64} {M : SL} {H : Heap} {locs : List Loc} {ls : Array Slot} (hP : va_P D vwCl (wA cs ad Ls Hs T M dr hs o od) H) (hS : va_S (Afr ad s.heap.size) s.heap H locs) (hl : lv_has ls 1 [(0, .ref (ad 89))]) (h : f_X6_inside M = some res) : W p l e rmX6_inside s m args below meth c H locs 0 0 (MQ below (va_Qi (fun r' (_ : Unit) => r' = res.1) (fun _ t => va_P D vwCl (wA cs ad Ls Hs T res.2 dr hs o od) t.heap) (Afr ad s.heap.size)) args s 0 0 (Afr ad s.heap.size)) (F0 m 0 ls []) := by
  unfold f_X6_inside at h
  refine lv_aload_n C.1 C.2.1 dX6_inside_0 rfl (lv_at hl 0 rfl) ?_
  refine lv_iconst (v := 0) C.1 C.2.1 dX6_inside_1 (by decide) ?_
  obtain ⟨M1, eM1, h⟩ := lt_out h
  refine k_puti C G hP hS r_obj rfl 4 (by decide) n_X6_inside_X6 q_X6_inside_0 tyX6_ok nmX6 rfl (tyX6_ok 4 (by decide)) (Nat.le_of_ble_eq_true rfl) r_objS4 dX6_inside_2 (fun H locs hP hS => ?_)
  rw [← eM1] at hP
  refine lv_aload_n C.1 C.2.1 dX6_inside_5 rfl (lv_at hl 0 rfl) ?_
  obtain ⟨r2, c3, h⟩ := bd_out h
  refine k_callVi C G hP hS (m_X6_bottles l G.2.1 _  c3) r_obj rfl (cwV 0 C.2.2.2.2.2.1 gX6_inside_X6_bottles rfl rfl rfl (by decide +kernel) ⟨Nat.le_of_ble_eq_true rfl, Nat.le_of_ble_eq_true rfl⟩) (As := []) rfl hl.1 rfl (Nat.le_of_ble_eq_true rfl) dX6_inside_6 ⟨Nat.le_of_ble_eq_true rfl, Nat.le_of_ble_eq_true rfl⟩ (fun H locs hP hS => ?_)
  cases h
  exact k_iret C hP hS dX6_inside_9
set_option maxRecDepth 100000 in
set_option maxHeartbeats 4000000 in
theorem m_X6_inside (l : Launch) {D : va_G} {cs : Nat → ClassId} {ad : Nat → Nat} (hAd : adOK ad) (sz : Nat) {Ls : Nat → SL} {Hs : SL} {T : SL} {M : SL} {dr : Int64} {hs : Int64} {o : Int64} {od : UInt64} {res : Int32 × SL} (h : f_X6_inside M = some res) : Met l yX6_inside wsX6_inside rmX6_inside (PA D cs sz (wA cs ad Ls Hs T M dr hs o od) [.ref (ad 89)]) (va_Qi (fun r' (_ : Unit) => r' = res.1) (fun _ t => va_P D vwCl (wA cs ad Ls Hs T res.2 dr hs o od) t.heap) (Afr ad sz)) 0 0 (Afr ad sz) :=
  k_met (by decide) rfl (Nat.le_of_ble_eq_true rfl) hAd (fun p e s m below meth c ls C G hP hsz hl hS => by
    subst hsz
    exact w_X6_inside_e C G  hP hS hl  h)
/-! X6 most -/
abbrev rmX6_most : Room := { frames := 1, cells := 0, slots := 0, locals := 22 }
theorem q_X6_most_0 : Cond.fieldLink RX6 7 "LineBuffersModel" "now" "[I" ∈ wsX6_most := List.mem_of_getElem? (i := 1) rfl
theorem n_X6_most_X6 : ∀ x ∈ u_ws RX6 TX6 12, x ∈ wsX6_most := fun x h => List.mem_cons_of_mem _ (List.mem_append_right _ h)
set_option maxRecDepth 100000 in
set_option maxHeartbeats 4000000 in
theorem w_X6_most_b27 {res : Int32} (C : Cx p s m args meth c cX6_most 5 (some .int) RX6 wsX6_most) (G : Gx D cs ad s) {Ls : Nat → SL} {Hs : SL} {T : SL} {dr : Int64} {hs : Int64} {o : Int64} {od : UInt64} {M : SL} {K5 : SL → Int32 → Int32 → Int32 → Int32 → Option (Int32)} (hK5 : ∀ {x1 : Int32} {x2 : Int32} {x3 : Int32} {x4 : Int32} {H : Heap} {locs : List Loc} {ls : Array Slot}, va_P D vwCl (wA cs ad Ls Hs T M dr hs o od) H → va_S (Afr ad s.heap.size) s.heap H locs → lv_has ls 5 [(0, .ref (ad 89)), (1, .int x1), (2, .int x2), (3, .int x3), (4, .int x4)] → K5 M x1 x2 x3 x4 = some res → W p l e rmX6_most s m args below meth c H locs 0 0 (MQ below (va_Qi (fun r' (_ : Unit) => r' = res) (fun _ t => va_P D vwCl (wA cs ad Ls Hs T M dr hs o od) t.heap) (Afr ad s.heap.size)) args s 0 0 (Afr ad s.heap.size)) (F0 m 5 ls [])) {x1 : Int32} {x2 : Int32} {x4 : Int32} {s0 : Int32} {s1 : Int32} {H : Heap} {locs : List Loc} {ls : Array Slot} (hP : va_P D vwCl (wA cs ad Ls Hs T M dr hs o od) H) (hS : va_S (Afr ad s.heap.size) s.heap H locs) (hl : lv_has ls 5 [(0, .ref (ad 89)), (1, .int x1), (2, .int x2), (4, .int x4)]) (h : f_X6_most_b27 K5 M x1 x2 x4 s0 s1 = some res) : W p l e rmX6_most s m args below meth c H locs 0 0 (MQ below (va_Qi (fun r' (_ : Unit) => r' = res) (fun _ t => va_P D vwCl (wA cs ad Ls Hs T M dr hs o od) t.heap) (Afr ad s.heap.size)) args s 0 0 (Afr ad s.heap.size)) (F0 m 27 ls [.int s1, .int s0]) := by
  unfold f_X6_most_b27 at h
  obtain ⟨v1, ev1, h⟩ := lt_out h
  refine k_iadd C ev1 dX6_most_27 ?_
  refine lv_istore_n (lv' := [(3, .int v1), (0, .ref (ad 89)), (1, .int x1), (2, .int x2), (4, .int x4)]) C.1 C.2.1 dX6_most_28 rfl hl (by decide) rfl (fun ls hl => ?_)
  obtain ⟨z2, ez2, h⟩ := lt_out h
  refine lv_iinc (v := z2) (lv' := [(4, .int z2), (3, .int v1), (0, .ref (ad 89)), (1, .int x1), (2, .int x2)]) C.1 C.2.1 dX6_most_29 hl (k := 4) rfl (by rw [ez2]; rfl) (by decide) rfl (fun ls hl => ?_)
  refine lv_goto (tgt := 5) C.1 C.2.1 dX6_most_32 (by decide) ?_
  exact hK5 hP hS (lv_sub hl [2, 3, 4, 1, 0] rfl)  h
set_option maxRecDepth 100000 in
set_option maxHeartbeats 4000000 in
theorem w_X6_most_b5 {res : Int32} (C : Cx p s m args meth c cX6_most 5 (some .int) RX6 wsX6_most) (G : Gx D cs ad s) {Ls : Nat → SL} {Hs : SL} {T : SL} {dr : Int64} {hs : Int64} {o : Int64} {od : UInt64} {M : SL} {K5 : SL → Int32 → Int32 → Int32 → Int32 → Option (Int32)} (hK5 : ∀ {x1 : Int32} {x2 : Int32} {x3 : Int32} {x4 : Int32} {H : Heap} {locs : List Loc} {ls : Array Slot}, va_P D vwCl (wA cs ad Ls Hs T M dr hs o od) H → va_S (Afr ad s.heap.size) s.heap H locs → lv_has ls 5 [(0, .ref (ad 89)), (1, .int x1), (2, .int x2), (3, .int x3), (4, .int x4)] → K5 M x1 x2 x3 x4 = some res → W p l e rmX6_most s m args below meth c H locs 0 0 (MQ below (va_Qi (fun r' (_ : Unit) => r' = res) (fun _ t => va_P D vwCl (wA cs ad Ls Hs T M dr hs o od) t.heap) (Afr ad s.heap.size)) args s 0 0 (Afr ad s.heap.size)) (F0 m 5 ls [])) {x1 : Int32} {x2 : Int32} {x3 : Int32} {x4 : Int32} {H : Heap} {locs : List Loc} {ls : Array Slot} (hP : va_P D vwCl (wA cs ad Ls Hs T M dr hs o od) H) (hS : va_S (Afr ad s.heap.size) s.heap H locs) (hl : lv_has ls 5 [(0, .ref (ad 89)), (1, .int x1), (2, .int x2), (3, .int x3), (4, .int x4)]) (h : f_X6_most_b5 K5 M x1 x2 x3 x4 = some res) : W p l e rmX6_most s m args below meth c H locs 0 0 (MQ below (va_Qi (fun r' (_ : Unit) => r' = res) (fun _ t => va_P D vwCl (wA cs ad Ls Hs T M dr hs o od) t.heap) (Afr ad s.heap.size)) args s 0 0 (Afr ad s.heap.size)) (F0 m 5 ls []) := by
  unfold f_X6_most_b5 at h
  refine lv_iload C.1 C.2.1 dX6_most_5 (lv_at hl 4 rfl) ?_
  refine lv_iload_n C.1 C.2.1 dX6_most_7 rfl (lv_at hl 2 rfl) ?_
  refine lv_icmp_gt (tgt := 35) C.1 C.2.1 dX6_most_8 (by decide) (fun c1 => ?_) (fun c1 => ?_)
  · have h := if_t c1 h
    refine lv_iload_n C.1 C.2.1 dX6_most_35 rfl (lv_at hl 3 rfl) ?_
    refine lv_aload_n C.1 C.2.1 dX6_most_36 rfl (lv_at hl 0 rfl) ?_
    refine k_getf C G hP r_obj rfl 0 (by decide) n_X6_most_X6 q_X6_most_0 (v := .ref (ad (89 + 1))) rfl dX6_most_37 ?_
    refine lv_iload_n C.1 C.2.1 dX6_most_40 rfl (lv_at hl 1 rfl) ?_
    obtain ⟨r2, c3, h⟩ := bd_out h
    refine k_callSi C G hP hS (m_X6_of l G.2.1 _  c3) (va_cwS 1 C.2.2.2.2.2.1 gX6_most_X6_of rfl rfl rfl (by decide +kernel) ⟨Nat.le_of_ble_eq_true rfl, Nat.le_of_ble_eq_true rfl⟩) (As := [.int x1]) rfl hl.1 rfl (Nat.le_of_ble_eq_true rfl) dX6_most_41 ⟨Nat.le_of_ble_eq_true rfl, Nat.le_of_ble_eq_true rfl⟩ (fun H locs hP hS => ?_)
    refine lv_iconst (v := 1) C.1 C.2.1 dX6_most_44 (by decide) ?_
    obtain ⟨v4, ev4, h⟩ := lt_out h
    refine k_iadd C ev4 dX6_most_45 ?_
    obtain ⟨g5, h⟩ := gd_out h
    have g5 := chk_in g5
    obtain ⟨v6, ev6, h⟩ := lt_out h
    refine k_iald C G hP (r_arr (k := 1) (by decide)) g5 (j := v4.toNatClampNeg) rfl ev6 dX6_most_46 ?_
    obtain ⟨g7, h⟩ := gd_out h
    have g7 := nz_ne g7
    obtain ⟨v8, ev8, h⟩ := lt_out h
    refine k_idiv C g7 ev8 dX6_most_47 ?_
    cases h
    exact k_iret C hP hS dX6_most_48
  · have h := if_f c1 h
    refine lv_iload_n C.1 C.2.1 dX6_most_11 rfl (lv_at hl 3 rfl) ?_
    refine lv_aload_n C.1 C.2.1 dX6_most_12 rfl (lv_at hl 0 rfl) ?_
    refine lv_iload_n C.1 C.2.1 dX6_most_13 rfl (lv_at hl 1 rfl) ?_
    refine lv_iload C.1 C.2.1 dX6_most_14 (lv_at hl 4 rfl) ?_
    obtain ⟨r9, c10, h⟩ := bd_out h
    refine k_callVi C G hP hS (m_X6_isDown l G.2.1 _  c10) r_obj rfl (cwV 2 C.2.2.2.2.2.1 gX6_most_X6_isDown rfl rfl rfl (by decide +kernel) ⟨Nat.le_of_ble_eq_true rfl, Nat.le_of_ble_eq_true rfl⟩) (As := [.int x1, .int x4]) rfl hl.1 rfl (Nat.le_of_ble_eq_true rfl) dX6_most_16 ⟨Nat.le_of_ble_eq_true rfl, Nat.le_of_ble_eq_true rfl⟩ (fun H locs hP hS => ?_)
    refine lv_if_eq (tgt := 26) C.1 C.2.1 dX6_most_19 (by decide) (fun c11 => ?_) (fun c11 => ?_)
    · have h := if_t c11 h
      refine lv_iconst (v := 1) C.1 C.2.1 dX6_most_26 (by decide) ?_
      exact w_X6_most_b27 C G hK5 hP hS (lv_sub hl [0, 1, 2, 4] rfl) h
    · have h := if_f c11 h
      refine lv_iconst (v := 0) C.1 C.2.1 dX6_most_22 (by decide) ?_
      refine lv_goto (tgt := 27) C.1 C.2.1 dX6_most_23 (by decide) ?_
      exact w_X6_most_b27 C G hK5 hP hS (lv_sub hl [0, 1, 2, 4] rfl) h
set_option maxRecDepth 100000 in
set_option maxHeartbeats 4000000 in
theorem w_X6_most_h5 {res : Int32} (C : Cx p s m args meth c cX6_most 5 (some .int) RX6 wsX6_most) (G : Gx D cs ad s) {Ls : Nat → SL} {Hs : SL} {T : SL} {dr : Int64} {hs : Int64} {o : Int64} {od : UInt64} {M : SL} : ∀ (n : Nat) {x1 : Int32} {x2 : Int32} {x3 : Int32} {x4 : Int32} {H : Heap} {locs : List Loc} {ls : Array Slot}, va_P D vwCl (wA cs ad Ls Hs T M dr hs o od) H → va_S (Afr ad s.heap.size) s.heap H locs → lv_has ls 5 [(0, .ref (ad 89)), (1, .int x1), (2, .int x2), (3, .int x3), (4, .int x4)] → f_X6_most_h5 n M x1 x2 x3 x4 = some res → W p l e rmX6_most s m args below meth c H locs 0 0 (MQ below (va_Qi (fun r' (_ : Unit) => r' = res) (fun _ t => va_P D vwCl (wA cs ad Ls Hs T M dr hs o od) t.heap) (Afr ad s.heap.size)) args s 0 0 (Afr ad s.heap.size)) (F0 m 5 ls []) := by
  intro n
  induction n with
  | zero => intro  x1 x2 x3 x4 H locs ls hP hS hl  h; cases h
  | succ n ih => intro  x1 x2 x3 x4 H locs ls hP hS hl  h; exact w_X6_most_b5 C G    ih hP hS hl  h
set_option maxRecDepth 100000 in
set_option maxHeartbeats 4000000 in
theorem w_X6_most_e {res : Int32} (C : Cx p s m args meth c cX6_most 5 (some .int) RX6 wsX6_most) (G : Gx D cs ad s) {Ls : Nat → SL} {Hs : SL} {T : SL} {dr : Int64} {hs : Int64} {o : Int64} {od : UInt64} {M : SL} {x1 : Int32} {x2 : Int32} {H : Heap} {locs : List Loc} {ls : Array Slot} (hP : va_P D vwCl (wA cs ad Ls Hs T M dr hs o od) H) (hS : va_S (Afr ad s.heap.size) s.heap H locs) (hl : lv_has ls 5 [(0, .ref (ad 89)), (1, .int x1), (2, .int x2)]) (h : f_X6_most M x1 x2 = some res) : W p l e rmX6_most s m args below meth c H locs 0 0 (MQ below (va_Qi (fun r' (_ : Unit) => r' = res) (fun _ t => va_P D vwCl (wA cs ad Ls Hs T M dr hs o od) t.heap) (Afr ad s.heap.size)) args s 0 0 (Afr ad s.heap.size)) (F0 m 0 ls []) := by
  unfold f_X6_most at h
  refine lv_iconst (v := 0) C.1 C.2.1 dX6_most_0 (by decide) ?_
  refine lv_istore_n (lv' := [(3, .int 0), (0, .ref (ad 89)), (1, .int x1), (2, .int x2)]) C.1 C.2.1 dX6_most_1 rfl hl (by decide) rfl (fun ls hl => ?_)
  refine lv_iconst (v := 1) C.1 C.2.1 dX6_most_2 (by decide) ?_
  refine lv_istore (lv' := [(4, .int 1), (3, .int 0), (0, .ref (ad 89)), (1, .int x1), (2, .int x2)]) C.1 C.2.1 dX6_most_3 hl (by decide) rfl (fun ls hl => ?_)
  exact w_X6_most_h5 C G fuel hP hS (lv_sub hl [2, 3, 4, 1, 0] rfl) h
set_option maxRecDepth 100000 in
set_option maxHeartbeats 4000000 in
theorem m_X6_most (l : Launch) {D : va_G} {cs : Nat → ClassId} {ad : Nat → Nat} (hAd : adOK ad) (sz : Nat) {Ls : Nat → SL} {Hs : SL} {T : SL} {M : SL} {dr : Int64} {hs : Int64} {o : Int64} {od : UInt64} {x1 : Int32} {x2 : Int32} {res : Int32} (h : f_X6_most M x1 x2 = some res) : Met l yX6_most wsX6_most rmX6_most (PA D cs sz (wA cs ad Ls Hs T M dr hs o od) [.ref (ad 89), .int x1, .int x2]) (va_Qi (fun r' (_ : Unit) => r' = res) (fun _ t => va_P D vwCl (wA cs ad Ls Hs T M dr hs o od) t.heap) (Afr ad sz)) 0 0 (Afr ad sz) :=
  k_met (by decide) rfl (Nat.le_of_ble_eq_true rfl) hAd (fun p e s m below meth c ls C G hP hsz hl hS => by
    subst hsz
    exact w_X6_most_e C G  hP hS hl  h)
/-! X6 slowestOf -/
abbrev rmX6_slowestOf : Room := { frames := 2, cells := 0, slots := 0, locals := 46 }
theorem q_X6_slowestOf_0 : Cond.fieldLink RX6 7 "LineBuffersModel" "now" "[I" ∈ wsX6_slowestOf := List.mem_of_getElem? (i := 1) rfl
theorem n_X6_slowestOf_X6 : ∀ x ∈ u_ws RX6 TX6 12, x ∈ wsX6_slowestOf := fun x h => List.mem_cons_of_mem _ (List.mem_append_right _ h)
set_option maxRecDepth 100000 in
set_option maxHeartbeats 4000000 in
theorem w_X6_slowestOf_b40 {res : Int32 × SL} (C : Cx p s m args meth c cX6_slowestOf 4 (some .int) RX6 wsX6_slowestOf) (G : Gx D cs ad s) {Ls : Nat → SL} {Hs : SL} {T : SL} {dr : Int64} {hs : Int64} {o : Int64} {od : UInt64} {K10 : SL → Int32 → Int32 → Int32 → Option (Int32 × SL)} (hK10 : ∀ {M : SL} {x1 : Int32} {x2 : Int32} {x3 : Int32} {H : Heap} {locs : List Loc} {ls : Array Slot}, va_P D vwCl (wA cs ad Ls Hs T M dr hs o od) H → va_S (Afr ad s.heap.size) s.heap H locs → lv_has ls 4 [(0, .ref (ad 89)), (1, .int x1), (2, .int x2), (3, .int x3)] → K10 M x1 x2 x3 = some res → W p l e rmX6_slowestOf s m args below meth c H locs 0 0 (MQ below (va_Qi (fun r' (_ : Unit) => r' = res.1) (fun _ t => va_P D vwCl (wA cs ad Ls Hs T res.2 dr hs o od) t.heap) (Afr ad s.heap.size)) args s 0 0 (Afr ad s.heap.size)) (F0 m 10 ls [])) {M : SL} {x1 : Int32} {x3 : Int32} {s0 : Int32} {H : Heap} {locs : List Loc} {ls : Array Slot} (hP : va_P D vwCl (wA cs ad Ls Hs T M dr hs o od) H) (hS : va_S (Afr ad s.heap.size) s.heap H locs) (hl : lv_has ls 4 [(0, .ref (ad 89)), (1, .int x1), (3, .int x3)]) (h : f_X6_slowestOf_b40 K10 M x1 x3 s0 = some res) : W p l e rmX6_slowestOf s m args below meth c H locs 0 0 (MQ below (va_Qi (fun r' (_ : Unit) => r' = res.1) (fun _ t => va_P D vwCl (wA cs ad Ls Hs T res.2 dr hs o od) t.heap) (Afr ad s.heap.size)) args s 0 0 (Afr ad s.heap.size)) (F0 m 40 ls [.int s0]) := by
  unfold f_X6_slowestOf_b40 at h
  refine lv_istore_n (lv' := [(2, .int s0), (0, .ref (ad 89)), (1, .int x1), (3, .int x3)]) C.1 C.2.1 dX6_slowestOf_40 rfl hl (by decide) rfl (fun ls hl => ?_)
  obtain ⟨z1, ez1, h⟩ := lt_out h
  refine lv_iinc (v := z1) (lv' := [(3, .int z1), (2, .int s0), (0, .ref (ad 89)), (1, .int x1)]) C.1 C.2.1 dX6_slowestOf_41 hl (k := 3) rfl (by rw [ez1]; rfl) (by decide) rfl (fun ls hl => ?_)
  refine lv_goto (tgt := 10) C.1 C.2.1 dX6_slowestOf_44 (by decide) ?_
  exact hK10 hP hS (lv_sub hl [2, 3, 1, 0] rfl)  h
set_option maxRecDepth 100000 in
set_option maxHeartbeats 4000000 in
theorem w_X6_slowestOf_b10 {res : Int32 × SL} (C : Cx p s m args meth c cX6_slowestOf 4 (some .int) RX6 wsX6_slowestOf) (G : Gx D cs ad s) {Ls : Nat → SL} {Hs : SL} {T : SL} {dr : Int64} {hs : Int64} {o : Int64} {od : UInt64} {K10 : SL → Int32 → Int32 → Int32 → Option (Int32 × SL)} (hK10 : ∀ {M : SL} {x1 : Int32} {x2 : Int32} {x3 : Int32} {H : Heap} {locs : List Loc} {ls : Array Slot}, va_P D vwCl (wA cs ad Ls Hs T M dr hs o od) H → va_S (Afr ad s.heap.size) s.heap H locs → lv_has ls 4 [(0, .ref (ad 89)), (1, .int x1), (2, .int x2), (3, .int x3)] → K10 M x1 x2 x3 = some res → W p l e rmX6_slowestOf s m args below meth c H locs 0 0 (MQ below (va_Qi (fun r' (_ : Unit) => r' = res.1) (fun _ t => va_P D vwCl (wA cs ad Ls Hs T res.2 dr hs o od) t.heap) (Afr ad s.heap.size)) args s 0 0 (Afr ad s.heap.size)) (F0 m 10 ls [])) {M : SL} {x1 : Int32} {x2 : Int32} {x3 : Int32} {H : Heap} {locs : List Loc} {ls : Array Slot} (hP : va_P D vwCl (wA cs ad Ls Hs T M dr hs o od) H) (hS : va_S (Afr ad s.heap.size) s.heap H locs) (hl : lv_has ls 4 [(0, .ref (ad 89)), (1, .int x1), (2, .int x2), (3, .int x3)]) (h : f_X6_slowestOf_b10 K10 M x1 x2 x3 = some res) : W p l e rmX6_slowestOf s m args below meth c H locs 0 0 (MQ below (va_Qi (fun r' (_ : Unit) => r' = res.1) (fun _ t => va_P D vwCl (wA cs ad Ls Hs T res.2 dr hs o od) t.heap) (Afr ad s.heap.size)) args s 0 0 (Afr ad s.heap.size)) (F0 m 10 ls []) := by
  unfold f_X6_slowestOf_b10 at h
  refine lv_iload_n C.1 C.2.1 dX6_slowestOf_10 rfl (lv_at hl 3 rfl) ?_
  refine lv_aload_n C.1 C.2.1 dX6_slowestOf_11 rfl (lv_at hl 0 rfl) ?_
  refine k_getf C G hP r_obj rfl 0 (by decide) n_X6_slowestOf_X6 q_X6_slowestOf_0 (v := .ref (ad (89 + 1))) rfl dX6_slowestOf_12 ?_
  refine lv_iconst (v := 0) C.1 C.2.1 dX6_slowestOf_15 (by decide) ?_
  obtain ⟨v1, ev1, h⟩ := lt_out h
  refine k_iald C G hP (r_arr (k := 1) (by decide)) (chk_in rfl) (j := 0) rfl ev1 dX6_slowestOf_16 ?_
  refine lv_icmp_ge (tgt := 47) C.1 C.2.1 dX6_slowestOf_17 (by decide) (fun c2 => ?_) (fun c2 => ?_)
  · have h := if_t c2 h
    refine lv_iload_n C.1 C.2.1 dX6_slowestOf_47 rfl (lv_at hl 2 rfl) ?_
    cases h
    exact k_iret C hP hS dX6_slowestOf_48
  · have h := if_f c2 h
    refine lv_aload_n C.1 C.2.1 dX6_slowestOf_20 rfl (lv_at hl 0 rfl) ?_
    refine lv_iload_n C.1 C.2.1 dX6_slowestOf_21 rfl (lv_at hl 3 rfl) ?_
    refine lv_iload_n C.1 C.2.1 dX6_slowestOf_22 rfl (lv_at hl 1 rfl) ?_
    obtain ⟨r3, c4, h⟩ := bd_out h
    refine k_callVi C G hP hS (m_X6_most l G.2.1 _  c4) r_obj rfl (cwV 2 C.2.2.2.2.2.1 gX6_slowestOf_X6_most rfl rfl rfl (by decide +kernel) ⟨Nat.le_of_ble_eq_true rfl, Nat.le_of_ble_eq_true rfl⟩) (As := [.int x3, .int x1]) rfl hl.1 rfl (Nat.le_of_ble_eq_true rfl) dX6_slowestOf_23 ⟨Nat.le_of_ble_eq_true rfl, Nat.le_of_ble_eq_true rfl⟩ (fun H locs hP hS => ?_)
    refine lv_aload_n C.1 C.2.1 dX6_slowestOf_26 rfl (lv_at hl 0 rfl) ?_
    refine lv_iload_n C.1 C.2.1 dX6_slowestOf_27 rfl (lv_at hl 2 rfl) ?_
    refine lv_iload_n C.1 C.2.1 dX6_slowestOf_28 rfl (lv_at hl 1 rfl) ?_
    obtain ⟨r5, c6, h⟩ := bd_out h
    refine k_callVi C G hP hS (m_X6_most l G.2.1 _  c6) r_obj rfl (cwV 2 C.2.2.2.2.2.1 gX6_slowestOf_X6_most rfl rfl rfl (by decide +kernel) ⟨Nat.le_of_ble_eq_true rfl, Nat.le_of_ble_eq_true rfl⟩) (As := [.int x2, .int x1]) rfl hl.1 rfl (Nat.le_of_ble_eq_true rfl) dX6_slowestOf_29 ⟨Nat.le_of_ble_eq_true rfl, Nat.le_of_ble_eq_true rfl⟩ (fun H locs hP hS => ?_)
    refine lv_icmp_ge (tgt := 39) C.1 C.2.1 dX6_slowestOf_32 (by decide) (fun c7 => ?_) (fun c7 => ?_)
    · have h := if_t c7 h
      refine lv_iload_n C.1 C.2.1 dX6_slowestOf_39 rfl (lv_at hl 2 rfl) ?_
      exact w_X6_slowestOf_b40 C G hK10 hP hS (lv_sub hl [0, 1, 3] rfl) h
    · have h := if_f c7 h
      refine lv_iload_n C.1 C.2.1 dX6_slowestOf_35 rfl (lv_at hl 3 rfl) ?_
      refine lv_goto (tgt := 40) C.1 C.2.1 dX6_slowestOf_36 (by decide) ?_
      exact w_X6_slowestOf_b40 C G hK10 hP hS (lv_sub hl [0, 1, 3] rfl) h
set_option maxRecDepth 100000 in
set_option maxHeartbeats 4000000 in
theorem w_X6_slowestOf_h10 {res : Int32 × SL} (C : Cx p s m args meth c cX6_slowestOf 4 (some .int) RX6 wsX6_slowestOf) (G : Gx D cs ad s) {Ls : Nat → SL} {Hs : SL} {T : SL} {dr : Int64} {hs : Int64} {o : Int64} {od : UInt64} : ∀ (n : Nat) {M : SL} {x1 : Int32} {x2 : Int32} {x3 : Int32} {H : Heap} {locs : List Loc} {ls : Array Slot}, va_P D vwCl (wA cs ad Ls Hs T M dr hs o od) H → va_S (Afr ad s.heap.size) s.heap H locs → lv_has ls 4 [(0, .ref (ad 89)), (1, .int x1), (2, .int x2), (3, .int x3)] → f_X6_slowestOf_h10 n M x1 x2 x3 = some res → W p l e rmX6_slowestOf s m args below meth c H locs 0 0 (MQ below (va_Qi (fun r' (_ : Unit) => r' = res.1) (fun _ t => va_P D vwCl (wA cs ad Ls Hs T res.2 dr hs o od) t.heap) (Afr ad s.heap.size)) args s 0 0 (Afr ad s.heap.size)) (F0 m 10 ls []) := by
  intro n
  induction n with
  | zero => intro M x1 x2 x3 H locs ls hP hS hl  h; cases h
  | succ n ih => intro M x1 x2 x3 H locs ls hP hS hl  h; exact w_X6_slowestOf_b10 C G    ih hP hS hl  h
set_option maxRecDepth 100000 in
set_option maxHeartbeats 4000000 in
theorem w_X6_slowestOf_e {res : Int32 × SL} (C : Cx p s m args meth c cX6_slowestOf 4 (some .int) RX6 wsX6_slowestOf) (G : Gx D cs ad s) {Ls : Nat → SL} {Hs : SL} {T : SL} {dr : Int64} {hs : Int64} {o : Int64} {od : UInt64} {M : SL} {x1 : Int32} {H : Heap} {locs : List Loc} {ls : Array Slot} (hP : va_P D vwCl (wA cs ad Ls Hs T M dr hs o od) H) (hS : va_S (Afr ad s.heap.size) s.heap H locs) (hl : lv_has ls 4 [(0, .ref (ad 89)), (1, .int x1)]) (h : f_X6_slowestOf M x1 = some res) : W p l e rmX6_slowestOf s m args below meth c H locs 0 0 (MQ below (va_Qi (fun r' (_ : Unit) => r' = res.1) (fun _ t => va_P D vwCl (wA cs ad Ls Hs T res.2 dr hs o od) t.heap) (Afr ad s.heap.size)) args s 0 0 (Afr ad s.heap.size)) (F0 m 0 ls []) := by
  unfold f_X6_slowestOf at h
  refine lv_aload_n C.1 C.2.1 dX6_slowestOf_0 rfl (lv_at hl 0 rfl) ?_
  refine lv_iconst (v := 1) C.1 C.2.1 dX6_slowestOf_1 (by decide) ?_
  refine lv_iload_n C.1 C.2.1 dX6_slowestOf_2 rfl (lv_at hl 1 rfl) ?_
  obtain ⟨M1, c2, h⟩ := bd_out h
  refine k_callVv C G hP hS (m_X6_laysDown l G.2.1 _  c2) r_obj rfl (cwV 2 C.2.2.2.2.2.1 gX6_slowestOf_X6_laysDown rfl rfl rfl (by decide +kernel) ⟨Nat.le_of_ble_eq_true rfl, Nat.le_of_ble_eq_true rfl⟩) (As := [.int 1, .int x1]) rfl hl.1 rfl (Nat.le_of_ble_eq_true rfl) dX6_slowestOf_3 ⟨Nat.le_of_ble_eq_true rfl, Nat.le_of_ble_eq_true rfl⟩ (fun H locs hP hS => ?_)
  refine lv_iconst (v := 0) C.1 C.2.1 dX6_slowestOf_6 (by decide) ?_
  refine lv_istore_n (lv' := [(2, .int 0), (0, .ref (ad 89)), (1, .int x1)]) C.1 C.2.1 dX6_slowestOf_7 rfl hl (by decide) rfl (fun ls hl => ?_)
  refine lv_iconst (v := 1) C.1 C.2.1 dX6_slowestOf_8 (by decide) ?_
  refine lv_istore_n (lv' := [(3, .int 1), (2, .int 0), (0, .ref (ad 89)), (1, .int x1)]) C.1 C.2.1 dX6_slowestOf_9 rfl hl (by decide) rfl (fun ls hl => ?_)
  exact w_X6_slowestOf_h10 C G fuel hP hS (lv_sub hl [2, 3, 1, 0] rfl) h
set_option maxRecDepth 100000 in
set_option maxHeartbeats 4000000 in
theorem m_X6_slowestOf (l : Launch) {D : va_G} {cs : Nat → ClassId} {ad : Nat → Nat} (hAd : adOK ad) (sz : Nat) {Ls : Nat → SL} {Hs : SL} {T : SL} {M : SL} {dr : Int64} {hs : Int64} {o : Int64} {od : UInt64} {x1 : Int32} {res : Int32 × SL} (h : f_X6_slowestOf M x1 = some res) : Met l yX6_slowestOf wsX6_slowestOf rmX6_slowestOf (PA D cs sz (wA cs ad Ls Hs T M dr hs o od) [.ref (ad 89), .int x1]) (va_Qi (fun r' (_ : Unit) => r' = res.1) (fun _ t => va_P D vwCl (wA cs ad Ls Hs T res.2 dr hs o od) t.heap) (Afr ad sz)) 0 0 (Afr ad sz) :=
  k_met (by decide) rfl (Nat.le_of_ble_eq_true rfl) hAd (fun p e s m below meth c ls C G hP hsz hl hS => by
    subst hsz
    exact w_X6_slowestOf_e C G  hP hS hl  h)
/-! X6 refusedLimit -/
abbrev rmX6_refusedLimit : Room := { frames := 1, cells := 0, slots := 0, locals := 22 }
theorem q_X6_refusedLimit_0 : Cond.fieldLink RX6 7 "LineBuffersModel" "now" "[I" ∈ wsX6_refusedLimit := List.mem_of_getElem? (i := 1) rfl
theorem n_X6_refusedLimit_X6 : ∀ x ∈ u_ws RX6 TX6 12, x ∈ wsX6_refusedLimit := fun x h => List.mem_cons_of_mem _ (List.mem_append_right _ h)
set_option maxRecDepth 100000 in
set_option maxHeartbeats 4000000 in
theorem w_X6_refusedLimit_b30 {res : Int32 × SL} (C : Cx p s m args meth c cX6_refusedLimit 2 (some .boolean) RX6 wsX6_refusedLimit) (G : Gx D cs ad s) {Ls : Nat → SL} {Hs : SL} {T : SL} {dr : Int64} {hs : Int64} {o : Int64} {od : UInt64} {M : SL} {s1 : Int32} {H : Heap} {locs : List Loc} {ls : Array Slot} (hP : va_P D vwCl (wA cs ad Ls Hs T M dr hs o od) H) (hS : va_S (Afr ad s.heap.size) s.heap H locs) (hl : lv_has ls 2 []) (h : f_X6_refusedLimit_b30 M s1 = some res) : W p l e rmX6_refusedLimit s m args below meth c H locs 0 0 (MQ below (va_Qi (fun r' (_ : Unit) => r' = res.1) (fun _ t => va_P D vwCl (wA cs ad Ls Hs T res.2 dr hs o od) t.heap) (Afr ad s.heap.size)) args s 0 0 (Afr ad s.heap.size)) (F0 m 30 ls [.int s1, .ref (ad 89)]) := by
  unfold f_X6_refusedLimit_b30 at h
  obtain ⟨r1, M2, c3, h⟩ := bd2_out h
  refine k_callVi C G hP hS (m_X6_refused l G.2.1 _  c3) r_obj rfl (cwV 1 C.2.2.2.2.2.1 gX6_refusedLimit_X6_refused rfl rfl rfl (by decide +kernel) ⟨Nat.le_of_ble_eq_true rfl, Nat.le_of_ble_eq_true rfl⟩) (As := [.int s1]) rfl hl.1 rfl (Nat.le_of_ble_eq_true rfl) dX6_refusedLimit_30 ⟨Nat.le_of_ble_eq_true rfl, Nat.le_of_ble_eq_true rfl⟩ (fun H locs hP hS => ?_)
  obtain ⟨g4, h⟩ := gd_out h
  have g4 := isB_nar g4
  cases h
  exact k_zret C hP hS g4 dX6_refusedLimit_33
set_option maxRecDepth 100000 in
set_option maxHeartbeats 4000000 in
theorem w_X6_refusedLimit_e {res : Int32 × SL} (C : Cx p s m args meth c cX6_refusedLimit 2 (some .boolean) RX6 wsX6_refusedLimit) (G : Gx D cs ad s) {Ls : Nat → SL} {Hs : SL} {T : SL} {dr : Int64} {hs : Int64} {o : Int64} {od : UInt64} {M : SL} {x1 : Int32} {H : Heap} {locs : List Loc} {ls : Array Slot} (hP : va_P D vwCl (wA cs ad Ls Hs T M dr hs o od) H) (hS : va_S (Afr ad s.heap.size) s.heap H locs) (hl : lv_has ls 2 [(0, .ref (ad 89)), (1, .int x1)]) (h : f_X6_refusedLimit M x1 = some res) : W p l e rmX6_refusedLimit s m args below meth c H locs 0 0 (MQ below (va_Qi (fun r' (_ : Unit) => r' = res.1) (fun _ t => va_P D vwCl (wA cs ad Ls Hs T res.2 dr hs o od) t.heap) (Afr ad s.heap.size)) args s 0 0 (Afr ad s.heap.size)) (F0 m 0 ls []) := by
  unfold f_X6_refusedLimit at h
  refine lv_aload_n C.1 C.2.1 dX6_refusedLimit_0 rfl (lv_at hl 0 rfl) ?_
  refine lv_iload_n C.1 C.2.1 dX6_refusedLimit_1 rfl (lv_at hl 1 rfl) ?_
  refine lv_iconst (v := 1) C.1 C.2.1 dX6_refusedLimit_2 (by decide) ?_
  refine lv_sipush (v := 10000) C.1 C.2.1 dX6_refusedLimit_3 (by decide) ?_
  obtain ⟨r1, c2, h⟩ := bd_out h
  refine k_callSi C G hP hS (m_X6_within l G.2.1 _  c2) (va_cwS 3 C.2.2.2.2.2.1 gX6_refusedLimit_X6_within rfl rfl rfl (by decide +kernel) ⟨Nat.le_of_ble_eq_true rfl, Nat.le_of_ble_eq_true rfl⟩) (As := [.int x1, .int 1, .int 10000]) rfl hl.1 rfl (Nat.le_of_ble_eq_true rfl) dX6_refusedLimit_6 ⟨Nat.le_of_ble_eq_true rfl, Nat.le_of_ble_eq_true rfl⟩ (fun H locs hP hS => ?_)
  refine lv_if_ne (tgt := 16) C.1 C.2.1 dX6_refusedLimit_9 (by decide) (fun c3 => ?_) (fun c3 => ?_)
  · have h := if_t c3 h
    refine lv_aload_n C.1 C.2.1 dX6_refusedLimit_16 rfl (lv_at hl 0 rfl) ?_
    refine k_getf C G hP r_obj rfl 0 (by decide) n_X6_refusedLimit_X6 q_X6_refusedLimit_0 (v := .ref (ad (89 + 1))) rfl dX6_refusedLimit_17 ?_
    refine lv_iconst (v := 0) C.1 C.2.1 dX6_refusedLimit_20 (by decide) ?_
    obtain ⟨v4, ev4, h⟩ := lt_out h
    refine k_iald C G hP (r_arr (k := 1) (by decide)) (chk_in rfl) (j := 0) rfl ev4 dX6_refusedLimit_21 ?_
    refine lv_if_ne (tgt := 29) C.1 C.2.1 dX6_refusedLimit_22 (by decide) (fun c5 => ?_) (fun c5 => ?_)
    · have h := if_t c5 h
      refine lv_iconst (v := 0) C.1 C.2.1 dX6_refusedLimit_29 (by decide) ?_
      exact w_X6_refusedLimit_b30 C G hP hS (lv_sub hl [] rfl) h
    · have h := if_n c5 h
      refine lv_iconst (v := 2) C.1 C.2.1 dX6_refusedLimit_25 (by decide) ?_
      refine lv_goto (tgt := 30) C.1 C.2.1 dX6_refusedLimit_26 (by decide) ?_
      exact w_X6_refusedLimit_b30 C G hP hS (lv_sub hl [] rfl) h
  · have h := if_n c3 h
    refine lv_iconst (v := 1) C.1 C.2.1 dX6_refusedLimit_12 (by decide) ?_
    refine lv_goto (tgt := 30) C.1 C.2.1 dX6_refusedLimit_13 (by decide) ?_
    exact w_X6_refusedLimit_b30 C G hP hS (lv_sub hl [] rfl) h
set_option maxRecDepth 100000 in
set_option maxHeartbeats 4000000 in
theorem m_X6_refusedLimit (l : Launch) {D : va_G} {cs : Nat → ClassId} {ad : Nat → Nat} (hAd : adOK ad) (sz : Nat) {Ls : Nat → SL} {Hs : SL} {T : SL} {M : SL} {dr : Int64} {hs : Int64} {o : Int64} {od : UInt64} {x1 : Int32} {res : Int32 × SL} (h : f_X6_refusedLimit M x1 = some res) : Met l yX6_refusedLimit wsX6_refusedLimit rmX6_refusedLimit (PA D cs sz (wA cs ad Ls Hs T M dr hs o od) [.ref (ad 89), .int x1]) (va_Qi (fun r' (_ : Unit) => r' = res.1) (fun _ t => va_P D vwCl (wA cs ad Ls Hs T res.2 dr hs o od) t.heap) (Afr ad sz)) 0 0 (Afr ad sz) :=
  k_met (by decide) rfl (Nat.le_of_ble_eq_true rfl) hAd (fun p e s m below meth c ls C G hP hsz hl hS => by
    subst hsz
    exact w_X6_refusedLimit_e C G  hP hS hl  h)
/-! X6 bound -/
abbrev rmX6_bound : Room := { frames := 3, cells := 0, slots := 0, locals := 69 }
set_option maxRecDepth 100000 in
set_option maxHeartbeats 4000000 in
theorem w_X6_bound_e {res : Int32 × SL} (C : Cx p s m args meth c cX6_bound 2 (some .int) RX6 wsX6_bound) (G : Gx D cs ad s) {Ls : Nat → SL} {Hs : SL} {T : SL} {dr : Int64} {hs : Int64} {o : Int64} {od : UInt64} {M : SL} {x1 : Int32} {H : Heap} {locs : List Loc} {ls : Array Slot} (hP : va_P D vwCl (wA cs ad Ls Hs T M dr hs o od) H) (hS : va_S (Afr ad s.heap.size) s.heap H locs) (hl : lv_has ls 2 [(0, .ref (ad 89)), (1, .int x1)]) (h : f_X6_bound M x1 = some res) : W p l e rmX6_bound s m args below meth c H locs 0 0 (MQ below (va_Qi (fun r' (_ : Unit) => r' = res.1) (fun _ t => va_P D vwCl (wA cs ad Ls Hs T res.2 dr hs o od) t.heap) (Afr ad s.heap.size)) args s 0 0 (Afr ad s.heap.size)) (F0 m 0 ls []) := by
  unfold f_X6_bound at h
  refine lv_aload_n C.1 C.2.1 dX6_bound_0 rfl (lv_at hl 0 rfl) ?_
  refine lv_iload_n C.1 C.2.1 dX6_bound_1 rfl (lv_at hl 1 rfl) ?_
  obtain ⟨r1, M2, c3, h⟩ := bd2_out h
  refine k_callVi C G hP hS (m_X6_refusedLimit l G.2.1 _  c3) r_obj rfl (cwV 1 C.2.2.2.2.2.1 gX6_bound_X6_refusedLimit rfl rfl rfl (by decide +kernel) ⟨Nat.le_of_ble_eq_true rfl, Nat.le_of_ble_eq_true rfl⟩) (As := [.int x1]) rfl hl.1 rfl (Nat.le_of_ble_eq_true rfl) dX6_bound_2 ⟨Nat.le_of_ble_eq_true rfl, Nat.le_of_ble_eq_true rfl⟩ (fun H locs hP hS => ?_)
  refine lv_if_eq (tgt := 12) C.1 C.2.1 dX6_bound_5 (by decide) (fun c4 => ?_) (fun c4 => ?_)
  · have h := if_t c4 h
    refine lv_aload_n C.1 C.2.1 dX6_bound_12 rfl (lv_at hl 0 rfl) ?_
    refine lv_aload_n C.1 C.2.1 dX6_bound_13 rfl (lv_at hl 0 rfl) ?_
    refine lv_iload_n C.1 C.2.1 dX6_bound_14 rfl (lv_at hl 1 rfl) ?_
    obtain ⟨r5, M6, c7, h⟩ := bd2_out h
    refine k_callVi C G hP hS (m_X6_slowestOf l G.2.1 _  c7) r_obj rfl (cwV 1 C.2.2.2.2.2.1 gX6_bound_X6_slowestOf rfl rfl rfl (by decide +kernel) ⟨Nat.le_of_ble_eq_true rfl, Nat.le_of_ble_eq_true rfl⟩) (As := [.int x1]) rfl hl.1 rfl (Nat.le_of_ble_eq_true rfl) dX6_bound_15 ⟨Nat.le_of_ble_eq_true rfl, Nat.le_of_ble_eq_true rfl⟩ (fun H locs hP hS => ?_)
    refine lv_iload_n C.1 C.2.1 dX6_bound_18 rfl (lv_at hl 1 rfl) ?_
    obtain ⟨r8, c9, h⟩ := bd_out h
    refine k_callVi C G hP hS (m_X6_most l G.2.1 _  c9) r_obj rfl (cwV 2 C.2.2.2.2.2.1 gX6_bound_X6_most rfl rfl rfl (by decide +kernel) ⟨Nat.le_of_ble_eq_true rfl, Nat.le_of_ble_eq_true rfl⟩) (As := [.int r5, .int x1]) rfl hl.1 rfl (Nat.le_of_ble_eq_true rfl) dX6_bound_19 ⟨Nat.le_of_ble_eq_true rfl, Nat.le_of_ble_eq_true rfl⟩ (fun H locs hP hS => ?_)
    cases h
    exact k_iret C hP hS dX6_bound_22
  · have h := if_f c4 h
    refine lv_iconst (v := 0) C.1 C.2.1 dX6_bound_8 (by decide) ?_
    refine lv_goto (tgt := 22) C.1 C.2.1 dX6_bound_9 (by decide) ?_
    cases h
    exact k_iret C hP hS dX6_bound_22
set_option maxRecDepth 100000 in
set_option maxHeartbeats 4000000 in
theorem m_X6_bound (l : Launch) {D : va_G} {cs : Nat → ClassId} {ad : Nat → Nat} (hAd : adOK ad) (sz : Nat) {Ls : Nat → SL} {Hs : SL} {T : SL} {M : SL} {dr : Int64} {hs : Int64} {o : Int64} {od : UInt64} {x1 : Int32} {res : Int32 × SL} (h : f_X6_bound M x1 = some res) : Met l yX6_bound wsX6_bound rmX6_bound (PA D cs sz (wA cs ad Ls Hs T M dr hs o od) [.ref (ad 89), .int x1]) (va_Qi (fun r' (_ : Unit) => r' = res.1) (fun _ t => va_P D vwCl (wA cs ad Ls Hs T res.2 dr hs o od) t.heap) (Afr ad sz)) 0 0 (Afr ad sz) :=
  k_met (by decide) rfl (Nat.le_of_ble_eq_true rfl) hAd (fun p e s m below meth c ls C G hP hsz hl hS => by
    subst hsz
    exact w_X6_bound_e C G  hP hS hl  h)
/-! X6 slowest -/
abbrev rmX6_slowest : Room := { frames := 3, cells := 0, slots := 0, locals := 69 }
set_option maxRecDepth 100000 in
set_option maxHeartbeats 4000000 in
theorem w_X6_slowest_e {res : Int32 × SL} (C : Cx p s m args meth c cX6_slowest 2 (some .int) RX6 wsX6_slowest) (G : Gx D cs ad s) {Ls : Nat → SL} {Hs : SL} {T : SL} {dr : Int64} {hs : Int64} {o : Int64} {od : UInt64} {M : SL} {x1 : Int32} {H : Heap} {locs : List Loc} {ls : Array Slot} (hP : va_P D vwCl (wA cs ad Ls Hs T M dr hs o od) H) (hS : va_S (Afr ad s.heap.size) s.heap H locs) (hl : lv_has ls 2 [(0, .ref (ad 89)), (1, .int x1)]) (h : f_X6_slowest M x1 = some res) : W p l e rmX6_slowest s m args below meth c H locs 0 0 (MQ below (va_Qi (fun r' (_ : Unit) => r' = res.1) (fun _ t => va_P D vwCl (wA cs ad Ls Hs T res.2 dr hs o od) t.heap) (Afr ad s.heap.size)) args s 0 0 (Afr ad s.heap.size)) (F0 m 0 ls []) := by
  unfold f_X6_slowest at h
  refine lv_aload_n C.1 C.2.1 dX6_slowest_0 rfl (lv_at hl 0 rfl) ?_
  refine lv_iload_n C.1 C.2.1 dX6_slowest_1 rfl (lv_at hl 1 rfl) ?_
  obtain ⟨r1, M2, c3, h⟩ := bd2_out h
  refine k_callVi C G hP hS (m_X6_refusedLimit l G.2.1 _  c3) r_obj rfl (cwV 1 C.2.2.2.2.2.1 gX6_slowest_X6_refusedLimit rfl rfl rfl (by decide +kernel) ⟨Nat.le_of_ble_eq_true rfl, Nat.le_of_ble_eq_true rfl⟩) (As := [.int x1]) rfl hl.1 rfl (Nat.le_of_ble_eq_true rfl) dX6_slowest_2 ⟨Nat.le_of_ble_eq_true rfl, Nat.le_of_ble_eq_true rfl⟩ (fun H locs hP hS => ?_)
  refine lv_if_eq (tgt := 12) C.1 C.2.1 dX6_slowest_5 (by decide) (fun c4 => ?_) (fun c4 => ?_)
  · have h := if_t c4 h
    refine lv_aload_n C.1 C.2.1 dX6_slowest_12 rfl (lv_at hl 0 rfl) ?_
    refine lv_iload_n C.1 C.2.1 dX6_slowest_13 rfl (lv_at hl 1 rfl) ?_
    obtain ⟨r5, M6, c7, h⟩ := bd2_out h
    refine k_callVi C G hP hS (m_X6_slowestOf l G.2.1 _  c7) r_obj rfl (cwV 1 C.2.2.2.2.2.1 gX6_slowest_X6_slowestOf rfl rfl rfl (by decide +kernel) ⟨Nat.le_of_ble_eq_true rfl, Nat.le_of_ble_eq_true rfl⟩) (As := [.int x1]) rfl hl.1 rfl (Nat.le_of_ble_eq_true rfl) dX6_slowest_14 ⟨Nat.le_of_ble_eq_true rfl, Nat.le_of_ble_eq_true rfl⟩ (fun H locs hP hS => ?_)
    cases h
    exact k_iret C hP hS dX6_slowest_17
  · have h := if_f c4 h
    refine lv_iconst (v := 0) C.1 C.2.1 dX6_slowest_8 (by decide) ?_
    refine lv_goto (tgt := 17) C.1 C.2.1 dX6_slowest_9 (by decide) ?_
    cases h
    exact k_iret C hP hS dX6_slowest_17
set_option maxRecDepth 100000 in
set_option maxHeartbeats 4000000 in
theorem m_X6_slowest (l : Launch) {D : va_G} {cs : Nat → ClassId} {ad : Nat → Nat} (hAd : adOK ad) (sz : Nat) {Ls : Nat → SL} {Hs : SL} {T : SL} {M : SL} {dr : Int64} {hs : Int64} {o : Int64} {od : UInt64} {x1 : Int32} {res : Int32 × SL} (h : f_X6_slowest M x1 = some res) : Met l yX6_slowest wsX6_slowest rmX6_slowest (PA D cs sz (wA cs ad Ls Hs T M dr hs o od) [.ref (ad 89), .int x1]) (va_Qi (fun r' (_ : Unit) => r' = res.1) (fun _ t => va_P D vwCl (wA cs ad Ls Hs T res.2 dr hs o od) t.heap) (Afr ad sz)) 0 0 (Afr ad sz) :=
  k_met (by decide) rfl (Nat.le_of_ble_eq_true rfl) hAd (fun p e s m below meth c ls C G hP hsz hl hS => by
    subst hsz
    exact w_X6_slowest_e C G  hP hS hl  h)
/-! X6 idle -/
abbrev rmX6_idle : Room := { frames := 1, cells := 0, slots := 0, locals := 20 }
theorem q_X6_idle_0 : Cond.fieldLink RX6 7 "LineBuffersModel" "now" "[I" ∈ wsX6_idle := List.mem_of_getElem? (i := 1) rfl
theorem n_X6_idle_X6 : ∀ x ∈ u_ws RX6 TX6 12, x ∈ wsX6_idle := fun x h => List.mem_cons_of_mem _ (List.mem_append_right _ h)
set_option maxRecDepth 100000 in
set_option maxHeartbeats 4000000 in
theorem w_X6_idle_e {res : Int32} (C : Cx p s m args meth c cX6_idle 2 (some .int) RX6 wsX6_idle) (G : Gx D cs ad s) {Ls : Nat → SL} {Hs : SL} {T : SL} {dr : Int64} {hs : Int64} {o : Int64} {od : UInt64} {M : SL} {x1 : Int32} {H : Heap} {locs : List Loc} {ls : Array Slot} (hP : va_P D vwCl (wA cs ad Ls Hs T M dr hs o od) H) (hS : va_S (Afr ad s.heap.size) s.heap H locs) (hl : lv_has ls 2 [(0, .ref (ad 89)), (1, .int x1)]) (h : f_X6_idle M x1 = some res) : W p l e rmX6_idle s m args below meth c H locs 0 0 (MQ below (va_Qi (fun r' (_ : Unit) => r' = res) (fun _ t => va_P D vwCl (wA cs ad Ls Hs T M dr hs o od) t.heap) (Afr ad s.heap.size)) args s 0 0 (Afr ad s.heap.size)) (F0 m 0 ls []) := by
  unfold f_X6_idle at h
  refine lv_aload_n C.1 C.2.1 dX6_idle_0 rfl (lv_at hl 0 rfl) ?_
  refine k_getf C G hP r_obj rfl 0 (by decide) n_X6_idle_X6 q_X6_idle_0 (v := .ref (ad (89 + 1))) rfl dX6_idle_1 ?_
  refine lv_iload_n C.1 C.2.1 dX6_idle_4 rfl (lv_at hl 1 rfl) ?_
  obtain ⟨r1, c2, h⟩ := bd_out h
  refine k_callSi C G hP hS (m_X6_of l G.2.1 _  c2) (va_cwS 1 C.2.2.2.2.2.1 gX6_idle_X6_of rfl rfl rfl (by decide +kernel) ⟨Nat.le_of_ble_eq_true rfl, Nat.le_of_ble_eq_true rfl⟩) (As := [.int x1]) rfl hl.1 rfl (Nat.le_of_ble_eq_true rfl) dX6_idle_5 ⟨Nat.le_of_ble_eq_true rfl, Nat.le_of_ble_eq_true rfl⟩ (fun H locs hP hS => ?_)
  refine lv_bipush (v := 9) C.1 C.2.1 dX6_idle_8 (by decide) ?_
  obtain ⟨v3, ev3, h⟩ := lt_out h
  refine k_iadd C ev3 dX6_idle_10 ?_
  refine lv_iconst (v := 2) C.1 C.2.1 dX6_idle_11 (by decide) ?_
  obtain ⟨v4, ev4, h⟩ := lt_out h
  refine k_iadd C ev4 dX6_idle_12 ?_
  refine lv_iconst (v := 1) C.1 C.2.1 dX6_idle_13 (by decide) ?_
  obtain ⟨v5, ev5, h⟩ := lt_out h
  refine k_isub C ev5 dX6_idle_14 ?_
  obtain ⟨g6, h⟩ := gd_out h
  have g6 := chk_in g6
  obtain ⟨v7, ev7, h⟩ := lt_out h
  refine k_iald C G hP (r_arr (k := 1) (by decide)) g6 (j := v5.toNatClampNeg) rfl ev7 dX6_idle_15 ?_
  refine lv_aload_n C.1 C.2.1 dX6_idle_16 rfl (lv_at hl 0 rfl) ?_
  refine k_getf C G hP r_obj rfl 0 (by decide) n_X6_idle_X6 q_X6_idle_0 (v := .ref (ad (89 + 1))) rfl dX6_idle_17 ?_
  refine lv_iload_n C.1 C.2.1 dX6_idle_20 rfl (lv_at hl 1 rfl) ?_
  obtain ⟨r8, c9, h⟩ := bd_out h
  refine k_callSi C G hP hS (m_X6_of l G.2.1 _  c9) (va_cwS 1 C.2.2.2.2.2.1 gX6_idle_X6_of rfl rfl rfl (by decide +kernel) ⟨Nat.le_of_ble_eq_true rfl, Nat.le_of_ble_eq_true rfl⟩) (As := [.int x1]) rfl hl.1 rfl (Nat.le_of_ble_eq_true rfl) dX6_idle_21 ⟨Nat.le_of_ble_eq_true rfl, Nat.le_of_ble_eq_true rfl⟩ (fun H locs hP hS => ?_)
  refine lv_bipush (v := 9) C.1 C.2.1 dX6_idle_24 (by decide) ?_
  obtain ⟨v10, ev10, h⟩ := lt_out h
  refine k_iadd C ev10 dX6_idle_26 ?_
  refine lv_iconst (v := 3) C.1 C.2.1 dX6_idle_27 (by decide) ?_
  obtain ⟨v11, ev11, h⟩ := lt_out h
  refine k_iadd C ev11 dX6_idle_28 ?_
  refine lv_iconst (v := 1) C.1 C.2.1 dX6_idle_29 (by decide) ?_
  obtain ⟨v12, ev12, h⟩ := lt_out h
  refine k_isub C ev12 dX6_idle_30 ?_
  obtain ⟨g13, h⟩ := gd_out h
  have g13 := chk_in g13
  obtain ⟨v14, ev14, h⟩ := lt_out h
  refine k_iald C G hP (r_arr (k := 1) (by decide)) g13 (j := v12.toNatClampNeg) rfl ev14 dX6_idle_31 ?_
  obtain ⟨v15, ev15, h⟩ := lt_out h
  refine k_iadd C ev15 dX6_idle_32 ?_
  cases h
  exact k_iret C hP hS dX6_idle_33
set_option maxRecDepth 100000 in
set_option maxHeartbeats 4000000 in
theorem m_X6_idle (l : Launch) {D : va_G} {cs : Nat → ClassId} {ad : Nat → Nat} (hAd : adOK ad) (sz : Nat) {Ls : Nat → SL} {Hs : SL} {T : SL} {M : SL} {dr : Int64} {hs : Int64} {o : Int64} {od : UInt64} {x1 : Int32} {res : Int32} (h : f_X6_idle M x1 = some res) : Met l yX6_idle wsX6_idle rmX6_idle (PA D cs sz (wA cs ad Ls Hs T M dr hs o od) [.ref (ad 89), .int x1]) (va_Qi (fun r' (_ : Unit) => r' = res) (fun _ t => va_P D vwCl (wA cs ad Ls Hs T M dr hs o od) t.heap) (Afr ad sz)) 0 0 (Afr ad sz) :=
  k_met (by decide) rfl (Nat.le_of_ble_eq_true rfl) hAd (fun p e s m below meth c ls C G hP hsz hl hS => by
    subst hsz
    exact w_X6_idle_e C G  hP hS hl  h)
/-! X6 limiting -/
abbrev rmX6_limiting : Room := { frames := 2, cells := 0, slots := 0, locals := 41 }
theorem q_X6_limiting_0 : Cond.fieldLink RX6 7 "LineBuffersModel" "now" "[I" ∈ wsX6_limiting := List.mem_of_getElem? (i := 1) rfl
theorem n_X6_limiting_X6 : ∀ x ∈ u_ws RX6 TX6 12, x ∈ wsX6_limiting := fun x h => List.mem_cons_of_mem _ (List.mem_append_right _ h)
set_option maxRecDepth 100000 in
set_option maxHeartbeats 4000000 in
theorem w_X6_limiting_b55 {res : Int32 × SL} (C : Cx p s m args meth c cX6_limiting 3 (some .int) RX6 wsX6_limiting) (G : Gx D cs ad s) {Ls : Nat → SL} {Hs : SL} {T : SL} {dr : Int64} {hs : Int64} {o : Int64} {od : UInt64} {K27 : SL → Int32 → Int32 → Option (Int32 × SL)} (hK27 : ∀ {M : SL} {x1 : Int32} {x2 : Int32} {H : Heap} {locs : List Loc} {ls : Array Slot}, va_P D vwCl (wA cs ad Ls Hs T M dr hs o od) H → va_S (Afr ad s.heap.size) s.heap H locs → lv_has ls 3 [(0, .ref (ad 89)), (1, .int x1), (2, .int x2)] → K27 M x1 x2 = some res → W p l e rmX6_limiting s m args below meth c H locs 0 0 (MQ below (va_Qi (fun r' (_ : Unit) => r' = res.1) (fun _ t => va_P D vwCl (wA cs ad Ls Hs T res.2 dr hs o od) t.heap) (Afr ad s.heap.size)) args s 0 0 (Afr ad s.heap.size)) (F0 m 27 ls [])) {M : SL} {x2 : Int32} {s0 : Int32} {H : Heap} {locs : List Loc} {ls : Array Slot} (hP : va_P D vwCl (wA cs ad Ls Hs T M dr hs o od) H) (hS : va_S (Afr ad s.heap.size) s.heap H locs) (hl : lv_has ls 3 [(0, .ref (ad 89)), (2, .int x2)]) (h : f_X6_limiting_b55 K27 M x2 s0 = some res) : W p l e rmX6_limiting s m args below meth c H locs 0 0 (MQ below (va_Qi (fun r' (_ : Unit) => r' = res.1) (fun _ t => va_P D vwCl (wA cs ad Ls Hs T res.2 dr hs o od) t.heap) (Afr ad s.heap.size)) args s 0 0 (Afr ad s.heap.size)) (F0 m 55 ls [.int s0]) := by
  unfold f_X6_limiting_b55 at h
  refine lv_istore_n (lv' := [(1, .int s0), (0, .ref (ad 89)), (2, .int x2)]) C.1 C.2.1 dX6_limiting_55 rfl hl (by decide) rfl (fun ls hl => ?_)
  obtain ⟨z1, ez1, h⟩ := lt_out h
  refine lv_iinc (v := z1) (lv' := [(2, .int z1), (1, .int s0), (0, .ref (ad 89))]) C.1 C.2.1 dX6_limiting_56 hl (k := 2) rfl (by rw [ez1]; rfl) (by decide) rfl (fun ls hl => ?_)
  refine lv_goto (tgt := 27) C.1 C.2.1 dX6_limiting_59 (by decide) ?_
  exact hK27 hP hS (lv_sub hl [2, 1, 0] rfl)  h
set_option maxRecDepth 100000 in
set_option maxHeartbeats 4000000 in
theorem w_X6_limiting_b27 {res : Int32 × SL} (C : Cx p s m args meth c cX6_limiting 3 (some .int) RX6 wsX6_limiting) (G : Gx D cs ad s) {Ls : Nat → SL} {Hs : SL} {T : SL} {dr : Int64} {hs : Int64} {o : Int64} {od : UInt64} {K27 : SL → Int32 → Int32 → Option (Int32 × SL)} (hK27 : ∀ {M : SL} {x1 : Int32} {x2 : Int32} {H : Heap} {locs : List Loc} {ls : Array Slot}, va_P D vwCl (wA cs ad Ls Hs T M dr hs o od) H → va_S (Afr ad s.heap.size) s.heap H locs → lv_has ls 3 [(0, .ref (ad 89)), (1, .int x1), (2, .int x2)] → K27 M x1 x2 = some res → W p l e rmX6_limiting s m args below meth c H locs 0 0 (MQ below (va_Qi (fun r' (_ : Unit) => r' = res.1) (fun _ t => va_P D vwCl (wA cs ad Ls Hs T res.2 dr hs o od) t.heap) (Afr ad s.heap.size)) args s 0 0 (Afr ad s.heap.size)) (F0 m 27 ls [])) {M : SL} {x1 : Int32} {x2 : Int32} {H : Heap} {locs : List Loc} {ls : Array Slot} (hP : va_P D vwCl (wA cs ad Ls Hs T M dr hs o od) H) (hS : va_S (Afr ad s.heap.size) s.heap H locs) (hl : lv_has ls 3 [(0, .ref (ad 89)), (1, .int x1), (2, .int x2)]) (h : f_X6_limiting_b27 K27 M x1 x2 = some res) : W p l e rmX6_limiting s m args below meth c H locs 0 0 (MQ below (va_Qi (fun r' (_ : Unit) => r' = res.1) (fun _ t => va_P D vwCl (wA cs ad Ls Hs T res.2 dr hs o od) t.heap) (Afr ad s.heap.size)) args s 0 0 (Afr ad s.heap.size)) (F0 m 27 ls []) := by
  unfold f_X6_limiting_b27 at h
  refine lv_iload_n C.1 C.2.1 dX6_limiting_27 rfl (lv_at hl 2 rfl) ?_
  refine lv_aload_n C.1 C.2.1 dX6_limiting_28 rfl (lv_at hl 0 rfl) ?_
  refine k_getf C G hP r_obj rfl 0 (by decide) n_X6_limiting_X6 q_X6_limiting_0 (v := .ref (ad (89 + 1))) rfl dX6_limiting_29 ?_
  refine lv_iconst (v := 0) C.1 C.2.1 dX6_limiting_32 (by decide) ?_
  obtain ⟨v1, ev1, h⟩ := lt_out h
  refine k_iald C G hP (r_arr (k := 1) (by decide)) (chk_in rfl) (j := 0) rfl ev1 dX6_limiting_33 ?_
  refine lv_icmp_ge (tgt := 62) C.1 C.2.1 dX6_limiting_34 (by decide) (fun c2 => ?_) (fun c2 => ?_)
  · have h := if_t c2 h
    refine lv_iload_n C.1 C.2.1 dX6_limiting_62 rfl (lv_at hl 1 rfl) ?_
    cases h
    exact k_iret C hP hS dX6_limiting_63
  · have h := if_f c2 h
    refine lv_aload_n C.1 C.2.1 dX6_limiting_37 rfl (lv_at hl 0 rfl) ?_
    refine lv_iload_n C.1 C.2.1 dX6_limiting_38 rfl (lv_at hl 2 rfl) ?_
    obtain ⟨r3, c4, h⟩ := bd_out h
    refine k_callVi C G hP hS (m_X6_idle l G.2.1 _  c4) r_obj rfl (cwV 1 C.2.2.2.2.2.1 gX6_limiting_X6_idle rfl rfl rfl (by decide +kernel) ⟨Nat.le_of_ble_eq_true rfl, Nat.le_of_ble_eq_true rfl⟩) (As := [.int x2]) rfl hl.1 rfl (Nat.le_of_ble_eq_true rfl) dX6_limiting_39 ⟨Nat.le_of_ble_eq_true rfl, Nat.le_of_ble_eq_true rfl⟩ (fun H locs hP hS => ?_)
    refine lv_aload_n C.1 C.2.1 dX6_limiting_42 rfl (lv_at hl 0 rfl) ?_
    refine lv_iload_n C.1 C.2.1 dX6_limiting_43 rfl (lv_at hl 1 rfl) ?_
    obtain ⟨r5, c6, h⟩ := bd_out h
    refine k_callVi C G hP hS (m_X6_idle l G.2.1 _  c6) r_obj rfl (cwV 1 C.2.2.2.2.2.1 gX6_limiting_X6_idle rfl rfl rfl (by decide +kernel) ⟨Nat.le_of_ble_eq_true rfl, Nat.le_of_ble_eq_true rfl⟩) (As := [.int x1]) rfl hl.1 rfl (Nat.le_of_ble_eq_true rfl) dX6_limiting_44 ⟨Nat.le_of_ble_eq_true rfl, Nat.le_of_ble_eq_true rfl⟩ (fun H locs hP hS => ?_)
    refine lv_icmp_ge (tgt := 54) C.1 C.2.1 dX6_limiting_47 (by decide) (fun c7 => ?_) (fun c7 => ?_)
    · have h := if_t c7 h
      refine lv_iload_n C.1 C.2.1 dX6_limiting_54 rfl (lv_at hl 1 rfl) ?_
      exact w_X6_limiting_b55 C G hK27 hP hS (lv_sub hl [0, 2] rfl) h
    · have h := if_f c7 h
      refine lv_iload_n C.1 C.2.1 dX6_limiting_50 rfl (lv_at hl 2 rfl) ?_
      refine lv_goto (tgt := 55) C.1 C.2.1 dX6_limiting_51 (by decide) ?_
      exact w_X6_limiting_b55 C G hK27 hP hS (lv_sub hl [0, 2] rfl) h
set_option maxRecDepth 100000 in
set_option maxHeartbeats 4000000 in
theorem w_X6_limiting_h27 {res : Int32 × SL} (C : Cx p s m args meth c cX6_limiting 3 (some .int) RX6 wsX6_limiting) (G : Gx D cs ad s) {Ls : Nat → SL} {Hs : SL} {T : SL} {dr : Int64} {hs : Int64} {o : Int64} {od : UInt64} : ∀ (n : Nat) {M : SL} {x1 : Int32} {x2 : Int32} {H : Heap} {locs : List Loc} {ls : Array Slot}, va_P D vwCl (wA cs ad Ls Hs T M dr hs o od) H → va_S (Afr ad s.heap.size) s.heap H locs → lv_has ls 3 [(0, .ref (ad 89)), (1, .int x1), (2, .int x2)] → f_X6_limiting_h27 n M x1 x2 = some res → W p l e rmX6_limiting s m args below meth c H locs 0 0 (MQ below (va_Qi (fun r' (_ : Unit) => r' = res.1) (fun _ t => va_P D vwCl (wA cs ad Ls Hs T res.2 dr hs o od) t.heap) (Afr ad s.heap.size)) args s 0 0 (Afr ad s.heap.size)) (F0 m 27 ls []) := by
  intro n
  induction n with
  | zero => intro M x1 x2 H locs ls hP hS hl  h; cases h
  | succ n ih => intro M x1 x2 H locs ls hP hS hl  h; exact w_X6_limiting_b27 C G    ih hP hS hl  h
set_option maxRecDepth 100000 in
set_option maxHeartbeats 4000000 in
theorem w_X6_limiting_b15 {res : Int32 × SL} (C : Cx p s m args meth c cX6_limiting 3 (some .int) RX6 wsX6_limiting) (G : Gx D cs ad s) {Ls : Nat → SL} {Hs : SL} {T : SL} {dr : Int64} {hs : Int64} {o : Int64} {od : UInt64} {M : SL} {s1 : Int32} {H : Heap} {locs : List Loc} {ls : Array Slot} (hP : va_P D vwCl (wA cs ad Ls Hs T M dr hs o od) H) (hS : va_S (Afr ad s.heap.size) s.heap H locs) (hl : lv_has ls 3 [(0, .ref (ad 89))]) (h : f_X6_limiting_b15 M s1 = some res) : W p l e rmX6_limiting s m args below meth c H locs 0 0 (MQ below (va_Qi (fun r' (_ : Unit) => r' = res.1) (fun _ t => va_P D vwCl (wA cs ad Ls Hs T res.2 dr hs o od) t.heap) (Afr ad s.heap.size)) args s 0 0 (Afr ad s.heap.size)) (F0 m 15 ls [.int s1, .ref (ad 89)]) := by
  unfold f_X6_limiting_b15 at h
  obtain ⟨r1, M2, c3, h⟩ := bd2_out h
  refine k_callVi C G hP hS (m_X6_refused l G.2.1 _  c3) r_obj rfl (cwV 1 C.2.2.2.2.2.1 gX6_limiting_X6_refused rfl rfl rfl (by decide +kernel) ⟨Nat.le_of_ble_eq_true rfl, Nat.le_of_ble_eq_true rfl⟩) (As := [.int s1]) rfl hl.1 rfl (Nat.le_of_ble_eq_true rfl) dX6_limiting_15 ⟨Nat.le_of_ble_eq_true rfl, Nat.le_of_ble_eq_true rfl⟩ (fun H locs hP hS => ?_)
  refine lv_if_eq (tgt := 23) C.1 C.2.1 dX6_limiting_18 (by decide) (fun c4 => ?_) (fun c4 => ?_)
  · have h := if_t c4 h
    refine lv_iconst (v := 0) C.1 C.2.1 dX6_limiting_23 (by decide) ?_
    refine lv_istore_n (lv' := [(1, .int 0), (0, .ref (ad 89))]) C.1 C.2.1 dX6_limiting_24 rfl hl (by decide) rfl (fun ls hl => ?_)
    refine lv_iconst (v := 1) C.1 C.2.1 dX6_limiting_25 (by decide) ?_
    refine lv_istore_n (lv' := [(2, .int 1), (1, .int 0), (0, .ref (ad 89))]) C.1 C.2.1 dX6_limiting_26 rfl hl (by decide) rfl (fun ls hl => ?_)
    exact w_X6_limiting_h27 C G fuel hP hS (lv_sub hl [2, 1, 0] rfl) h
  · have h := if_f c4 h
    refine lv_iconst (v := 0) C.1 C.2.1 dX6_limiting_21 (by decide) ?_
    cases h
    exact k_iret C hP hS dX6_limiting_22
set_option maxRecDepth 100000 in
set_option maxHeartbeats 4000000 in
theorem w_X6_limiting_e {res : Int32 × SL} (C : Cx p s m args meth c cX6_limiting 3 (some .int) RX6 wsX6_limiting) (G : Gx D cs ad s) {Ls : Nat → SL} {Hs : SL} {T : SL} {dr : Int64} {hs : Int64} {o : Int64} {od : UInt64} {M : SL} {H : Heap} {locs : List Loc} {ls : Array Slot} (hP : va_P D vwCl (wA cs ad Ls Hs T M dr hs o od) H) (hS : va_S (Afr ad s.heap.size) s.heap H locs) (hl : lv_has ls 3 [(0, .ref (ad 89))]) (h : f_X6_limiting M = some res) : W p l e rmX6_limiting s m args below meth c H locs 0 0 (MQ below (va_Qi (fun r' (_ : Unit) => r' = res.1) (fun _ t => va_P D vwCl (wA cs ad Ls Hs T res.2 dr hs o od) t.heap) (Afr ad s.heap.size)) args s 0 0 (Afr ad s.heap.size)) (F0 m 0 ls []) := by
  unfold f_X6_limiting at h
  refine lv_aload_n C.1 C.2.1 dX6_limiting_0 rfl (lv_at hl 0 rfl) ?_
  refine lv_aload_n C.1 C.2.1 dX6_limiting_1 rfl (lv_at hl 0 rfl) ?_
  refine k_getf C G hP r_obj rfl 0 (by decide) n_X6_limiting_X6 q_X6_limiting_0 (v := .ref (ad (89 + 1))) rfl dX6_limiting_2 ?_
  refine lv_iconst (v := 0) C.1 C.2.1 dX6_limiting_5 (by decide) ?_
  obtain ⟨v1, ev1, h⟩ := lt_out h
  refine k_iald C G hP (r_arr (k := 1) (by decide)) (chk_in rfl) (j := 0) rfl ev1 dX6_limiting_6 ?_
  refine lv_if_ne (tgt := 14) C.1 C.2.1 dX6_limiting_7 (by decide) (fun c2 => ?_) (fun c2 => ?_)
  · have h := if_t c2 h
    refine lv_iconst (v := 0) C.1 C.2.1 dX6_limiting_14 (by decide) ?_
    exact w_X6_limiting_b15 C G hP hS (lv_sub hl [0] rfl) h
  · have h := if_n c2 h
    refine lv_iconst (v := 1) C.1 C.2.1 dX6_limiting_10 (by decide) ?_
    refine lv_goto (tgt := 15) C.1 C.2.1 dX6_limiting_11 (by decide) ?_
    exact w_X6_limiting_b15 C G hP hS (lv_sub hl [0] rfl) h
set_option maxRecDepth 100000 in
set_option maxHeartbeats 4000000 in
theorem m_X6_limiting (l : Launch) {D : va_G} {cs : Nat → ClassId} {ad : Nat → Nat} (hAd : adOK ad) (sz : Nat) {Ls : Nat → SL} {Hs : SL} {T : SL} {M : SL} {dr : Int64} {hs : Int64} {o : Int64} {od : UInt64} {res : Int32 × SL} (h : f_X6_limiting M = some res) : Met l yX6_limiting wsX6_limiting rmX6_limiting (PA D cs sz (wA cs ad Ls Hs T M dr hs o od) [.ref (ad 89)]) (va_Qi (fun r' (_ : Unit) => r' = res.1) (fun _ t => va_P D vwCl (wA cs ad Ls Hs T res.2 dr hs o od) t.heap) (Afr ad sz)) 0 0 (Afr ad sz) :=
  k_met (by decide) rfl (Nat.le_of_ble_eq_true rfl) hAd (fun p e s m below meth c ls C G hP hsz hl hS => by
    subst hsz
    exact w_X6_limiting_e C G  hP hS hl  h)
/-! X6 madeWith -/
abbrev rmX6_madeWith : Room := { frames := 5, cells := 0, slots := 0, locals := 115 }
theorem q_X6_madeWith_0 : Cond.fieldLink RX6 7 "LineBuffersModel" "now" "[I" ∈ wsX6_madeWith := List.mem_of_getElem? (i := 1) rfl
theorem n_X6_madeWith_X6 : ∀ x ∈ u_ws RX6 TX6 12, x ∈ wsX6_madeWith := fun x h => List.mem_cons_of_mem _ (List.mem_append_right _ h)
set_option maxRecDepth 100000 in
set_option maxHeartbeats 4000000 in
theorem w_X6_madeWith_e {res : Int32 × SL} (C : Cx p s m args meth c cX6_madeWith 5 (some .int) RX6 wsX6_madeWith) (G : Gx D cs ad s) {Ls : Nat → SL} {Hs : SL} {T : SL} {dr : Int64} {hs : Int64} {o : Int64} {od : UInt64} {M : SL} {x1 : Int32} {x2 : Int32} {x3 : Int32} {H : Heap} {locs : List Loc} {ls : Array Slot} (hP : va_P D vwCl (wA cs ad Ls Hs T M dr hs o od) H) (hS : va_S (Afr ad s.heap.size) s.heap H locs) (hl : lv_has ls 5 [(0, .ref (ad 89)), (1, .int x1), (2, .int x2), (3, .int x3)]) (h : f_X6_madeWith M x1 x2 x3 = some res) : W p l e rmX6_madeWith s m args below meth c H locs 0 0 (MQ below (va_Qi (fun r' (_ : Unit) => r' = res.1) (fun _ t => va_P D vwCl (wA cs ad Ls Hs T res.2 dr hs o od) t.heap) (Afr ad s.heap.size)) args s 0 0 (Afr ad s.heap.size)) (F0 m 0 ls []) := by
  unfold f_X6_madeWith at h
  refine lv_aload_n C.1 C.2.1 dX6_madeWith_0 rfl (lv_at hl 0 rfl) ?_
  obtain ⟨M1, c2, h⟩ := bd_out h
  refine k_callVv C G hP hS (m_X6_keeps l G.2.1 _  c2) r_obj rfl (cwV 0 C.2.2.2.2.2.1 gX6_madeWith_X6_keeps rfl rfl rfl (by decide +kernel) ⟨Nat.le_of_ble_eq_true rfl, Nat.le_of_ble_eq_true rfl⟩) (As := []) rfl hl.1 rfl (Nat.le_of_ble_eq_true rfl) dX6_madeWith_1 ⟨Nat.le_of_ble_eq_true rfl, Nat.le_of_ble_eq_true rfl⟩ (fun H locs hP hS => ?_)
  refine lv_aload_n C.1 C.2.1 dX6_madeWith_4 rfl (lv_at hl 0 rfl) ?_
  refine k_getf C G hP r_obj rfl 0 (by decide) n_X6_madeWith_X6 q_X6_madeWith_0 (v := .ref (ad (89 + 1))) rfl dX6_madeWith_5 ?_
  refine lv_iload_n C.1 C.2.1 dX6_madeWith_8 rfl (lv_at hl 1 rfl) ?_
  obtain ⟨r3, c4, h⟩ := bd_out h
  refine k_callSi C G hP hS (m_X6_of l G.2.1 _  c4) (va_cwS 1 C.2.2.2.2.2.1 gX6_madeWith_X6_of rfl rfl rfl (by decide +kernel) ⟨Nat.le_of_ble_eq_true rfl, Nat.le_of_ble_eq_true rfl⟩) (As := [.int x1]) rfl hl.1 rfl (Nat.le_of_ble_eq_true rfl) dX6_madeWith_9 ⟨Nat.le_of_ble_eq_true rfl, Nat.le_of_ble_eq_true rfl⟩ (fun H locs hP hS => ?_)
  refine lv_iconst (v := 4) C.1 C.2.1 dX6_madeWith_12 (by decide) ?_
  obtain ⟨v5, ev5, h⟩ := lt_out h
  refine k_iadd C ev5 dX6_madeWith_13 ?_
  refine lv_iload_n C.1 C.2.1 dX6_madeWith_14 rfl (lv_at hl 2 rfl) ?_
  obtain ⟨g6, h⟩ := gd_out h
  have g6 := chk_in g6
  obtain ⟨M7, eM7, h⟩ := lt_out h
  refine k_iast C G hP hS (r_arr (k := 1) (by decide)) g6 (j := v5.toNatClampNeg) rfl (r_arrS (k := 1) (by decide)) dX6_madeWith_15 (fun H locs hP hS => ?_)
  rw [← eM7] at hP
  refine lv_aload_n C.1 C.2.1 dX6_madeWith_16 rfl (lv_at hl 0 rfl) ?_
  obtain ⟨M8, c9, h⟩ := bd_out h
  refine k_callVv C G hP hS (m_X6_empties l G.2.1 _  c9) r_obj rfl (cwV 0 C.2.2.2.2.2.1 gX6_madeWith_X6_empties rfl rfl rfl (by decide +kernel) ⟨Nat.le_of_ble_eq_true rfl, Nat.le_of_ble_eq_true rfl⟩) (As := []) rfl hl.1 rfl (Nat.le_of_ble_eq_true rfl) dX6_madeWith_17 ⟨Nat.le_of_ble_eq_true rfl, Nat.le_of_ble_eq_true rfl⟩ (fun H locs hP hS => ?_)
  refine lv_aload_n C.1 C.2.1 dX6_madeWith_20 rfl (lv_at hl 0 rfl) ?_
  refine lv_iload_n C.1 C.2.1 dX6_madeWith_21 rfl (lv_at hl 3 rfl) ?_
  obtain ⟨r10, M11, c12, h⟩ := bd2_out h
  refine k_callVi C G hP hS (m_X6_goes l G.2.1 _  c12) r_obj rfl (cwV 1 C.2.2.2.2.2.1 gX6_madeWith_X6_goes rfl rfl rfl (by decide +kernel) ⟨Nat.le_of_ble_eq_true rfl, Nat.le_of_ble_eq_true rfl⟩) (As := [.int x3]) rfl hl.1 rfl (Nat.le_of_ble_eq_true rfl) dX6_madeWith_22 ⟨Nat.le_of_ble_eq_true rfl, Nat.le_of_ble_eq_true rfl⟩ (fun H locs hP hS => ?_)
  refine lv_istore (lv' := [(4, .int r10), (0, .ref (ad 89)), (1, .int x1), (2, .int x2), (3, .int x3)]) C.1 C.2.1 dX6_madeWith_25 hl (by decide) rfl (fun ls hl => ?_)
  refine lv_aload_n C.1 C.2.1 dX6_madeWith_27 rfl (lv_at hl 1 rfl) ?_
  obtain ⟨M13, c14, h⟩ := bd_out h
  refine k_callVv C G hP hS (m_X6_takesBack l G.2.1 _  c14) r_obj rfl (cwV 0 C.2.2.2.2.2.1 gX6_madeWith_X6_takesBack rfl rfl rfl (by decide +kernel) ⟨Nat.le_of_ble_eq_true rfl, Nat.le_of_ble_eq_true rfl⟩) (As := []) rfl hl.1 rfl (Nat.le_of_ble_eq_true rfl) dX6_madeWith_28 ⟨Nat.le_of_ble_eq_true rfl, Nat.le_of_ble_eq_true rfl⟩ (fun H locs hP hS => ?_)
  refine lv_iload C.1 C.2.1 dX6_madeWith_31 (lv_at hl 0 rfl) ?_
  cases h
  exact k_iret C hP hS dX6_madeWith_33
set_option maxRecDepth 100000 in
set_option maxHeartbeats 4000000 in
theorem m_X6_madeWith (l : Launch) {D : va_G} {cs : Nat → ClassId} {ad : Nat → Nat} (hAd : adOK ad) (sz : Nat) {Ls : Nat → SL} {Hs : SL} {T : SL} {M : SL} {dr : Int64} {hs : Int64} {o : Int64} {od : UInt64} {x1 : Int32} {x2 : Int32} {x3 : Int32} {res : Int32 × SL} (h : f_X6_madeWith M x1 x2 x3 = some res) : Met l yX6_madeWith wsX6_madeWith rmX6_madeWith (PA D cs sz (wA cs ad Ls Hs T M dr hs o od) [.ref (ad 89), .int x1, .int x2, .int x3]) (va_Qi (fun r' (_ : Unit) => r' = res.1) (fun _ t => va_P D vwCl (wA cs ad Ls Hs T res.2 dr hs o od) t.heap) (Afr ad sz)) 0 0 (Afr ad sz) :=
  k_met (by decide) rfl (Nat.le_of_ble_eq_true rfl) hAd (fun p e s m below meth c ls C G hP hsz hl hS => by
    subst hsz
    exact w_X6_madeWith_e C G  hP hS hl  h)
/-! X6 areTicks -/
abbrev rmX6_areTicks : Room := { frames := 1, cells := 0, slots := 0, locals := 22 }
set_option maxRecDepth 100000 in
set_option maxHeartbeats 4000000 in
theorem w_X6_areTicks_e {res : Int32} (C : Cx p s m args meth c cX6_areTicks 1 (some .boolean) RX6 wsX6_areTicks) (G : Gx D cs ad s) {Ls : Nat → SL} {Hs : SL} {T : SL} {M : SL} {dr : Int64} {hs : Int64} {o : Int64} {od : UInt64} {x0 : Int32} {H : Heap} {locs : List Loc} {ls : Array Slot} (hP : va_P D vwCl (wA cs ad Ls Hs T M dr hs o od) H) (hS : va_S (Afr ad s.heap.size) s.heap H locs) (hl : lv_has ls 1 [(0, .int x0)]) (h : f_X6_areTicks x0 = some res) : W p l e rmX6_areTicks s m args below meth c H locs 0 0 (MQ below (va_Qi (fun r' (_ : Unit) => r' = res) (fun _ t => va_P D vwCl (wA cs ad Ls Hs T M dr hs o od) t.heap) (Afr ad s.heap.size)) args s 0 0 (Afr ad s.heap.size)) (F0 m 0 ls []) := by
  unfold f_X6_areTicks at h
  refine lv_iload_n C.1 C.2.1 dX6_areTicks_0 rfl (lv_at hl 0 rfl) ?_
  refine lv_iconst (v := 1) C.1 C.2.1 dX6_areTicks_1 (by decide) ?_
  refine lv_sipush (v := 2000) C.1 C.2.1 dX6_areTicks_2 (by decide) ?_
  obtain ⟨r1, c2, h⟩ := bd_out h
  refine k_callSi C G hP hS (m_X6_within l G.2.1 _  c2) (va_cwS 3 C.2.2.2.2.2.1 gX6_areTicks_X6_within rfl rfl rfl (by decide +kernel) ⟨Nat.le_of_ble_eq_true rfl, Nat.le_of_ble_eq_true rfl⟩) (As := [.int x0, .int 1, .int 2000]) rfl hl.1 rfl (Nat.le_of_ble_eq_true rfl) dX6_areTicks_5 ⟨Nat.le_of_ble_eq_true rfl, Nat.le_of_ble_eq_true rfl⟩ (fun H locs hP hS => ?_)
  obtain ⟨g3, h⟩ := gd_out h
  have g3 := isB_nar g3
  cases h
  exact k_zret C hP hS g3 dX6_areTicks_8
set_option maxRecDepth 100000 in
set_option maxHeartbeats 4000000 in
theorem m_X6_areTicks (l : Launch) {D : va_G} {cs : Nat → ClassId} {ad : Nat → Nat} (hAd : adOK ad) (sz : Nat) {Ls : Nat → SL} {Hs : SL} {T : SL} {M : SL} {dr : Int64} {hs : Int64} {o : Int64} {od : UInt64} {x0 : Int32} {res : Int32} (h : f_X6_areTicks x0 = some res) : Met l yX6_areTicks wsX6_areTicks rmX6_areTicks (PA D cs sz (wA cs ad Ls Hs T M dr hs o od) [.int x0]) (va_Qi (fun r' (_ : Unit) => r' = res) (fun _ t => va_P D vwCl (wA cs ad Ls Hs T M dr hs o od) t.heap) (Afr ad sz)) 0 0 (Afr ad sz) :=
  k_met (by decide) rfl (Nat.le_of_ble_eq_true rfl) hAd (fun p e s m below meth c ls C G hP hsz hl hS => by
    subst hsz
    exact w_X6_areTicks_e C G  hP hS hl  h)
/-! X6 outputWith -/
abbrev rmX6_outputWith : Room := { frames := 6, cells := 0, slots := 0, locals := 139 }
set_option maxRecDepth 100000 in
set_option maxHeartbeats 4000000 in
theorem w_X6_outputWith_b32 {res : Int32 × SL} (C : Cx p s m args meth c cX6_outputWith 4 (some .int) RX6 wsX6_outputWith) (G : Gx D cs ad s) {Ls : Nat → SL} {Hs : SL} {T : SL} {dr : Int64} {hs : Int64} {o : Int64} {od : UInt64} {M : SL} {x1 : Int32} {x2 : Int32} {x3 : Int32} {s1 : Int32} {H : Heap} {locs : List Loc} {ls : Array Slot} (hP : va_P D vwCl (wA cs ad Ls Hs T M dr hs o od) H) (hS : va_S (Afr ad s.heap.size) s.heap H locs) (hl : lv_has ls 4 [(0, .ref (ad 89)), (1, .int x1), (2, .int x2), (3, .int x3)]) (h : f_X6_outputWith_b32 M x1 x2 x3 s1 = some res) : W p l e rmX6_outputWith s m args below meth c H locs 0 0 (MQ below (va_Qi (fun r' (_ : Unit) => r' = res.1) (fun _ t => va_P D vwCl (wA cs ad Ls Hs T res.2 dr hs o od) t.heap) (Afr ad s.heap.size)) args s 0 0 (Afr ad s.heap.size)) (F0 m 32 ls [.int s1, .ref (ad 89)]) := by
  unfold f_X6_outputWith_b32 at h
  obtain ⟨r1, M2, c3, h⟩ := bd2_out h
  refine k_callVi C G hP hS (m_X6_refused l G.2.1 _  c3) r_obj rfl (cwV 1 C.2.2.2.2.2.1 gX6_outputWith_X6_refused rfl rfl rfl (by decide +kernel) ⟨Nat.le_of_ble_eq_true rfl, Nat.le_of_ble_eq_true rfl⟩) (As := [.int s1]) rfl hl.1 rfl (Nat.le_of_ble_eq_true rfl) dX6_outputWith_32 ⟨Nat.le_of_ble_eq_true rfl, Nat.le_of_ble_eq_true rfl⟩ (fun H locs hP hS => ?_)
  refine lv_if_eq (tgt := 40) C.1 C.2.1 dX6_outputWith_35 (by decide) (fun c4 => ?_) (fun c4 => ?_)
  · have h := if_t c4 h
    refine lv_aload_n C.1 C.2.1 dX6_outputWith_40 rfl (lv_at hl 0 rfl) ?_
    refine lv_iload_n C.1 C.2.1 dX6_outputWith_41 rfl (lv_at hl 1 rfl) ?_
    refine lv_iload_n C.1 C.2.1 dX6_outputWith_42 rfl (lv_at hl 2 rfl) ?_
    refine lv_iload_n C.1 C.2.1 dX6_outputWith_43 rfl (lv_at hl 3 rfl) ?_
    obtain ⟨r5, M6, c7, h⟩ := bd2_out h
    refine k_callVi C G hP hS (m_X6_madeWith l G.2.1 _  c7) r_obj rfl (cwV 3 C.2.2.2.2.2.1 gX6_outputWith_X6_madeWith rfl rfl rfl (by decide +kernel) ⟨Nat.le_of_ble_eq_true rfl, Nat.le_of_ble_eq_true rfl⟩) (As := [.int x1, .int x2, .int x3]) rfl hl.1 rfl (Nat.le_of_ble_eq_true rfl) dX6_outputWith_44 ⟨Nat.le_of_ble_eq_true rfl, Nat.le_of_ble_eq_true rfl⟩ (fun H locs hP hS => ?_)
    cases h
    exact k_iret C hP hS dX6_outputWith_47
  · have h := if_f c4 h
    refine lv_iconst (v := 0) C.1 C.2.1 dX6_outputWith_38 (by decide) ?_
    cases h
    exact k_iret C hP hS dX6_outputWith_39
set_option maxRecDepth 100000 in
set_option maxHeartbeats 4000000 in
theorem w_X6_outputWith_b31 {res : Int32 × SL} (C : Cx p s m args meth c cX6_outputWith 4 (some .int) RX6 wsX6_outputWith) (G : Gx D cs ad s) {Ls : Nat → SL} {Hs : SL} {T : SL} {dr : Int64} {hs : Int64} {o : Int64} {od : UInt64} {M : SL} {x1 : Int32} {x2 : Int32} {x3 : Int32} {H : Heap} {locs : List Loc} {ls : Array Slot} (hP : va_P D vwCl (wA cs ad Ls Hs T M dr hs o od) H) (hS : va_S (Afr ad s.heap.size) s.heap H locs) (hl : lv_has ls 4 [(0, .ref (ad 89)), (1, .int x1), (2, .int x2), (3, .int x3)]) (h : f_X6_outputWith_b31 M x1 x2 x3 = some res) : W p l e rmX6_outputWith s m args below meth c H locs 0 0 (MQ below (va_Qi (fun r' (_ : Unit) => r' = res.1) (fun _ t => va_P D vwCl (wA cs ad Ls Hs T res.2 dr hs o od) t.heap) (Afr ad s.heap.size)) args s 0 0 (Afr ad s.heap.size)) (F0 m 31 ls [.ref (ad 89)]) := by
  unfold f_X6_outputWith_b31 at h
  refine lv_iconst (v := 2) C.1 C.2.1 dX6_outputWith_31 (by decide) ?_
  exact w_X6_outputWith_b32 C G hP hS (lv_sub hl [0, 1, 2, 3] rfl) h
set_option maxRecDepth 100000 in
set_option maxHeartbeats 4000000 in
theorem w_X6_outputWith_e {res : Int32 × SL} (C : Cx p s m args meth c cX6_outputWith 4 (some .int) RX6 wsX6_outputWith) (G : Gx D cs ad s) {Ls : Nat → SL} {Hs : SL} {T : SL} {dr : Int64} {hs : Int64} {o : Int64} {od : UInt64} {M : SL} {x1 : Int32} {x2 : Int32} {x3 : Int32} {H : Heap} {locs : List Loc} {ls : Array Slot} (hP : va_P D vwCl (wA cs ad Ls Hs T M dr hs o od) H) (hS : va_S (Afr ad s.heap.size) s.heap H locs) (hl : lv_has ls 4 [(0, .ref (ad 89)), (1, .int x1), (2, .int x2), (3, .int x3)]) (h : f_X6_outputWith M x1 x2 x3 = some res) : W p l e rmX6_outputWith s m args below meth c H locs 0 0 (MQ below (va_Qi (fun r' (_ : Unit) => r' = res.1) (fun _ t => va_P D vwCl (wA cs ad Ls Hs T res.2 dr hs o od) t.heap) (Afr ad s.heap.size)) args s 0 0 (Afr ad s.heap.size)) (F0 m 0 ls []) := by
  unfold f_X6_outputWith at h
  refine lv_aload_n C.1 C.2.1 dX6_outputWith_0 rfl (lv_at hl 0 rfl) ?_
  refine lv_aload_n C.1 C.2.1 dX6_outputWith_1 rfl (lv_at hl 0 rfl) ?_
  refine lv_iload_n C.1 C.2.1 dX6_outputWith_2 rfl (lv_at hl 1 rfl) ?_
  obtain ⟨r1, c2, h⟩ := bd_out h
  refine k_callVi C G hP hS (m_X6_isMachine l G.2.1 _  c2) r_obj rfl (cwV 1 C.2.2.2.2.2.1 gX6_outputWith_X6_isMachine rfl rfl rfl (by decide +kernel) ⟨Nat.le_of_ble_eq_true rfl, Nat.le_of_ble_eq_true rfl⟩) (As := [.int x1]) rfl hl.1 rfl (Nat.le_of_ble_eq_true rfl) dX6_outputWith_3 ⟨Nat.le_of_ble_eq_true rfl, Nat.le_of_ble_eq_true rfl⟩ (fun H locs hP hS => ?_)
  refine lv_if_ne (tgt := 13) C.1 C.2.1 dX6_outputWith_6 (by decide) (fun c3 => ?_) (fun c3 => ?_)
  · have h := if_t c3 h
    refine lv_iload_n C.1 C.2.1 dX6_outputWith_13 rfl (lv_at hl 2 rfl) ?_
    obtain ⟨r4, c5, h⟩ := bd_out h
    refine k_callSi C G hP hS (m_X6_isCapacity l G.2.1 _  c5) (va_cwS 1 C.2.2.2.2.2.1 gX6_outputWith_X6_isCapacity rfl rfl rfl (by decide +kernel) ⟨Nat.le_of_ble_eq_true rfl, Nat.le_of_ble_eq_true rfl⟩) (As := [.int x2]) rfl hl.1 rfl (Nat.le_of_ble_eq_true rfl) dX6_outputWith_14 ⟨Nat.le_of_ble_eq_true rfl, Nat.le_of_ble_eq_true rfl⟩ (fun H locs hP hS => ?_)
    refine lv_if_eq (tgt := 31) C.1 C.2.1 dX6_outputWith_17 (by decide) (fun c6 => ?_) (fun c6 => ?_)
    · have h := if_t c6 h
      exact w_X6_outputWith_b31 C G hP hS (lv_sub hl [0, 1, 2, 3] rfl) h
    · have h := if_f c6 h
      refine lv_iload_n C.1 C.2.1 dX6_outputWith_20 rfl (lv_at hl 3 rfl) ?_
      obtain ⟨r7, c8, h⟩ := bd_out h
      refine k_callSi C G hP hS (m_X6_areTicks l G.2.1 _  c8) (va_cwS 1 C.2.2.2.2.2.1 gX6_outputWith_X6_areTicks rfl rfl rfl (by decide +kernel) ⟨Nat.le_of_ble_eq_true rfl, Nat.le_of_ble_eq_true rfl⟩) (As := [.int x3]) rfl hl.1 rfl (Nat.le_of_ble_eq_true rfl) dX6_outputWith_21 ⟨Nat.le_of_ble_eq_true rfl, Nat.le_of_ble_eq_true rfl⟩ (fun H locs hP hS => ?_)
      refine lv_if_eq (tgt := 31) C.1 C.2.1 dX6_outputWith_24 (by decide) (fun c9 => ?_) (fun c9 => ?_)
      · have h := if_t c9 h
        exact w_X6_outputWith_b31 C G hP hS (lv_sub hl [0, 1, 2, 3] rfl) h
      · have h := if_f c9 h
        refine lv_iconst (v := 0) C.1 C.2.1 dX6_outputWith_27 (by decide) ?_
        refine lv_goto (tgt := 32) C.1 C.2.1 dX6_outputWith_28 (by decide) ?_
        exact w_X6_outputWith_b32 C G hP hS (lv_sub hl [0, 1, 2, 3] rfl) h
  · have h := if_n c3 h
    refine lv_iconst (v := 1) C.1 C.2.1 dX6_outputWith_9 (by decide) ?_
    refine lv_goto (tgt := 32) C.1 C.2.1 dX6_outputWith_10 (by decide) ?_
    exact w_X6_outputWith_b32 C G hP hS (lv_sub hl [0, 1, 2, 3] rfl) h
set_option maxRecDepth 100000 in
set_option maxHeartbeats 4000000 in
theorem m_X6_outputWith (l : Launch) {D : va_G} {cs : Nat → ClassId} {ad : Nat → Nat} (hAd : adOK ad) (sz : Nat) {Ls : Nat → SL} {Hs : SL} {T : SL} {M : SL} {dr : Int64} {hs : Int64} {o : Int64} {od : UInt64} {x1 : Int32} {x2 : Int32} {x3 : Int32} {res : Int32 × SL} (h : f_X6_outputWith M x1 x2 x3 = some res) : Met l yX6_outputWith wsX6_outputWith rmX6_outputWith (PA D cs sz (wA cs ad Ls Hs T M dr hs o od) [.ref (ad 89), .int x1, .int x2, .int x3]) (va_Qi (fun r' (_ : Unit) => r' = res.1) (fun _ t => va_P D vwCl (wA cs ad Ls Hs T res.2 dr hs o od) t.heap) (Afr ad sz)) 0 0 (Afr ad sz) :=
  k_met (by decide) rfl (Nat.le_of_ble_eq_true rfl) hAd (fun p e s m below meth c ls C G hP hsz hl hS => by
    subst hsz
    exact w_X6_outputWith_e C G  hP hS hl  h)
/-! X6 capacityFor -/
abbrev rmX6_capacityFor : Room := { frames := 6, cells := 0, slots := 0, locals := 139 }
set_option maxRecDepth 100000 in
set_option maxHeartbeats 4000000 in
theorem w_X6_capacityFor_b47 {res : Int32 × SL} (C : Cx p s m args meth c cX6_capacityFor 5 (some .int) RX6 wsX6_capacityFor) (G : Gx D cs ad s) {Ls : Nat → SL} {Hs : SL} {T : SL} {dr : Int64} {hs : Int64} {o : Int64} {od : UInt64} {K47 : SL → Int32 → Int32 → Int32 → Int32 → Option (Int32 × SL)} (hK47 : ∀ {M : SL} {x1 : Int32} {x2 : Int32} {x3 : Int32} {x4 : Int32} {H : Heap} {locs : List Loc} {ls : Array Slot}, va_P D vwCl (wA cs ad Ls Hs T M dr hs o od) H → va_S (Afr ad s.heap.size) s.heap H locs → lv_has ls 5 [(0, .ref (ad 89)), (1, .int x1), (2, .int x2), (3, .int x3), (4, .int x4)] → K47 M x1 x2 x3 x4 = some res → W p l e rmX6_capacityFor s m args below meth c H locs 0 0 (MQ below (va_Qi (fun r' (_ : Unit) => r' = res.1) (fun _ t => va_P D vwCl (wA cs ad Ls Hs T res.2 dr hs o od) t.heap) (Afr ad s.heap.size)) args s 0 0 (Afr ad s.heap.size)) (F0 m 47 ls [])) {M : SL} {x1 : Int32} {x2 : Int32} {x3 : Int32} {x4 : Int32} {H : Heap} {locs : List Loc} {ls : Array Slot} (hP : va_P D vwCl (wA cs ad Ls Hs T M dr hs o od) H) (hS : va_S (Afr ad s.heap.size) s.heap H locs) (hl : lv_has ls 5 [(0, .ref (ad 89)), (1, .int x1), (2, .int x2), (3, .int x3), (4, .int x4)]) (h : f_X6_capacityFor_b47 K47 M x1 x2 x3 x4 = some res) : W p l e rmX6_capacityFor s m args below meth c H locs 0 0 (MQ below (va_Qi (fun r' (_ : Unit) => r' = res.1) (fun _ t => va_P D vwCl (wA cs ad Ls Hs T res.2 dr hs o od) t.heap) (Afr ad s.heap.size)) args s 0 0 (Afr ad s.heap.size)) (F0 m 47 ls []) := by
  unfold f_X6_capacityFor_b47 at h
  refine lv_iload C.1 C.2.1 dX6_capacityFor_47 (lv_at hl 4 rfl) ?_
  refine lv_bipush (v := 40) C.1 C.2.1 dX6_capacityFor_49 (by decide) ?_
  refine lv_icmp_gt (tgt := 75) C.1 C.2.1 dX6_capacityFor_51 (by decide) (fun c1 => ?_) (fun c1 => ?_)
  · have h := if_t c1 h
    refine lv_iconst (v := (-1)) C.1 C.2.1 dX6_capacityFor_75 (by decide) ?_
    cases h
    exact k_iret C hP hS dX6_capacityFor_76
  · have h := if_f c1 h
    refine lv_aload_n C.1 C.2.1 dX6_capacityFor_54 rfl (lv_at hl 0 rfl) ?_
    refine lv_iload_n C.1 C.2.1 dX6_capacityFor_55 rfl (lv_at hl 1 rfl) ?_
    refine lv_iload C.1 C.2.1 dX6_capacityFor_56 (lv_at hl 4 rfl) ?_
    refine lv_iload_n C.1 C.2.1 dX6_capacityFor_58 rfl (lv_at hl 2 rfl) ?_
    obtain ⟨r2, M3, c4, h⟩ := bd2_out h
    refine k_callVi C G hP hS (m_X6_madeWith l G.2.1 _  c4) r_obj rfl (cwV 3 C.2.2.2.2.2.1 gX6_capacityFor_X6_madeWith rfl rfl rfl (by decide +kernel) ⟨Nat.le_of_ble_eq_true rfl, Nat.le_of_ble_eq_true rfl⟩) (As := [.int x1, .int x4, .int x2]) rfl hl.1 rfl (Nat.le_of_ble_eq_true rfl) dX6_capacityFor_59 ⟨Nat.le_of_ble_eq_true rfl, Nat.le_of_ble_eq_true rfl⟩ (fun H locs hP hS => ?_)
    refine lv_iload_n C.1 C.2.1 dX6_capacityFor_62 rfl (lv_at hl 3 rfl) ?_
    refine lv_icmp_lt (tgt := 69) C.1 C.2.1 dX6_capacityFor_63 (by decide) (fun c5 => ?_) (fun c5 => ?_)
    · have h := if_t c5 h
      obtain ⟨z6, ez6, h⟩ := lt_out h
      refine lv_iinc (v := z6) (lv' := [(4, .int z6), (0, .ref (ad 89)), (1, .int x1), (2, .int x2), (3, .int x3)]) C.1 C.2.1 dX6_capacityFor_69 hl (k := 4) rfl (by rw [ez6]; rfl) (by decide) rfl (fun ls hl => ?_)
      refine lv_goto (tgt := 47) C.1 C.2.1 dX6_capacityFor_72 (by decide) ?_
      exact hK47 hP hS (lv_sub hl [1, 2, 3, 4, 0] rfl)  h
    · have h := if_f c5 h
      refine lv_iload C.1 C.2.1 dX6_capacityFor_66 (lv_at hl 4 rfl) ?_
      cases h
      exact k_iret C hP hS dX6_capacityFor_68
set_option maxRecDepth 100000 in
set_option maxHeartbeats 4000000 in
theorem w_X6_capacityFor_h47 {res : Int32 × SL} (C : Cx p s m args meth c cX6_capacityFor 5 (some .int) RX6 wsX6_capacityFor) (G : Gx D cs ad s) {Ls : Nat → SL} {Hs : SL} {T : SL} {dr : Int64} {hs : Int64} {o : Int64} {od : UInt64} : ∀ (n : Nat) {M : SL} {x1 : Int32} {x2 : Int32} {x3 : Int32} {x4 : Int32} {H : Heap} {locs : List Loc} {ls : Array Slot}, va_P D vwCl (wA cs ad Ls Hs T M dr hs o od) H → va_S (Afr ad s.heap.size) s.heap H locs → lv_has ls 5 [(0, .ref (ad 89)), (1, .int x1), (2, .int x2), (3, .int x3), (4, .int x4)] → f_X6_capacityFor_h47 n M x1 x2 x3 x4 = some res → W p l e rmX6_capacityFor s m args below meth c H locs 0 0 (MQ below (va_Qi (fun r' (_ : Unit) => r' = res.1) (fun _ t => va_P D vwCl (wA cs ad Ls Hs T res.2 dr hs o od) t.heap) (Afr ad s.heap.size)) args s 0 0 (Afr ad s.heap.size)) (F0 m 47 ls []) := by
  intro n
  induction n with
  | zero => intro M x1 x2 x3 x4 H locs ls hP hS hl  h; cases h
  | succ n ih => intro M x1 x2 x3 x4 H locs ls hP hS hl  h; exact w_X6_capacityFor_b47 C G    ih hP hS hl  h
set_option maxRecDepth 100000 in
set_option maxHeartbeats 4000000 in
theorem w_X6_capacityFor_b36 {res : Int32 × SL} (C : Cx p s m args meth c cX6_capacityFor 5 (some .int) RX6 wsX6_capacityFor) (G : Gx D cs ad s) {Ls : Nat → SL} {Hs : SL} {T : SL} {dr : Int64} {hs : Int64} {o : Int64} {od : UInt64} {M : SL} {x1 : Int32} {x2 : Int32} {x3 : Int32} {s1 : Int32} {H : Heap} {locs : List Loc} {ls : Array Slot} (hP : va_P D vwCl (wA cs ad Ls Hs T M dr hs o od) H) (hS : va_S (Afr ad s.heap.size) s.heap H locs) (hl : lv_has ls 5 [(0, .ref (ad 89)), (1, .int x1), (2, .int x2), (3, .int x3)]) (h : f_X6_capacityFor_b36 M x1 x2 x3 s1 = some res) : W p l e rmX6_capacityFor s m args below meth c H locs 0 0 (MQ below (va_Qi (fun r' (_ : Unit) => r' = res.1) (fun _ t => va_P D vwCl (wA cs ad Ls Hs T res.2 dr hs o od) t.heap) (Afr ad s.heap.size)) args s 0 0 (Afr ad s.heap.size)) (F0 m 36 ls [.int s1, .ref (ad 89)]) := by
  unfold f_X6_capacityFor_b36 at h
  obtain ⟨r1, M2, c3, h⟩ := bd2_out h
  refine k_callVi C G hP hS (m_X6_refused l G.2.1 _  c3) r_obj rfl (cwV 1 C.2.2.2.2.2.1 gX6_capacityFor_X6_refused rfl rfl rfl (by decide +kernel) ⟨Nat.le_of_ble_eq_true rfl, Nat.le_of_ble_eq_true rfl⟩) (As := [.int s1]) rfl hl.1 rfl (Nat.le_of_ble_eq_true rfl) dX6_capacityFor_36 ⟨Nat.le_of_ble_eq_true rfl, Nat.le_of_ble_eq_true rfl⟩ (fun H locs hP hS => ?_)
  refine lv_if_eq (tgt := 44) C.1 C.2.1 dX6_capacityFor_39 (by decide) (fun c4 => ?_) (fun c4 => ?_)
  · have h := if_t c4 h
    refine lv_iconst (v := 0) C.1 C.2.1 dX6_capacityFor_44 (by decide) ?_
    refine lv_istore (lv' := [(4, .int 0), (0, .ref (ad 89)), (1, .int x1), (2, .int x2), (3, .int x3)]) C.1 C.2.1 dX6_capacityFor_45 hl (by decide) rfl (fun ls hl => ?_)
    exact w_X6_capacityFor_h47 C G fuel hP hS (lv_sub hl [1, 2, 3, 4, 0] rfl) h
  · have h := if_f c4 h
    refine lv_iconst (v := 0) C.1 C.2.1 dX6_capacityFor_42 (by decide) ?_
    cases h
    exact k_iret C hP hS dX6_capacityFor_43
set_option maxRecDepth 100000 in
set_option maxHeartbeats 4000000 in
theorem w_X6_capacityFor_b35 {res : Int32 × SL} (C : Cx p s m args meth c cX6_capacityFor 5 (some .int) RX6 wsX6_capacityFor) (G : Gx D cs ad s) {Ls : Nat → SL} {Hs : SL} {T : SL} {dr : Int64} {hs : Int64} {o : Int64} {od : UInt64} {M : SL} {x1 : Int32} {x2 : Int32} {x3 : Int32} {H : Heap} {locs : List Loc} {ls : Array Slot} (hP : va_P D vwCl (wA cs ad Ls Hs T M dr hs o od) H) (hS : va_S (Afr ad s.heap.size) s.heap H locs) (hl : lv_has ls 5 [(0, .ref (ad 89)), (1, .int x1), (2, .int x2), (3, .int x3)]) (h : f_X6_capacityFor_b35 M x1 x2 x3 = some res) : W p l e rmX6_capacityFor s m args below meth c H locs 0 0 (MQ below (va_Qi (fun r' (_ : Unit) => r' = res.1) (fun _ t => va_P D vwCl (wA cs ad Ls Hs T res.2 dr hs o od) t.heap) (Afr ad s.heap.size)) args s 0 0 (Afr ad s.heap.size)) (F0 m 35 ls [.ref (ad 89)]) := by
  unfold f_X6_capacityFor_b35 at h
  refine lv_iconst (v := 2) C.1 C.2.1 dX6_capacityFor_35 (by decide) ?_
  exact w_X6_capacityFor_b36 C G hP hS (lv_sub hl [0, 1, 2, 3] rfl) h
set_option maxRecDepth 100000 in
set_option maxHeartbeats 4000000 in
theorem w_X6_capacityFor_e {res : Int32 × SL} (C : Cx p s m args meth c cX6_capacityFor 5 (some .int) RX6 wsX6_capacityFor) (G : Gx D cs ad s) {Ls : Nat → SL} {Hs : SL} {T : SL} {dr : Int64} {hs : Int64} {o : Int64} {od : UInt64} {M : SL} {x1 : Int32} {x2 : Int32} {x3 : Int32} {H : Heap} {locs : List Loc} {ls : Array Slot} (hP : va_P D vwCl (wA cs ad Ls Hs T M dr hs o od) H) (hS : va_S (Afr ad s.heap.size) s.heap H locs) (hl : lv_has ls 5 [(0, .ref (ad 89)), (1, .int x1), (2, .int x2), (3, .int x3)]) (h : f_X6_capacityFor M x1 x2 x3 = some res) : W p l e rmX6_capacityFor s m args below meth c H locs 0 0 (MQ below (va_Qi (fun r' (_ : Unit) => r' = res.1) (fun _ t => va_P D vwCl (wA cs ad Ls Hs T res.2 dr hs o od) t.heap) (Afr ad s.heap.size)) args s 0 0 (Afr ad s.heap.size)) (F0 m 0 ls []) := by
  unfold f_X6_capacityFor at h
  refine lv_aload_n C.1 C.2.1 dX6_capacityFor_0 rfl (lv_at hl 0 rfl) ?_
  refine lv_aload_n C.1 C.2.1 dX6_capacityFor_1 rfl (lv_at hl 0 rfl) ?_
  refine lv_iload_n C.1 C.2.1 dX6_capacityFor_2 rfl (lv_at hl 1 rfl) ?_
  obtain ⟨r1, c2, h⟩ := bd_out h
  refine k_callVi C G hP hS (m_X6_isMachine l G.2.1 _  c2) r_obj rfl (cwV 1 C.2.2.2.2.2.1 gX6_capacityFor_X6_isMachine rfl rfl rfl (by decide +kernel) ⟨Nat.le_of_ble_eq_true rfl, Nat.le_of_ble_eq_true rfl⟩) (As := [.int x1]) rfl hl.1 rfl (Nat.le_of_ble_eq_true rfl) dX6_capacityFor_3 ⟨Nat.le_of_ble_eq_true rfl, Nat.le_of_ble_eq_true rfl⟩ (fun H locs hP hS => ?_)
  refine lv_if_ne (tgt := 13) C.1 C.2.1 dX6_capacityFor_6 (by decide) (fun c3 => ?_) (fun c3 => ?_)
  · have h := if_t c3 h
    refine lv_iload_n C.1 C.2.1 dX6_capacityFor_13 rfl (lv_at hl 2 rfl) ?_
    obtain ⟨r4, c5, h⟩ := bd_out h
    refine k_callSi C G hP hS (m_X6_areTicks l G.2.1 _  c5) (va_cwS 1 C.2.2.2.2.2.1 gX6_capacityFor_X6_areTicks rfl rfl rfl (by decide +kernel) ⟨Nat.le_of_ble_eq_true rfl, Nat.le_of_ble_eq_true rfl⟩) (As := [.int x2]) rfl hl.1 rfl (Nat.le_of_ble_eq_true rfl) dX6_capacityFor_14 ⟨Nat.le_of_ble_eq_true rfl, Nat.le_of_ble_eq_true rfl⟩ (fun H locs hP hS => ?_)
    refine lv_if_eq (tgt := 35) C.1 C.2.1 dX6_capacityFor_17 (by decide) (fun c6 => ?_) (fun c6 => ?_)
    · have h := if_t c6 h
      exact w_X6_capacityFor_b35 C G hP hS (lv_sub hl [0, 1, 2, 3] rfl) h
    · have h := if_f c6 h
      refine lv_iload_n C.1 C.2.1 dX6_capacityFor_20 rfl (lv_at hl 3 rfl) ?_
      refine lv_iconst (v := 0) C.1 C.2.1 dX6_capacityFor_21 (by decide) ?_
      refine lv_sipush (v := 2000) C.1 C.2.1 dX6_capacityFor_22 (by decide) ?_
      obtain ⟨r7, c8, h⟩ := bd_out h
      refine k_callSi C G hP hS (m_X6_within l G.2.1 _  c8) (va_cwS 3 C.2.2.2.2.2.1 gX6_capacityFor_X6_within rfl rfl rfl (by decide +kernel) ⟨Nat.le_of_ble_eq_true rfl, Nat.le_of_ble_eq_true rfl⟩) (As := [.int x3, .int 0, .int 2000]) rfl hl.1 rfl (Nat.le_of_ble_eq_true rfl) dX6_capacityFor_25 ⟨Nat.le_of_ble_eq_true rfl, Nat.le_of_ble_eq_true rfl⟩ (fun H locs hP hS => ?_)
      refine lv_if_eq (tgt := 35) C.1 C.2.1 dX6_capacityFor_28 (by decide) (fun c9 => ?_) (fun c9 => ?_)
      · have h := if_t c9 h
        exact w_X6_capacityFor_b35 C G hP hS (lv_sub hl [0, 1, 2, 3] rfl) h
      · have h := if_f c9 h
        refine lv_iconst (v := 0) C.1 C.2.1 dX6_capacityFor_31 (by decide) ?_
        refine lv_goto (tgt := 36) C.1 C.2.1 dX6_capacityFor_32 (by decide) ?_
        exact w_X6_capacityFor_b36 C G hP hS (lv_sub hl [0, 1, 2, 3] rfl) h
  · have h := if_n c3 h
    refine lv_iconst (v := 1) C.1 C.2.1 dX6_capacityFor_9 (by decide) ?_
    refine lv_goto (tgt := 36) C.1 C.2.1 dX6_capacityFor_10 (by decide) ?_
    exact w_X6_capacityFor_b36 C G hP hS (lv_sub hl [0, 1, 2, 3] rfl) h
set_option maxRecDepth 100000 in
set_option maxHeartbeats 4000000 in
theorem m_X6_capacityFor (l : Launch) {D : va_G} {cs : Nat → ClassId} {ad : Nat → Nat} (hAd : adOK ad) (sz : Nat) {Ls : Nat → SL} {Hs : SL} {T : SL} {M : SL} {dr : Int64} {hs : Int64} {o : Int64} {od : UInt64} {x1 : Int32} {x2 : Int32} {x3 : Int32} {res : Int32 × SL} (h : f_X6_capacityFor M x1 x2 x3 = some res) : Met l yX6_capacityFor wsX6_capacityFor rmX6_capacityFor (PA D cs sz (wA cs ad Ls Hs T M dr hs o od) [.ref (ad 89), .int x1, .int x2, .int x3]) (va_Qi (fun r' (_ : Unit) => r' = res.1) (fun _ t => va_P D vwCl (wA cs ad Ls Hs T res.2 dr hs o od) t.heap) (Afr ad sz)) 0 0 (Afr ad sz) :=
  k_met (by decide) rfl (Nat.le_of_ble_eq_true rfl) hAd (fun p e s m below meth c ls C G hP hsz hl hS => by
    subst hsz
    exact w_X6_capacityFor_e C G  hP hS hl  h)
/-! X6 bestBuffer -/
abbrev rmX6_bestBuffer : Room := { frames := 6, cells := 0, slots := 0, locals := 139 }
theorem q_X6_bestBuffer_0 : Cond.fieldLink RX6 7 "LineBuffersModel" "now" "[I" ∈ wsX6_bestBuffer := List.mem_of_getElem? (i := 1) rfl
theorem n_X6_bestBuffer_X6 : ∀ x ∈ u_ws RX6 TX6 12, x ∈ wsX6_bestBuffer := fun x h => List.mem_cons_of_mem _ (List.mem_append_right _ h)
set_option maxRecDepth 100000 in
set_option maxHeartbeats 4000000 in
theorem w_X6_bestBuffer_b133 {res : Int32 × SL} (C : Cx p s m args meth c cX6_bestBuffer 8 (some .int) RX6 wsX6_bestBuffer) (G : Gx D cs ad s) {Ls : Nat → SL} {Hs : SL} {T : SL} {dr : Int64} {hs : Int64} {o : Int64} {od : UInt64} {K53 : SL → Int32 → Int32 → Int32 → Int32 → Int32 → Option (Int32 × SL)} (hK53 : ∀ {M : SL} {x1 : Int32} {x2 : Int32} {x3 : Int32} {x4 : Int32} {x5 : Int32} {H : Heap} {locs : List Loc} {ls : Array Slot}, va_P D vwCl (wA cs ad Ls Hs T M dr hs o od) H → va_S (Afr ad s.heap.size) s.heap H locs → lv_has ls 8 [(0, .ref (ad 89)), (1, .int x1), (2, .int x2), (3, .int x3), (4, .int x4), (5, .int x5)] → K53 M x1 x2 x3 x4 x5 = some res → W p l e rmX6_bestBuffer s m args below meth c H locs 0 0 (MQ below (va_Qi (fun r' (_ : Unit) => r' = res.1) (fun _ t => va_P D vwCl (wA cs ad Ls Hs T res.2 dr hs o od) t.heap) (Afr ad s.heap.size)) args s 0 0 (Afr ad s.heap.size)) (F0 m 53 ls [])) {M : SL} {x1 : Int32} {x2 : Int32} {x3 : Int32} {x5 : Int32} {s0 : Int32} {H : Heap} {locs : List Loc} {ls : Array Slot} (hP : va_P D vwCl (wA cs ad Ls Hs T M dr hs o od) H) (hS : va_S (Afr ad s.heap.size) s.heap H locs) (hl : lv_has ls 8 [(0, .ref (ad 89)), (1, .int x1), (2, .int x2), (3, .int x3), (5, .int x5)]) (h : f_X6_bestBuffer_b133 K53 M x1 x2 x3 x5 s0 = some res) : W p l e rmX6_bestBuffer s m args below meth c H locs 0 0 (MQ below (va_Qi (fun r' (_ : Unit) => r' = res.1) (fun _ t => va_P D vwCl (wA cs ad Ls Hs T res.2 dr hs o od) t.heap) (Afr ad s.heap.size)) args s 0 0 (Afr ad s.heap.size)) (F0 m 133 ls [.int s0]) := by
  unfold f_X6_bestBuffer_b133 at h
  refine lv_istore (lv' := [(4, .int s0), (0, .ref (ad 89)), (1, .int x1), (2, .int x2), (3, .int x3), (5, .int x5)]) C.1 C.2.1 dX6_bestBuffer_133 hl (by decide) rfl (fun ls hl => ?_)
  obtain ⟨z1, ez1, h⟩ := lt_out h
  refine lv_iinc (v := z1) (lv' := [(5, .int z1), (4, .int s0), (0, .ref (ad 89)), (1, .int x1), (2, .int x2), (3, .int x3)]) C.1 C.2.1 dX6_bestBuffer_135 hl (k := 5) rfl (by rw [ez1]; rfl) (by decide) rfl (fun ls hl => ?_)
  refine lv_goto (tgt := 53) C.1 C.2.1 dX6_bestBuffer_138 (by decide) ?_
  exact hK53 hP hS (lv_sub hl [2, 3, 4, 5, 1, 0] rfl)  h
set_option maxRecDepth 100000 in
set_option maxHeartbeats 4000000 in
theorem w_X6_bestBuffer_b118 {res : Int32 × SL} (C : Cx p s m args meth c cX6_bestBuffer 8 (some .int) RX6 wsX6_bestBuffer) (G : Gx D cs ad s) {Ls : Nat → SL} {Hs : SL} {T : SL} {dr : Int64} {hs : Int64} {o : Int64} {od : UInt64} {K53 : SL → Int32 → Int32 → Int32 → Int32 → Int32 → Option (Int32 × SL)} (hK53 : ∀ {M : SL} {x1 : Int32} {x2 : Int32} {x3 : Int32} {x4 : Int32} {x5 : Int32} {H : Heap} {locs : List Loc} {ls : Array Slot}, va_P D vwCl (wA cs ad Ls Hs T M dr hs o od) H → va_S (Afr ad s.heap.size) s.heap H locs → lv_has ls 8 [(0, .ref (ad 89)), (1, .int x1), (2, .int x2), (3, .int x3), (4, .int x4), (5, .int x5)] → K53 M x1 x2 x3 x4 x5 = some res → W p l e rmX6_bestBuffer s m args below meth c H locs 0 0 (MQ below (va_Qi (fun r' (_ : Unit) => r' = res.1) (fun _ t => va_P D vwCl (wA cs ad Ls Hs T res.2 dr hs o od) t.heap) (Afr ad s.heap.size)) args s 0 0 (Afr ad s.heap.size)) (F0 m 53 ls [])) {M : SL} {x1 : Int32} {x2 : Int32} {x4 : Int32} {x5 : Int32} {x7 : Int32} {s0 : Int32} {H : Heap} {locs : List Loc} {ls : Array Slot} (hP : va_P D vwCl (wA cs ad Ls Hs T M dr hs o od) H) (hS : va_S (Afr ad s.heap.size) s.heap H locs) (hl : lv_has ls 8 [(0, .ref (ad 89)), (1, .int x1), (2, .int x2), (4, .int x4), (5, .int x5), (7, .int x7)]) (h : f_X6_bestBuffer_b118 K53 M x1 x2 x4 x5 x7 s0 = some res) : W p l e rmX6_bestBuffer s m args below meth c H locs 0 0 (MQ below (va_Qi (fun r' (_ : Unit) => r' = res.1) (fun _ t => va_P D vwCl (wA cs ad Ls Hs T res.2 dr hs o od) t.heap) (Afr ad s.heap.size)) args s 0 0 (Afr ad s.heap.size)) (F0 m 118 ls [.int s0]) := by
  unfold f_X6_bestBuffer_b118 at h
  refine lv_istore_n (lv' := [(3, .int s0), (0, .ref (ad 89)), (1, .int x1), (2, .int x2), (4, .int x4), (5, .int x5), (7, .int x7)]) C.1 C.2.1 dX6_bestBuffer_118 rfl hl (by decide) rfl (fun ls hl => ?_)
  refine lv_iload C.1 C.2.1 dX6_bestBuffer_119 (lv_at hl 6 rfl) ?_
  refine lv_iload C.1 C.2.1 dX6_bestBuffer_121 (lv_at hl 4 rfl) ?_
  refine lv_icmp_le (tgt := 131) C.1 C.2.1 dX6_bestBuffer_123 (by decide) (fun c1 => ?_) (fun c1 => ?_)
  · have h := if_t c1 h
    refine lv_iload C.1 C.2.1 dX6_bestBuffer_131 (lv_at hl 4 rfl) ?_
    exact w_X6_bestBuffer_b133 C G hK53 hP hS (lv_sub hl [1, 2, 3, 0, 5] rfl) h
  · have h := if_f c1 h
    refine lv_iload C.1 C.2.1 dX6_bestBuffer_126 (lv_at hl 6 rfl) ?_
    refine lv_goto (tgt := 133) C.1 C.2.1 dX6_bestBuffer_128 (by decide) ?_
    exact w_X6_bestBuffer_b133 C G hK53 hP hS (lv_sub hl [1, 2, 3, 0, 5] rfl) h
set_option maxRecDepth 100000 in
set_option maxHeartbeats 4000000 in
theorem w_X6_bestBuffer_b99 {res : Int32 × SL} (C : Cx p s m args meth c cX6_bestBuffer 8 (some .int) RX6 wsX6_bestBuffer) (G : Gx D cs ad s) {Ls : Nat → SL} {Hs : SL} {T : SL} {dr : Int64} {hs : Int64} {o : Int64} {od : UInt64} {K53 : SL → Int32 → Int32 → Int32 → Int32 → Int32 → Option (Int32 × SL)} (hK53 : ∀ {M : SL} {x1 : Int32} {x2 : Int32} {x3 : Int32} {x4 : Int32} {x5 : Int32} {H : Heap} {locs : List Loc} {ls : Array Slot}, va_P D vwCl (wA cs ad Ls Hs T M dr hs o od) H → va_S (Afr ad s.heap.size) s.heap H locs → lv_has ls 8 [(0, .ref (ad 89)), (1, .int x1), (2, .int x2), (3, .int x3), (4, .int x4), (5, .int x5)] → K53 M x1 x2 x3 x4 x5 = some res → W p l e rmX6_bestBuffer s m args below meth c H locs 0 0 (MQ below (va_Qi (fun r' (_ : Unit) => r' = res.1) (fun _ t => va_P D vwCl (wA cs ad Ls Hs T res.2 dr hs o od) t.heap) (Afr ad s.heap.size)) args s 0 0 (Afr ad s.heap.size)) (F0 m 53 ls [])) {M : SL} {x1 : Int32} {x2 : Int32} {x3 : Int32} {x4 : Int32} {x5 : Int32} {s1 : Int32} {s2 : Int32} {H : Heap} {locs : List Loc} {ls : Array Slot} (hP : va_P D vwCl (wA cs ad Ls Hs T M dr hs o od) H) (hS : va_S (Afr ad s.heap.size) s.heap H locs) (hl : lv_has ls 8 [(0, .ref (ad 89)), (1, .int x1), (2, .int x2), (3, .int x3), (4, .int x4), (5, .int x5)]) (h : f_X6_bestBuffer_b99 K53 M x1 x2 x3 x4 x5 s1 s2 = some res) : W p l e rmX6_bestBuffer s m args below meth c H locs 0 0 (MQ below (va_Qi (fun r' (_ : Unit) => r' = res.1) (fun _ t => va_P D vwCl (wA cs ad Ls Hs T res.2 dr hs o od) t.heap) (Afr ad s.heap.size)) args s 0 0 (Afr ad s.heap.size)) (F0 m 99 ls [.int s2, .int s1, .ref (ad 89)]) := by
  unfold f_X6_bestBuffer_b99 at h
  refine lv_iload_n C.1 C.2.1 dX6_bestBuffer_99 rfl (lv_at hl 1 rfl) ?_
  obtain ⟨r1, M2, c3, h⟩ := bd2_out h
  refine k_callVi C G hP hS (m_X6_madeWith l G.2.1 _  c3) r_obj rfl (cwV 3 C.2.2.2.2.2.1 gX6_bestBuffer_X6_madeWith rfl rfl rfl (by decide +kernel) ⟨Nat.le_of_ble_eq_true rfl, Nat.le_of_ble_eq_true rfl⟩) (As := [.int s1, .int s2, .int x1]) rfl hl.1 rfl (Nat.le_of_ble_eq_true rfl) dX6_bestBuffer_100 ⟨Nat.le_of_ble_eq_true rfl, Nat.le_of_ble_eq_true rfl⟩ (fun H locs hP hS => ?_)
  refine lv_istore (lv' := [(7, .int r1), (0, .ref (ad 89)), (1, .int x1), (2, .int x2), (3, .int x3), (4, .int x4), (5, .int x5)]) C.1 C.2.1 dX6_bestBuffer_103 hl (by decide) rfl (fun ls hl => ?_)
  refine lv_iload C.1 C.2.1 dX6_bestBuffer_105 (lv_at hl 0 rfl) ?_
  refine lv_iload C.1 C.2.1 dX6_bestBuffer_107 (lv_at hl 5 rfl) ?_
  refine lv_icmp_le (tgt := 117) C.1 C.2.1 dX6_bestBuffer_109 (by decide) (fun c4 => ?_) (fun c4 => ?_)
  · have h := if_t c4 h
    refine lv_iload_n C.1 C.2.1 dX6_bestBuffer_117 rfl (lv_at hl 4 rfl) ?_
    exact w_X6_bestBuffer_b118 C G hK53 hP hS (lv_sub hl [1, 2, 3, 5, 6, 0] rfl) h
  · have h := if_f c4 h
    refine lv_iload C.1 C.2.1 dX6_bestBuffer_112 (lv_at hl 6 rfl) ?_
    refine lv_goto (tgt := 118) C.1 C.2.1 dX6_bestBuffer_114 (by decide) ?_
    exact w_X6_bestBuffer_b118 C G hK53 hP hS (lv_sub hl [1, 2, 3, 5, 6, 0] rfl) h
set_option maxRecDepth 100000 in
set_option maxHeartbeats 4000000 in
theorem w_X6_bestBuffer_b53 {res : Int32 × SL} (C : Cx p s m args meth c cX6_bestBuffer 8 (some .int) RX6 wsX6_bestBuffer) (G : Gx D cs ad s) {Ls : Nat → SL} {Hs : SL} {T : SL} {dr : Int64} {hs : Int64} {o : Int64} {od : UInt64} {K53 : SL → Int32 → Int32 → Int32 → Int32 → Int32 → Option (Int32 × SL)} (hK53 : ∀ {M : SL} {x1 : Int32} {x2 : Int32} {x3 : Int32} {x4 : Int32} {x5 : Int32} {H : Heap} {locs : List Loc} {ls : Array Slot}, va_P D vwCl (wA cs ad Ls Hs T M dr hs o od) H → va_S (Afr ad s.heap.size) s.heap H locs → lv_has ls 8 [(0, .ref (ad 89)), (1, .int x1), (2, .int x2), (3, .int x3), (4, .int x4), (5, .int x5)] → K53 M x1 x2 x3 x4 x5 = some res → W p l e rmX6_bestBuffer s m args below meth c H locs 0 0 (MQ below (va_Qi (fun r' (_ : Unit) => r' = res.1) (fun _ t => va_P D vwCl (wA cs ad Ls Hs T res.2 dr hs o od) t.heap) (Afr ad s.heap.size)) args s 0 0 (Afr ad s.heap.size)) (F0 m 53 ls [])) {M : SL} {x1 : Int32} {x2 : Int32} {x3 : Int32} {x4 : Int32} {x5 : Int32} {H : Heap} {locs : List Loc} {ls : Array Slot} (hP : va_P D vwCl (wA cs ad Ls Hs T M dr hs o od) H) (hS : va_S (Afr ad s.heap.size) s.heap H locs) (hl : lv_has ls 8 [(0, .ref (ad 89)), (1, .int x1), (2, .int x2), (3, .int x3), (4, .int x4), (5, .int x5)]) (h : f_X6_bestBuffer_b53 K53 M x1 x2 x3 x4 x5 = some res) : W p l e rmX6_bestBuffer s m args below meth c H locs 0 0 (MQ below (va_Qi (fun r' (_ : Unit) => r' = res.1) (fun _ t => va_P D vwCl (wA cs ad Ls Hs T res.2 dr hs o od) t.heap) (Afr ad s.heap.size)) args s 0 0 (Afr ad s.heap.size)) (F0 m 53 ls []) := by
  unfold f_X6_bestBuffer_b53 at h
  refine lv_iload C.1 C.2.1 dX6_bestBuffer_53 (lv_at hl 5 rfl) ?_
  refine lv_aload_n C.1 C.2.1 dX6_bestBuffer_55 rfl (lv_at hl 0 rfl) ?_
  refine k_getf C G hP r_obj rfl 0 (by decide) n_X6_bestBuffer_X6 q_X6_bestBuffer_0 (v := .ref (ad (89 + 1))) rfl dX6_bestBuffer_56 ?_
  refine lv_iconst (v := 0) C.1 C.2.1 dX6_bestBuffer_59 (by decide) ?_
  obtain ⟨v1, ev1, h⟩ := lt_out h
  refine k_iald C G hP (r_arr (k := 1) (by decide)) (chk_in rfl) (j := 0) rfl ev1 dX6_bestBuffer_60 ?_
  refine lv_iconst (v := 1) C.1 C.2.1 dX6_bestBuffer_61 (by decide) ?_
  obtain ⟨v2, ev2, h⟩ := lt_out h
  refine k_isub C ev2 dX6_bestBuffer_62 ?_
  refine lv_icmp_ge (tgt := 141) C.1 C.2.1 dX6_bestBuffer_63 (by decide) (fun c3 => ?_) (fun c3 => ?_)
  · have h := if_t c3 h
    refine lv_iload_n C.1 C.2.1 dX6_bestBuffer_141 rfl (lv_at hl 3 rfl) ?_
    cases h
    exact k_iret C hP hS dX6_bestBuffer_142
  · have h := if_f c3 h
    refine lv_aload_n C.1 C.2.1 dX6_bestBuffer_66 rfl (lv_at hl 0 rfl) ?_
    refine k_getf C G hP r_obj rfl 0 (by decide) n_X6_bestBuffer_X6 q_X6_bestBuffer_0 (v := .ref (ad (89 + 1))) rfl dX6_bestBuffer_67 ?_
    refine lv_iload C.1 C.2.1 dX6_bestBuffer_70 (lv_at hl 5 rfl) ?_
    obtain ⟨r4, c5, h⟩ := bd_out h
    refine k_callSi C G hP hS (m_X6_of l G.2.1 _  c5) (va_cwS 1 C.2.2.2.2.2.1 gX6_bestBuffer_X6_of rfl rfl rfl (by decide +kernel) ⟨Nat.le_of_ble_eq_true rfl, Nat.le_of_ble_eq_true rfl⟩) (As := [.int x5]) rfl hl.1 rfl (Nat.le_of_ble_eq_true rfl) dX6_bestBuffer_72 ⟨Nat.le_of_ble_eq_true rfl, Nat.le_of_ble_eq_true rfl⟩ (fun H locs hP hS => ?_)
    refine lv_iconst (v := 4) C.1 C.2.1 dX6_bestBuffer_75 (by decide) ?_
    obtain ⟨v6, ev6, h⟩ := lt_out h
    refine k_iadd C ev6 dX6_bestBuffer_76 ?_
    obtain ⟨g7, h⟩ := gd_out h
    have g7 := chk_in g7
    obtain ⟨v8, ev8, h⟩ := lt_out h
    refine k_iald C G hP (r_arr (k := 1) (by decide)) g7 (j := v6.toNatClampNeg) rfl ev8 dX6_bestBuffer_77 ?_
    refine lv_iload_n C.1 C.2.1 dX6_bestBuffer_78 rfl (lv_at hl 2 rfl) ?_
    obtain ⟨v9, ev9, h⟩ := lt_out h
    refine k_iadd C ev9 dX6_bestBuffer_79 ?_
    refine lv_istore (lv' := [(6, .int v9), (0, .ref (ad 89)), (1, .int x1), (2, .int x2), (3, .int x3), (4, .int x4), (5, .int x5)]) C.1 C.2.1 dX6_bestBuffer_80 hl (by decide) rfl (fun ls hl => ?_)
    refine lv_aload_n C.1 C.2.1 dX6_bestBuffer_82 rfl (lv_at hl 1 rfl) ?_
    refine lv_iload C.1 C.2.1 dX6_bestBuffer_83 (lv_at hl 6 rfl) ?_
    refine lv_iload C.1 C.2.1 dX6_bestBuffer_85 (lv_at hl 0 rfl) ?_
    refine lv_bipush (v := 40) C.1 C.2.1 dX6_bestBuffer_87 (by decide) ?_
    refine lv_icmp_le (tgt := 97) C.1 C.2.1 dX6_bestBuffer_89 (by decide) (fun c10 => ?_) (fun c10 => ?_)
    · have h := if_t c10 h
      refine lv_iload C.1 C.2.1 dX6_bestBuffer_97 (lv_at hl 0 rfl) ?_
      exact w_X6_bestBuffer_b99 C G hK53 hP hS (lv_sub hl [1, 2, 3, 4, 5, 6] rfl) h
    · have h := if_f c10 h
      refine lv_bipush (v := 40) C.1 C.2.1 dX6_bestBuffer_92 (by decide) ?_
      refine lv_goto (tgt := 99) C.1 C.2.1 dX6_bestBuffer_94 (by decide) ?_
      exact w_X6_bestBuffer_b99 C G hK53 hP hS (lv_sub hl [1, 2, 3, 4, 5, 6] rfl) h
set_option maxRecDepth 100000 in
set_option maxHeartbeats 4000000 in
theorem w_X6_bestBuffer_h53 {res : Int32 × SL} (C : Cx p s m args meth c cX6_bestBuffer 8 (some .int) RX6 wsX6_bestBuffer) (G : Gx D cs ad s) {Ls : Nat → SL} {Hs : SL} {T : SL} {dr : Int64} {hs : Int64} {o : Int64} {od : UInt64} : ∀ (n : Nat) {M : SL} {x1 : Int32} {x2 : Int32} {x3 : Int32} {x4 : Int32} {x5 : Int32} {H : Heap} {locs : List Loc} {ls : Array Slot}, va_P D vwCl (wA cs ad Ls Hs T M dr hs o od) H → va_S (Afr ad s.heap.size) s.heap H locs → lv_has ls 8 [(0, .ref (ad 89)), (1, .int x1), (2, .int x2), (3, .int x3), (4, .int x4), (5, .int x5)] → f_X6_bestBuffer_h53 n M x1 x2 x3 x4 x5 = some res → W p l e rmX6_bestBuffer s m args below meth c H locs 0 0 (MQ below (va_Qi (fun r' (_ : Unit) => r' = res.1) (fun _ t => va_P D vwCl (wA cs ad Ls Hs T res.2 dr hs o od) t.heap) (Afr ad s.heap.size)) args s 0 0 (Afr ad s.heap.size)) (F0 m 53 ls []) := by
  intro n
  induction n with
  | zero => intro M x1 x2 x3 x4 x5 H locs ls hP hS hl  h; cases h
  | succ n ih => intro M x1 x2 x3 x4 x5 H locs ls hP hS hl  h; exact w_X6_bestBuffer_b53 C G    ih hP hS hl  h
set_option maxRecDepth 100000 in
set_option maxHeartbeats 4000000 in
theorem w_X6_bestBuffer_b37 {res : Int32 × SL} (C : Cx p s m args meth c cX6_bestBuffer 8 (some .int) RX6 wsX6_bestBuffer) (G : Gx D cs ad s) {Ls : Nat → SL} {Hs : SL} {T : SL} {dr : Int64} {hs : Int64} {o : Int64} {od : UInt64} {M : SL} {x1 : Int32} {x2 : Int32} {s1 : Int32} {H : Heap} {locs : List Loc} {ls : Array Slot} (hP : va_P D vwCl (wA cs ad Ls Hs T M dr hs o od) H) (hS : va_S (Afr ad s.heap.size) s.heap H locs) (hl : lv_has ls 8 [(0, .ref (ad 89)), (1, .int x1), (2, .int x2)]) (h : f_X6_bestBuffer_b37 M x1 x2 s1 = some res) : W p l e rmX6_bestBuffer s m args below meth c H locs 0 0 (MQ below (va_Qi (fun r' (_ : Unit) => r' = res.1) (fun _ t => va_P D vwCl (wA cs ad Ls Hs T res.2 dr hs o od) t.heap) (Afr ad s.heap.size)) args s 0 0 (Afr ad s.heap.size)) (F0 m 37 ls [.int s1, .ref (ad 89)]) := by
  unfold f_X6_bestBuffer_b37 at h
  obtain ⟨r1, M2, c3, h⟩ := bd2_out h
  refine k_callVi C G hP hS (m_X6_refused l G.2.1 _  c3) r_obj rfl (cwV 1 C.2.2.2.2.2.1 gX6_bestBuffer_X6_refused rfl rfl rfl (by decide +kernel) ⟨Nat.le_of_ble_eq_true rfl, Nat.le_of_ble_eq_true rfl⟩) (As := [.int s1]) rfl hl.1 rfl (Nat.le_of_ble_eq_true rfl) dX6_bestBuffer_37 ⟨Nat.le_of_ble_eq_true rfl, Nat.le_of_ble_eq_true rfl⟩ (fun H locs hP hS => ?_)
  refine lv_if_eq (tgt := 45) C.1 C.2.1 dX6_bestBuffer_40 (by decide) (fun c4 => ?_) (fun c4 => ?_)
  · have h := if_t c4 h
    refine lv_iconst (v := 0) C.1 C.2.1 dX6_bestBuffer_45 (by decide) ?_
    refine lv_istore_n (lv' := [(3, .int 0), (0, .ref (ad 89)), (1, .int x1), (2, .int x2)]) C.1 C.2.1 dX6_bestBuffer_46 rfl hl (by decide) rfl (fun ls hl => ?_)
    refine lv_iconst (v := (-1)) C.1 C.2.1 dX6_bestBuffer_47 (by decide) ?_
    refine lv_istore (lv' := [(4, .int (-1)), (3, .int 0), (0, .ref (ad 89)), (1, .int x1), (2, .int x2)]) C.1 C.2.1 dX6_bestBuffer_48 hl (by decide) rfl (fun ls hl => ?_)
    refine lv_iconst (v := 0) C.1 C.2.1 dX6_bestBuffer_50 (by decide) ?_
    refine lv_istore (lv' := [(5, .int 0), (4, .int (-1)), (3, .int 0), (0, .ref (ad 89)), (1, .int x1), (2, .int x2)]) C.1 C.2.1 dX6_bestBuffer_51 hl (by decide) rfl (fun ls hl => ?_)
    exact w_X6_bestBuffer_h53 C G fuel hP hS (lv_sub hl [3, 4, 5, 2, 1, 0] rfl) h
  · have h := if_f c4 h
    refine lv_iconst (v := 0) C.1 C.2.1 dX6_bestBuffer_43 (by decide) ?_
    cases h
    exact k_iret C hP hS dX6_bestBuffer_44
set_option maxRecDepth 100000 in
set_option maxHeartbeats 4000000 in
theorem w_X6_bestBuffer_b18 {res : Int32 × SL} (C : Cx p s m args meth c cX6_bestBuffer 8 (some .int) RX6 wsX6_bestBuffer) (G : Gx D cs ad s) {Ls : Nat → SL} {Hs : SL} {T : SL} {dr : Int64} {hs : Int64} {o : Int64} {od : UInt64} {M : SL} {x1 : Int32} {x2 : Int32} {H : Heap} {locs : List Loc} {ls : Array Slot} (hP : va_P D vwCl (wA cs ad Ls Hs T M dr hs o od) H) (hS : va_S (Afr ad s.heap.size) s.heap H locs) (hl : lv_has ls 8 [(0, .ref (ad 89)), (1, .int x1), (2, .int x2)]) (h : f_X6_bestBuffer_b18 M x1 x2 = some res) : W p l e rmX6_bestBuffer s m args below meth c H locs 0 0 (MQ below (va_Qi (fun r' (_ : Unit) => r' = res.1) (fun _ t => va_P D vwCl (wA cs ad Ls Hs T res.2 dr hs o od) t.heap) (Afr ad s.heap.size)) args s 0 0 (Afr ad s.heap.size)) (F0 m 18 ls [.ref (ad 89)]) := by
  unfold f_X6_bestBuffer_b18 at h
  refine lv_iconst (v := 1) C.1 C.2.1 dX6_bestBuffer_18 (by decide) ?_
  refine lv_goto (tgt := 37) C.1 C.2.1 dX6_bestBuffer_19 (by decide) ?_
  exact w_X6_bestBuffer_b37 C G hP hS (lv_sub hl [0, 1, 2] rfl) h
set_option maxRecDepth 100000 in
set_option maxHeartbeats 4000000 in
theorem w_X6_bestBuffer_e {res : Int32 × SL} (C : Cx p s m args meth c cX6_bestBuffer 8 (some .int) RX6 wsX6_bestBuffer) (G : Gx D cs ad s) {Ls : Nat → SL} {Hs : SL} {T : SL} {dr : Int64} {hs : Int64} {o : Int64} {od : UInt64} {M : SL} {x1 : Int32} {x2 : Int32} {H : Heap} {locs : List Loc} {ls : Array Slot} (hP : va_P D vwCl (wA cs ad Ls Hs T M dr hs o od) H) (hS : va_S (Afr ad s.heap.size) s.heap H locs) (hl : lv_has ls 8 [(0, .ref (ad 89)), (1, .int x1), (2, .int x2)]) (h : f_X6_bestBuffer M x1 x2 = some res) : W p l e rmX6_bestBuffer s m args below meth c H locs 0 0 (MQ below (va_Qi (fun r' (_ : Unit) => r' = res.1) (fun _ t => va_P D vwCl (wA cs ad Ls Hs T res.2 dr hs o od) t.heap) (Afr ad s.heap.size)) args s 0 0 (Afr ad s.heap.size)) (F0 m 0 ls []) := by
  unfold f_X6_bestBuffer at h
  refine lv_aload_n C.1 C.2.1 dX6_bestBuffer_0 rfl (lv_at hl 0 rfl) ?_
  refine lv_iload_n C.1 C.2.1 dX6_bestBuffer_1 rfl (lv_at hl 1 rfl) ?_
  obtain ⟨r1, c2, h⟩ := bd_out h
  refine k_callSi C G hP hS (m_X6_areTicks l G.2.1 _  c2) (va_cwS 1 C.2.2.2.2.2.1 gX6_bestBuffer_X6_areTicks rfl rfl rfl (by decide +kernel) ⟨Nat.le_of_ble_eq_true rfl, Nat.le_of_ble_eq_true rfl⟩) (As := [.int x1]) rfl hl.1 rfl (Nat.le_of_ble_eq_true rfl) dX6_bestBuffer_2 ⟨Nat.le_of_ble_eq_true rfl, Nat.le_of_ble_eq_true rfl⟩ (fun H locs hP hS => ?_)
  refine lv_if_eq (tgt := 18) C.1 C.2.1 dX6_bestBuffer_5 (by decide) (fun c3 => ?_) (fun c3 => ?_)
  · have h := if_t c3 h
    exact w_X6_bestBuffer_b18 C G hP hS (lv_sub hl [0, 1, 2] rfl) h
  · have h := if_f c3 h
    refine lv_iload_n C.1 C.2.1 dX6_bestBuffer_8 rfl (lv_at hl 2 rfl) ?_
    refine lv_iconst (v := 1) C.1 C.2.1 dX6_bestBuffer_9 (by decide) ?_
    refine lv_bipush (v := 40) C.1 C.2.1 dX6_bestBuffer_10 (by decide) ?_
    obtain ⟨r4, c5, h⟩ := bd_out h
    refine k_callSi C G hP hS (m_X6_within l G.2.1 _  c5) (va_cwS 3 C.2.2.2.2.2.1 gX6_bestBuffer_X6_within rfl rfl rfl (by decide +kernel) ⟨Nat.le_of_ble_eq_true rfl, Nat.le_of_ble_eq_true rfl⟩) (As := [.int x2, .int 1, .int 40]) rfl hl.1 rfl (Nat.le_of_ble_eq_true rfl) dX6_bestBuffer_12 ⟨Nat.le_of_ble_eq_true rfl, Nat.le_of_ble_eq_true rfl⟩ (fun H locs hP hS => ?_)
    refine lv_if_ne (tgt := 22) C.1 C.2.1 dX6_bestBuffer_15 (by decide) (fun c6 => ?_) (fun c6 => ?_)
    · have h := if_t c6 h
      refine lv_aload_n C.1 C.2.1 dX6_bestBuffer_22 rfl (lv_at hl 0 rfl) ?_
      refine k_getf C G hP r_obj rfl 0 (by decide) n_X6_bestBuffer_X6 q_X6_bestBuffer_0 (v := .ref (ad (89 + 1))) rfl dX6_bestBuffer_23 ?_
      refine lv_iconst (v := 0) C.1 C.2.1 dX6_bestBuffer_26 (by decide) ?_
      obtain ⟨v7, ev7, h⟩ := lt_out h
      refine k_iald C G hP (r_arr (k := 1) (by decide)) (chk_in rfl) (j := 0) rfl ev7 dX6_bestBuffer_27 ?_
      refine lv_iconst (v := 2) C.1 C.2.1 dX6_bestBuffer_28 (by decide) ?_
      refine lv_icmp_ge (tgt := 36) C.1 C.2.1 dX6_bestBuffer_29 (by decide) (fun c8 => ?_) (fun c8 => ?_)
      · have h := if_t c8 h
        refine lv_iconst (v := 0) C.1 C.2.1 dX6_bestBuffer_36 (by decide) ?_
        exact w_X6_bestBuffer_b37 C G hP hS (lv_sub hl [0, 1, 2] rfl) h
      · have h := if_f c8 h
        refine lv_iconst (v := 2) C.1 C.2.1 dX6_bestBuffer_32 (by decide) ?_
        refine lv_goto (tgt := 37) C.1 C.2.1 dX6_bestBuffer_33 (by decide) ?_
        exact w_X6_bestBuffer_b37 C G hP hS (lv_sub hl [0, 1, 2] rfl) h
    · have h := if_n c6 h
      exact w_X6_bestBuffer_b18 C G hP hS (lv_sub hl [0, 1, 2] rfl) h
set_option maxRecDepth 100000 in
set_option maxHeartbeats 4000000 in
theorem m_X6_bestBuffer (l : Launch) {D : va_G} {cs : Nat → ClassId} {ad : Nat → Nat} (hAd : adOK ad) (sz : Nat) {Ls : Nat → SL} {Hs : SL} {T : SL} {M : SL} {dr : Int64} {hs : Int64} {o : Int64} {od : UInt64} {x1 : Int32} {x2 : Int32} {res : Int32 × SL} (h : f_X6_bestBuffer M x1 x2 = some res) : Met l yX6_bestBuffer wsX6_bestBuffer rmX6_bestBuffer (PA D cs sz (wA cs ad Ls Hs T M dr hs o od) [.ref (ad 89), .int x1, .int x2]) (va_Qi (fun r' (_ : Unit) => r' = res.1) (fun _ t => va_P D vwCl (wA cs ad Ls Hs T res.2 dr hs o od) t.heap) (Afr ad sz)) 0 0 (Afr ad sz) :=
  k_met (by decide) rfl (Nat.le_of_ble_eq_true rfl) hAd (fun p e s m below meth c ls C G hP hsz hl hS => by
    subst hsz
    exact w_X6_bestBuffer_e C G  hP hS hl  h)
/-! X6 append -/
abbrev rmX6_append : Room := { frames := 1, cells := 0, slots := 0, locals := 22 }
theorem q_X6_append_0 : Cond.fieldLink RX6 151 "LineBuffersModel" "length" "I" ∈ wsX6_append := List.mem_of_getElem? (i := 1) rfl
theorem q_X6_append_1 : Cond.fieldLink RX6 19 "LineBuffersModel" "text" "[I" ∈ wsX6_append := List.mem_of_getElem? (i := 2) rfl
theorem n_X6_append_X6 : ∀ x ∈ u_ws RX6 TX6 12, x ∈ wsX6_append := fun x h => List.mem_cons_of_mem _ (List.mem_append_right _ h)
set_option maxRecDepth 100000 in
set_option maxHeartbeats 4000000 in
theorem w_X6_append_b29 {res : Int32 × SL} (C : Cx p s m args meth c cX6_append 2 (some .int) RX6 wsX6_append) (G : Gx D cs ad s) {Ls : Nat → SL} {Hs : SL} {T : SL} {dr : Int64} {hs : Int64} {o : Int64} {od : UInt64} {M : SL} {x1 : Int32} {s1 : Int32} {H : Heap} {locs : List Loc} {ls : Array Slot} (hP : va_P D vwCl (wA cs ad Ls Hs T M dr hs o od) H) (hS : va_S (Afr ad s.heap.size) s.heap H locs) (hl : lv_has ls 2 [(0, .ref (ad 89)), (1, .int x1)]) (h : f_X6_append_b29 M x1 s1 = some res) : W p l e rmX6_append s m args below meth c H locs 0 0 (MQ below (va_Qi (fun r' (_ : Unit) => r' = res.1) (fun _ t => va_P D vwCl (wA cs ad Ls Hs T res.2 dr hs o od) t.heap) (Afr ad s.heap.size)) args s 0 0 (Afr ad s.heap.size)) (F0 m 29 ls [.int s1, .ref (ad 89)]) := by
  unfold f_X6_append_b29 at h
  obtain ⟨r1, M2, c3, h⟩ := bd2_out h
  refine k_callVi C G hP hS (m_X6_refused l G.2.1 _  c3) r_obj rfl (cwV 1 C.2.2.2.2.2.1 gX6_append_X6_refused rfl rfl rfl (by decide +kernel) ⟨Nat.le_of_ble_eq_true rfl, Nat.le_of_ble_eq_true rfl⟩) (As := [.int s1]) rfl hl.1 rfl (Nat.le_of_ble_eq_true rfl) dX6_append_29 ⟨Nat.le_of_ble_eq_true rfl, Nat.le_of_ble_eq_true rfl⟩ (fun H locs hP hS => ?_)
  refine lv_if_eq (tgt := 37) C.1 C.2.1 dX6_append_32 (by decide) (fun c4 => ?_) (fun c4 => ?_)
  · have h := if_t c4 h
    refine lv_aload_n C.1 C.2.1 dX6_append_37 rfl (lv_at hl 0 rfl) ?_
    refine k_getf C G hP r_obj rfl 5 (by decide) n_X6_append_X6 q_X6_append_1 (v := .ref (ad (89 + 4))) rfl dX6_append_38 ?_
    refine lv_aload_n C.1 C.2.1 dX6_append_41 rfl (lv_at hl 0 rfl) ?_
    obtain ⟨v5, ev5, h⟩ := lt_out h
    refine k_geti C G hP r_obj rfl 6 (by decide) n_X6_append_X6 q_X6_append_0 rfl ev5 dX6_append_42 ?_
    refine lv_iload_n C.1 C.2.1 dX6_append_45 rfl (lv_at hl 1 rfl) ?_
    obtain ⟨g6, h⟩ := gd_out h
    have g6 := chk_in g6
    obtain ⟨M7, eM7, h⟩ := lt_out h
    refine k_iast C G hP hS (r_arr (k := 4) (by decide)) g6 (j := v5.toNatClampNeg) rfl (r_arrS (k := 4) (by decide)) dX6_append_46 (fun H locs hP hS => ?_)
    rw [← eM7] at hP
    refine lv_aload_n C.1 C.2.1 dX6_append_47 rfl (lv_at hl 0 rfl) ?_
    refine lv_dup C.1 C.2.1 dX6_append_48 rfl ?_
    obtain ⟨v8, ev8, h⟩ := lt_out h
    refine k_geti C G hP r_obj rfl 6 (by decide) n_X6_append_X6 q_X6_append_0 rfl ev8 dX6_append_49 ?_
    refine lv_iconst (v := 1) C.1 C.2.1 dX6_append_52 (by decide) ?_
    obtain ⟨v9, ev9, h⟩ := lt_out h
    refine k_iadd C ev9 dX6_append_53 ?_
    obtain ⟨M10, eM10, h⟩ := lt_out h
    refine k_puti C G hP hS r_obj rfl 6 (by decide) n_X6_append_X6 q_X6_append_0 tyX6_ok nmX6 rfl (tyX6_ok 6 (by decide)) (Nat.le_of_ble_eq_true rfl) r_objS6 dX6_append_54 (fun H locs hP hS => ?_)
    rw [← eM10] at hP
    refine lv_aload_n C.1 C.2.1 dX6_append_57 rfl (lv_at hl 0 rfl) ?_
    obtain ⟨v11, ev11, h⟩ := lt_out h
    refine k_geti C G hP r_obj rfl 6 (by decide) n_X6_append_X6 q_X6_append_0 rfl ev11 dX6_append_58 ?_
    cases h
    exact k_iret C hP hS dX6_append_61
  · have h := if_f c4 h
    refine lv_iconst (v := 0) C.1 C.2.1 dX6_append_35 (by decide) ?_
    cases h
    exact k_iret C hP hS dX6_append_36
set_option maxRecDepth 100000 in
set_option maxHeartbeats 4000000 in
theorem w_X6_append_e {res : Int32 × SL} (C : Cx p s m args meth c cX6_append 2 (some .int) RX6 wsX6_append) (G : Gx D cs ad s) {Ls : Nat → SL} {Hs : SL} {T : SL} {dr : Int64} {hs : Int64} {o : Int64} {od : UInt64} {M : SL} {x1 : Int32} {H : Heap} {locs : List Loc} {ls : Array Slot} (hP : va_P D vwCl (wA cs ad Ls Hs T M dr hs o od) H) (hS : va_S (Afr ad s.heap.size) s.heap H locs) (hl : lv_has ls 2 [(0, .ref (ad 89)), (1, .int x1)]) (h : f_X6_append M x1 = some res) : W p l e rmX6_append s m args below meth c H locs 0 0 (MQ below (va_Qi (fun r' (_ : Unit) => r' = res.1) (fun _ t => va_P D vwCl (wA cs ad Ls Hs T res.2 dr hs o od) t.heap) (Afr ad s.heap.size)) args s 0 0 (Afr ad s.heap.size)) (F0 m 0 ls []) := by
  unfold f_X6_append at h
  refine lv_aload_n C.1 C.2.1 dX6_append_0 rfl (lv_at hl 0 rfl) ?_
  refine lv_iload_n C.1 C.2.1 dX6_append_1 rfl (lv_at hl 1 rfl) ?_
  refine lv_iconst (v := 0) C.1 C.2.1 dX6_append_2 (by decide) ?_
  refine lv_bipush (v := 127) C.1 C.2.1 dX6_append_3 (by decide) ?_
  obtain ⟨r1, c2, h⟩ := bd_out h
  refine k_callSi C G hP hS (m_X6_within l G.2.1 _  c2) (va_cwS 3 C.2.2.2.2.2.1 gX6_append_X6_within rfl rfl rfl (by decide +kernel) ⟨Nat.le_of_ble_eq_true rfl, Nat.le_of_ble_eq_true rfl⟩) (As := [.int x1, .int 0, .int 127]) rfl hl.1 rfl (Nat.le_of_ble_eq_true rfl) dX6_append_5 ⟨Nat.le_of_ble_eq_true rfl, Nat.le_of_ble_eq_true rfl⟩ (fun H locs hP hS => ?_)
  refine lv_if_ne (tgt := 15) C.1 C.2.1 dX6_append_8 (by decide) (fun c3 => ?_) (fun c3 => ?_)
  · have h := if_t c3 h
    refine lv_aload_n C.1 C.2.1 dX6_append_15 rfl (lv_at hl 0 rfl) ?_
    obtain ⟨v4, ev4, h⟩ := lt_out h
    refine k_geti C G hP r_obj rfl 6 (by decide) n_X6_append_X6 q_X6_append_0 rfl ev4 dX6_append_16 ?_
    refine lv_bipush (v := 120) C.1 C.2.1 dX6_append_19 (by decide) ?_
    refine lv_icmp_ne (tgt := 28) C.1 C.2.1 dX6_append_21 (by decide) (fun c5 => ?_) (fun c5 => ?_)
    · have h := if_t c5 h
      refine lv_iconst (v := 0) C.1 C.2.1 dX6_append_28 (by decide) ?_
      exact w_X6_append_b29 C G hP hS (lv_sub hl [0, 1] rfl) h
    · have h := if_n c5 h
      refine lv_iconst (v := 2) C.1 C.2.1 dX6_append_24 (by decide) ?_
      refine lv_goto (tgt := 29) C.1 C.2.1 dX6_append_25 (by decide) ?_
      exact w_X6_append_b29 C G hP hS (lv_sub hl [0, 1] rfl) h
  · have h := if_n c3 h
    refine lv_iconst (v := 1) C.1 C.2.1 dX6_append_11 (by decide) ?_
    refine lv_goto (tgt := 29) C.1 C.2.1 dX6_append_12 (by decide) ?_
    exact w_X6_append_b29 C G hP hS (lv_sub hl [0, 1] rfl) h
set_option maxRecDepth 100000 in
set_option maxHeartbeats 4000000 in
theorem m_X6_append (l : Launch) {D : va_G} {cs : Nat → ClassId} {ad : Nat → Nat} (hAd : adOK ad) (sz : Nat) {Ls : Nat → SL} {Hs : SL} {T : SL} {M : SL} {dr : Int64} {hs : Int64} {o : Int64} {od : UInt64} {x1 : Int32} {res : Int32 × SL} (h : f_X6_append M x1 = some res) : Met l yX6_append wsX6_append rmX6_append (PA D cs sz (wA cs ad Ls Hs T M dr hs o od) [.ref (ad 89), .int x1]) (va_Qi (fun r' (_ : Unit) => r' = res.1) (fun _ t => va_P D vwCl (wA cs ad Ls Hs T res.2 dr hs o od) t.heap) (Afr ad sz)) 0 0 (Afr ad sz) :=
  k_met (by decide) rfl (Nat.le_of_ble_eq_true rfl) hAd (fun p e s m below meth c ls C G hP hsz hl hS => by
    subst hsz
    exact w_X6_append_e C G  hP hS hl  h)
/-! X6 clearText -/
abbrev rmX6_clearText : Room := { frames := 0, cells := 0, slots := 0, locals := 0 }
theorem q_X6_clearText_0 : Cond.fieldLink RX6 25 "LineBuffersModel" "refusal" "I" ∈ wsX6_clearText := List.mem_of_getElem? (i := 1) rfl
theorem q_X6_clearText_1 : Cond.fieldLink RX6 151 "LineBuffersModel" "length" "I" ∈ wsX6_clearText := List.mem_of_getElem? (i := 2) rfl
theorem n_X6_clearText_X6 : ∀ x ∈ u_ws RX6 TX6 12, x ∈ wsX6_clearText := fun x h => List.mem_cons_of_mem _ (List.mem_append_right _ h)
set_option maxRecDepth 100000 in
set_option maxHeartbeats 4000000 in
theorem w_X6_clearText_e {res : Int32 × SL} (C : Cx p s m args meth c cX6_clearText 2 (some .int) RX6 wsX6_clearText) (G : Gx D cs ad s) {Ls : Nat → SL} {Hs : SL} {T : SL} {dr : Int64} {hs : Int64} {o : Int64} {od : UInt64} {M : SL} {H : Heap} {locs : List Loc} {ls : Array Slot} (hP : va_P D vwCl (wA cs ad Ls Hs T M dr hs o od) H) (hS : va_S (Afr ad s.heap.size) s.heap H locs) (hl : lv_has ls 2 [(0, .ref (ad 89))]) (h : f_X6_clearText M = some res) : W p l e rmX6_clearText s m args below meth c H locs 0 0 (MQ below (va_Qi (fun r' (_ : Unit) => r' = res.1) (fun _ t => va_P D vwCl (wA cs ad Ls Hs T res.2 dr hs o od) t.heap) (Afr ad s.heap.size)) args s 0 0 (Afr ad s.heap.size)) (F0 m 0 ls []) := by
  unfold f_X6_clearText at h
  refine lv_aload_n C.1 C.2.1 dX6_clearText_0 rfl (lv_at hl 0 rfl) ?_
  refine lv_iconst (v := 0) C.1 C.2.1 dX6_clearText_1 (by decide) ?_
  obtain ⟨M1, eM1, h⟩ := lt_out h
  refine k_puti C G hP hS r_obj rfl 4 (by decide) n_X6_clearText_X6 q_X6_clearText_0 tyX6_ok nmX6 rfl (tyX6_ok 4 (by decide)) (Nat.le_of_ble_eq_true rfl) r_objS4 dX6_clearText_2 (fun H locs hP hS => ?_)
  rw [← eM1] at hP
  refine lv_aload_n C.1 C.2.1 dX6_clearText_5 rfl (lv_at hl 0 rfl) ?_
  obtain ⟨v2, ev2, h⟩ := lt_out h
  refine k_geti C G hP r_obj rfl 6 (by decide) n_X6_clearText_X6 q_X6_clearText_1 rfl ev2 dX6_clearText_6 ?_
  refine lv_istore_n (lv' := [(1, .int v2), (0, .ref (ad 89))]) C.1 C.2.1 dX6_clearText_9 rfl hl (by decide) rfl (fun ls hl => ?_)
  refine lv_aload_n C.1 C.2.1 dX6_clearText_10 rfl (lv_at hl 1 rfl) ?_
  refine lv_iconst (v := 0) C.1 C.2.1 dX6_clearText_11 (by decide) ?_
  obtain ⟨M3, eM3, h⟩ := lt_out h
  refine k_puti C G hP hS r_obj rfl 6 (by decide) n_X6_clearText_X6 q_X6_clearText_1 tyX6_ok nmX6 rfl (tyX6_ok 6 (by decide)) (Nat.le_of_ble_eq_true rfl) r_objS6 dX6_clearText_12 (fun H locs hP hS => ?_)
  rw [← eM3] at hP
  refine lv_iload_n C.1 C.2.1 dX6_clearText_15 rfl (lv_at hl 0 rfl) ?_
  cases h
  exact k_iret C hP hS dX6_clearText_16
set_option maxRecDepth 100000 in
set_option maxHeartbeats 4000000 in
theorem m_X6_clearText (l : Launch) {D : va_G} {cs : Nat → ClassId} {ad : Nat → Nat} (hAd : adOK ad) (sz : Nat) {Ls : Nat → SL} {Hs : SL} {T : SL} {M : SL} {dr : Int64} {hs : Int64} {o : Int64} {od : UInt64} {res : Int32 × SL} (h : f_X6_clearText M = some res) : Met l yX6_clearText wsX6_clearText rmX6_clearText (PA D cs sz (wA cs ad Ls Hs T M dr hs o od) [.ref (ad 89)]) (va_Qi (fun r' (_ : Unit) => r' = res.1) (fun _ t => va_P D vwCl (wA cs ad Ls Hs T res.2 dr hs o od) t.heap) (Afr ad sz)) 0 0 (Afr ad sz) :=
  k_met (by decide) rfl (Nat.le_of_ble_eq_true rfl) hAd (fun p e s m below meth c ls C G hP hsz hl hS => by
    subst hsz
    exact w_X6_clearText_e C G  hP hS hl  h)
/-! X6 isAt -/
abbrev rmX6_isAt : Room := { frames := 1, cells := 0, slots := 0, locals := 22 }
theorem q_X6_isAt_0 : Cond.fieldLink RX6 154 "LineBuffersModel" "spot" "I" ∈ wsX6_isAt := List.mem_of_getElem? (i := 1) rfl
theorem q_X6_isAt_1 : Cond.fieldLink RX6 151 "LineBuffersModel" "length" "I" ∈ wsX6_isAt := List.mem_of_getElem? (i := 2) rfl
theorem q_X6_isAt_2 : Cond.fieldLink RX6 19 "LineBuffersModel" "text" "[I" ∈ wsX6_isAt := List.mem_of_getElem? (i := 3) rfl
theorem n_X6_isAt_X6 : ∀ x ∈ u_ws RX6 TX6 12, x ∈ wsX6_isAt := fun x h => List.mem_cons_of_mem _ (List.mem_append_right _ h)
set_option maxRecDepth 100000 in
set_option maxHeartbeats 4000000 in
theorem w_X6_isAt_b32 {res : Int32} (C : Cx p s m args meth c cX6_isAt 3 (some .boolean) RX6 wsX6_isAt) (G : Gx D cs ad s) {Ls : Nat → SL} {Hs : SL} {T : SL} {dr : Int64} {hs : Int64} {o : Int64} {od : UInt64} {M : SL} {H : Heap} {locs : List Loc} {ls : Array Slot} (hP : va_P D vwCl (wA cs ad Ls Hs T M dr hs o od) H) (hS : va_S (Afr ad s.heap.size) s.heap H locs) (hl : lv_has ls 3 []) (h : f_X6_isAt_b32 M = some res) : W p l e rmX6_isAt s m args below meth c H locs 0 0 (MQ below (va_Qi (fun r' (_ : Unit) => r' = res) (fun _ t => va_P D vwCl (wA cs ad Ls Hs T M dr hs o od) t.heap) (Afr ad s.heap.size)) args s 0 0 (Afr ad s.heap.size)) (F0 m 32 ls []) := by
  unfold f_X6_isAt_b32 at h
  refine lv_iconst (v := 0) C.1 C.2.1 dX6_isAt_32 (by decide) ?_
  cases h
  exact k_zret C hP hS nar_0 dX6_isAt_33
set_option maxRecDepth 100000 in
set_option maxHeartbeats 4000000 in
theorem w_X6_isAt_e {res : Int32} (C : Cx p s m args meth c cX6_isAt 3 (some .boolean) RX6 wsX6_isAt) (G : Gx D cs ad s) {Ls : Nat → SL} {Hs : SL} {T : SL} {dr : Int64} {hs : Int64} {o : Int64} {od : UInt64} {M : SL} {x1 : Int32} {x2 : Int32} {H : Heap} {locs : List Loc} {ls : Array Slot} (hP : va_P D vwCl (wA cs ad Ls Hs T M dr hs o od) H) (hS : va_S (Afr ad s.heap.size) s.heap H locs) (hl : lv_has ls 3 [(0, .ref (ad 89)), (1, .int x1), (2, .int x2)]) (h : f_X6_isAt M x1 x2 = some res) : W p l e rmX6_isAt s m args below meth c H locs 0 0 (MQ below (va_Qi (fun r' (_ : Unit) => r' = res) (fun _ t => va_P D vwCl (wA cs ad Ls Hs T M dr hs o od) t.heap) (Afr ad s.heap.size)) args s 0 0 (Afr ad s.heap.size)) (F0 m 0 ls []) := by
  unfold f_X6_isAt at h
  refine lv_aload_n C.1 C.2.1 dX6_isAt_0 rfl (lv_at hl 0 rfl) ?_
  obtain ⟨v1, ev1, h⟩ := lt_out h
  refine k_geti C G hP r_obj rfl 9 (by decide) n_X6_isAt_X6 q_X6_isAt_0 rfl ev1 dX6_isAt_1 ?_
  refine lv_aload_n C.1 C.2.1 dX6_isAt_4 rfl (lv_at hl 0 rfl) ?_
  obtain ⟨v2, ev2, h⟩ := lt_out h
  refine k_geti C G hP r_obj rfl 6 (by decide) n_X6_isAt_X6 q_X6_isAt_1 rfl ev2 dX6_isAt_5 ?_
  refine lv_icmp_ge (tgt := 32) C.1 C.2.1 dX6_isAt_8 (by decide) (fun c3 => ?_) (fun c3 => ?_)
  · have h := if_t c3 h
    exact w_X6_isAt_b32 C G hP hS (lv_sub hl [] rfl) h
  · have h := if_f c3 h
    refine lv_aload_n C.1 C.2.1 dX6_isAt_11 rfl (lv_at hl 0 rfl) ?_
    refine k_getf C G hP r_obj rfl 5 (by decide) n_X6_isAt_X6 q_X6_isAt_2 (v := .ref (ad (89 + 4))) rfl dX6_isAt_12 ?_
    refine lv_aload_n C.1 C.2.1 dX6_isAt_15 rfl (lv_at hl 0 rfl) ?_
    obtain ⟨v4, ev4, h⟩ := lt_out h
    refine k_geti C G hP r_obj rfl 9 (by decide) n_X6_isAt_X6 q_X6_isAt_0 rfl ev4 dX6_isAt_16 ?_
    obtain ⟨g5, h⟩ := gd_out h
    have g5 := chk_in g5
    obtain ⟨v6, ev6, h⟩ := lt_out h
    refine k_iald C G hP (r_arr (k := 4) (by decide)) g5 (j := v4.toNatClampNeg) rfl ev6 dX6_isAt_19 ?_
    refine lv_iload_n C.1 C.2.1 dX6_isAt_20 rfl (lv_at hl 1 rfl) ?_
    refine lv_iload_n C.1 C.2.1 dX6_isAt_21 rfl (lv_at hl 2 rfl) ?_
    obtain ⟨r7, c8, h⟩ := bd_out h
    refine k_callSi C G hP hS (m_X6_within l G.2.1 _  c8) (va_cwS 3 C.2.2.2.2.2.1 gX6_isAt_X6_within rfl rfl rfl (by decide +kernel) ⟨Nat.le_of_ble_eq_true rfl, Nat.le_of_ble_eq_true rfl⟩) (As := [.int v6, .int x1, .int x2]) rfl hl.1 rfl (Nat.le_of_ble_eq_true rfl) dX6_isAt_22 ⟨Nat.le_of_ble_eq_true rfl, Nat.le_of_ble_eq_true rfl⟩ (fun H locs hP hS => ?_)
    refine lv_if_eq (tgt := 32) C.1 C.2.1 dX6_isAt_25 (by decide) (fun c9 => ?_) (fun c9 => ?_)
    · have h := if_t c9 h
      exact w_X6_isAt_b32 C G hP hS (lv_sub hl [] rfl) h
    · have h := if_f c9 h
      refine lv_iconst (v := 1) C.1 C.2.1 dX6_isAt_28 (by decide) ?_
      refine lv_goto (tgt := 33) C.1 C.2.1 dX6_isAt_29 (by decide) ?_
      cases h
      exact k_zret C hP hS nar_1 dX6_isAt_33
set_option maxRecDepth 100000 in
set_option maxHeartbeats 4000000 in
theorem m_X6_isAt (l : Launch) {D : va_G} {cs : Nat → ClassId} {ad : Nat → Nat} (hAd : adOK ad) (sz : Nat) {Ls : Nat → SL} {Hs : SL} {T : SL} {M : SL} {dr : Int64} {hs : Int64} {o : Int64} {od : UInt64} {x1 : Int32} {x2 : Int32} {res : Int32} (h : f_X6_isAt M x1 x2 = some res) : Met l yX6_isAt wsX6_isAt rmX6_isAt (PA D cs sz (wA cs ad Ls Hs T M dr hs o od) [.ref (ad 89), .int x1, .int x2]) (va_Qi (fun r' (_ : Unit) => r' = res) (fun _ t => va_P D vwCl (wA cs ad Ls Hs T M dr hs o od) t.heap) (Afr ad sz)) 0 0 (Afr ad sz) :=
  k_met (by decide) rfl (Nat.le_of_ble_eq_true rfl) hAd (fun p e s m below meth c ls C G hP hsz hl hS => by
    subst hsz
    exact w_X6_isAt_e C G  hP hS hl  h)
/-! X6 sign -/
abbrev rmX6_sign : Room := { frames := 2, cells := 0, slots := 0, locals := 44 }
theorem q_X6_sign_0 : Cond.fieldLink RX6 154 "LineBuffersModel" "spot" "I" ∈ wsX6_sign := List.mem_of_getElem? (i := 1) rfl
theorem n_X6_sign_X6 : ∀ x ∈ u_ws RX6 TX6 12, x ∈ wsX6_sign := fun x h => List.mem_cons_of_mem _ (List.mem_append_right _ h)
set_option maxRecDepth 100000 in
set_option maxHeartbeats 4000000 in
theorem w_X6_sign_e {res : Int32 × SL} (C : Cx p s m args meth c cX6_sign 3 (some .boolean) RX6 wsX6_sign) (G : Gx D cs ad s) {Ls : Nat → SL} {Hs : SL} {T : SL} {dr : Int64} {hs : Int64} {o : Int64} {od : UInt64} {M : SL} {x1 : Int32} {H : Heap} {locs : List Loc} {ls : Array Slot} (hP : va_P D vwCl (wA cs ad Ls Hs T M dr hs o od) H) (hS : va_S (Afr ad s.heap.size) s.heap H locs) (hl : lv_has ls 3 [(0, .ref (ad 89)), (1, .int x1)]) (h : f_X6_sign M x1 = some res) : W p l e rmX6_sign s m args below meth c H locs 0 0 (MQ below (va_Qi (fun r' (_ : Unit) => r' = res.1) (fun _ t => va_P D vwCl (wA cs ad Ls Hs T res.2 dr hs o od) t.heap) (Afr ad s.heap.size)) args s 0 0 (Afr ad s.heap.size)) (F0 m 0 ls []) := by
  unfold f_X6_sign at h
  refine lv_aload_n C.1 C.2.1 dX6_sign_0 rfl (lv_at hl 0 rfl) ?_
  refine lv_iload_n C.1 C.2.1 dX6_sign_1 rfl (lv_at hl 1 rfl) ?_
  refine lv_iload_n C.1 C.2.1 dX6_sign_2 rfl (lv_at hl 1 rfl) ?_
  obtain ⟨r1, c2, h⟩ := bd_out h
  refine k_callVi C G hP hS (m_X6_isAt l G.2.1 _  c2) r_obj rfl (cwV 2 C.2.2.2.2.2.1 gX6_sign_X6_isAt rfl rfl rfl (by decide +kernel) ⟨Nat.le_of_ble_eq_true rfl, Nat.le_of_ble_eq_true rfl⟩) (As := [.int x1, .int x1]) rfl hl.1 rfl (Nat.le_of_ble_eq_true rfl) dX6_sign_3 ⟨Nat.le_of_ble_eq_true rfl, Nat.le_of_ble_eq_true rfl⟩ (fun H locs hP hS => ?_)
  refine lv_istore_n (lv' := [(2, .int r1), (0, .ref (ad 89)), (1, .int x1)]) C.1 C.2.1 dX6_sign_6 rfl hl (by decide) rfl (fun ls hl => ?_)
  refine lv_aload_n C.1 C.2.1 dX6_sign_7 rfl (lv_at hl 1 rfl) ?_
  refine lv_dup C.1 C.2.1 dX6_sign_8 rfl ?_
  obtain ⟨v3, ev3, h⟩ := lt_out h
  refine k_geti C G hP r_obj rfl 9 (by decide) n_X6_sign_X6 q_X6_sign_0 rfl ev3 dX6_sign_9 ?_
  refine lv_iload_n C.1 C.2.1 dX6_sign_12 rfl (lv_at hl 0 rfl) ?_
  refine lv_if_eq (tgt := 20) C.1 C.2.1 dX6_sign_13 (by decide) (fun c4 => ?_) (fun c4 => ?_)
  · have h := if_t c4 h
    refine lv_iconst (v := 0) C.1 C.2.1 dX6_sign_20 (by decide) ?_
    obtain ⟨v5, ev5, h⟩ := lt_out h
    refine k_iadd C ev5 dX6_sign_21 ?_
    obtain ⟨M6, eM6, h⟩ := lt_out h
    refine k_puti C G hP hS r_obj rfl 9 (by decide) n_X6_sign_X6 q_X6_sign_0 tyX6_ok nmX6 rfl (tyX6_ok 9 (by decide)) (Nat.le_of_ble_eq_true rfl) r_objS9 dX6_sign_22 (fun H locs hP hS => ?_)
    rw [← eM6] at hP
    refine lv_iload_n C.1 C.2.1 dX6_sign_25 rfl (lv_at hl 0 rfl) ?_
    obtain ⟨g7, h⟩ := gd_out h
    have g7 := isB_nar g7
    cases h
    exact k_zret C hP hS g7 dX6_sign_26
  · have h := if_f c4 h
    refine lv_iconst (v := 1) C.1 C.2.1 dX6_sign_16 (by decide) ?_
    refine lv_goto (tgt := 21) C.1 C.2.1 dX6_sign_17 (by decide) ?_
    obtain ⟨v8, ev8, h⟩ := lt_out h
    refine k_iadd C ev8 dX6_sign_21 ?_
    obtain ⟨M9, eM9, h⟩ := lt_out h
    refine k_puti C G hP hS r_obj rfl 9 (by decide) n_X6_sign_X6 q_X6_sign_0 tyX6_ok nmX6 rfl (tyX6_ok 9 (by decide)) (Nat.le_of_ble_eq_true rfl) r_objS9 dX6_sign_22 (fun H locs hP hS => ?_)
    rw [← eM9] at hP
    refine lv_iload_n C.1 C.2.1 dX6_sign_25 rfl (lv_at hl 0 rfl) ?_
    obtain ⟨g10, h⟩ := gd_out h
    have g10 := isB_nar g10
    cases h
    exact k_zret C hP hS g10 dX6_sign_26
set_option maxRecDepth 100000 in
set_option maxHeartbeats 4000000 in
theorem m_X6_sign (l : Launch) {D : va_G} {cs : Nat → ClassId} {ad : Nat → Nat} (hAd : adOK ad) (sz : Nat) {Ls : Nat → SL} {Hs : SL} {T : SL} {M : SL} {dr : Int64} {hs : Int64} {o : Int64} {od : UInt64} {x1 : Int32} {res : Int32 × SL} (h : f_X6_sign M x1 = some res) : Met l yX6_sign wsX6_sign rmX6_sign (PA D cs sz (wA cs ad Ls Hs T M dr hs o od) [.ref (ad 89), .int x1]) (va_Qi (fun r' (_ : Unit) => r' = res.1) (fun _ t => va_P D vwCl (wA cs ad Ls Hs T res.2 dr hs o od) t.heap) (Afr ad sz)) 0 0 (Afr ad sz) :=
  k_met (by decide) rfl (Nat.le_of_ble_eq_true rfl) hAd (fun p e s m below meth c ls C G hP hsz hl hS => by
    subst hsz
    exact w_X6_sign_e C G  hP hS hl  h)
/-! X6 number -/
abbrev rmX6_number : Room := { frames := 2, cells := 0, slots := 0, locals := 44 }
theorem q_X6_number_0 : Cond.fieldLink RX6 154 "LineBuffersModel" "spot" "I" ∈ wsX6_number := List.mem_of_getElem? (i := 1) rfl
theorem q_X6_number_1 : Cond.fieldLink RX6 160 "LineBuffersModel" "value" "I" ∈ wsX6_number := List.mem_of_getElem? (i := 2) rfl
theorem q_X6_number_2 : Cond.fieldLink RX6 19 "LineBuffersModel" "text" "[I" ∈ wsX6_number := List.mem_of_getElem? (i := 3) rfl
theorem n_X6_number_X6 : ∀ x ∈ u_ws RX6 TX6 12, x ∈ wsX6_number := fun x h => List.mem_cons_of_mem _ (List.mem_append_right _ h)
set_option maxRecDepth 100000 in
set_option maxHeartbeats 4000000 in
theorem w_X6_number_b68 {res : Int32 × SL} (C : Cx p s m args meth c cX6_number 5 (some .boolean) RX6 wsX6_number) (G : Gx D cs ad s) {Ls : Nat → SL} {Hs : SL} {T : SL} {dr : Int64} {hs : Int64} {o : Int64} {od : UInt64} {M : SL} {x1 : Int32} {x2 : Int32} {x3 : Int32} {H : Heap} {locs : List Loc} {ls : Array Slot} (hP : va_P D vwCl (wA cs ad Ls Hs T M dr hs o od) H) (hS : va_S (Afr ad s.heap.size) s.heap H locs) (hl : lv_has ls 5 [(0, .ref (ad 89)), (1, .int x1), (2, .int x2), (3, .int x3)]) (h : f_X6_number_b68 M x1 x2 x3 = some res) : W p l e rmX6_number s m args below meth c H locs 0 0 (MQ below (va_Qi (fun r' (_ : Unit) => r' = res.1) (fun _ t => va_P D vwCl (wA cs ad Ls Hs T res.2 dr hs o od) t.heap) (Afr ad s.heap.size)) args s 0 0 (Afr ad s.heap.size)) (F0 m 68 ls []) := by
  unfold f_X6_number_b68 at h
  refine lv_aload_n C.1 C.2.1 dX6_number_68 rfl (lv_at hl 0 rfl) ?_
  obtain ⟨v1, ev1, h⟩ := lt_out h
  refine k_geti C G hP r_obj rfl 9 (by decide) n_X6_number_X6 q_X6_number_0 rfl ev1 dX6_number_69 ?_
  refine lv_iload_n C.1 C.2.1 dX6_number_72 rfl (lv_at hl 3 rfl) ?_
  refine lv_icmp_eq (tgt := 87) C.1 C.2.1 dX6_number_73 (by decide) (fun c2 => ?_) (fun c2 => ?_)
  · have h := if_t c2 h
    refine lv_iconst (v := 0) C.1 C.2.1 dX6_number_87 (by decide) ?_
    cases h
    exact k_zret C hP hS nar_0 dX6_number_88
  · have h := if_f c2 h
    refine lv_aload_n C.1 C.2.1 dX6_number_76 rfl (lv_at hl 0 rfl) ?_
    refine lv_bipush (v := 48) C.1 C.2.1 dX6_number_77 (by decide) ?_
    refine lv_bipush (v := 57) C.1 C.2.1 dX6_number_79 (by decide) ?_
    obtain ⟨r3, c4, h⟩ := bd_out h
    refine k_callVi C G hP hS (m_X6_isAt l G.2.1 _  c4) r_obj rfl (cwV 2 C.2.2.2.2.2.1 gX6_number_X6_isAt rfl rfl rfl (by decide +kernel) ⟨Nat.le_of_ble_eq_true rfl, Nat.le_of_ble_eq_true rfl⟩) (As := [.int 48, .int 57]) rfl hl.1 rfl (Nat.le_of_ble_eq_true rfl) dX6_number_81 ⟨Nat.le_of_ble_eq_true rfl, Nat.le_of_ble_eq_true rfl⟩ (fun H locs hP hS => ?_)
    refine lv_if_eq (tgt := 89) C.1 C.2.1 dX6_number_84 (by decide) (fun c5 => ?_) (fun c5 => ?_)
    · have h := if_t c5 h
      refine lv_aload_n C.1 C.2.1 dX6_number_89 rfl (lv_at hl 0 rfl) ?_
      obtain ⟨v6, ev6, h⟩ := lt_out h
      refine k_geti C G hP r_obj rfl 10 (by decide) n_X6_number_X6 q_X6_number_1 rfl ev6 dX6_number_90 ?_
      refine lv_iload_n C.1 C.2.1 dX6_number_93 rfl (lv_at hl 1 rfl) ?_
      refine lv_iload_n C.1 C.2.1 dX6_number_94 rfl (lv_at hl 2 rfl) ?_
      obtain ⟨r7, c8, h⟩ := bd_out h
      refine k_callSi C G hP hS (m_X6_within l G.2.1 _  c8) (va_cwS 3 C.2.2.2.2.2.1 gX6_number_X6_within rfl rfl rfl (by decide +kernel) ⟨Nat.le_of_ble_eq_true rfl, Nat.le_of_ble_eq_true rfl⟩) (As := [.int v6, .int x1, .int x2]) rfl hl.1 rfl (Nat.le_of_ble_eq_true rfl) dX6_number_95 ⟨Nat.le_of_ble_eq_true rfl, Nat.le_of_ble_eq_true rfl⟩ (fun H locs hP hS => ?_)
      refine lv_istore (lv' := [(4, .int r7), (0, .ref (ad 89)), (1, .int x1), (2, .int x2), (3, .int x3)]) C.1 C.2.1 dX6_number_98 hl (by decide) rfl (fun ls hl => ?_)
      refine lv_aload_n C.1 C.2.1 dX6_number_100 rfl (lv_at hl 1 rfl) ?_
      refine lv_iload C.1 C.2.1 dX6_number_101 (lv_at hl 0 rfl) ?_
      refine lv_if_eq (tgt := 113) C.1 C.2.1 dX6_number_103 (by decide) (fun c9 => ?_) (fun c9 => ?_)
      · have h := if_t c9 h
        refine lv_iload_n C.1 C.2.1 dX6_number_113 rfl (lv_at hl 4 rfl) ?_
        obtain ⟨M10, eM10, h⟩ := lt_out h
        refine k_puti C G hP hS r_obj rfl 9 (by decide) n_X6_number_X6 q_X6_number_0 tyX6_ok nmX6 rfl (tyX6_ok 9 (by decide)) (Nat.le_of_ble_eq_true rfl) r_objS9 dX6_number_114 (fun H locs hP hS => ?_)
        rw [← eM10] at hP
        refine lv_iload C.1 C.2.1 dX6_number_117 (lv_at hl 0 rfl) ?_
        obtain ⟨g11, h⟩ := gd_out h
        have g11 := isB_nar g11
        cases h
        exact k_zret C hP hS g11 dX6_number_119
      · have h := if_f c9 h
        refine lv_aload_n C.1 C.2.1 dX6_number_106 rfl (lv_at hl 1 rfl) ?_
        obtain ⟨v12, ev12, h⟩ := lt_out h
        refine k_geti C G hP r_obj rfl 9 (by decide) n_X6_number_X6 q_X6_number_0 rfl ev12 dX6_number_107 ?_
        refine lv_goto (tgt := 114) C.1 C.2.1 dX6_number_110 (by decide) ?_
        obtain ⟨M13, eM13, h⟩ := lt_out h
        refine k_puti C G hP hS r_obj rfl 9 (by decide) n_X6_number_X6 q_X6_number_0 tyX6_ok nmX6 rfl (tyX6_ok 9 (by decide)) (Nat.le_of_ble_eq_true rfl) r_objS9 dX6_number_114 (fun H locs hP hS => ?_)
        rw [← eM13] at hP
        refine lv_iload C.1 C.2.1 dX6_number_117 (lv_at hl 0 rfl) ?_
        obtain ⟨g14, h⟩ := gd_out h
        have g14 := isB_nar g14
        cases h
        exact k_zret C hP hS g14 dX6_number_119
    · have h := if_f c5 h
      refine lv_iconst (v := 0) C.1 C.2.1 dX6_number_87 (by decide) ?_
      cases h
      exact k_zret C hP hS nar_0 dX6_number_88
set_option maxRecDepth 100000 in
set_option maxHeartbeats 4000000 in
theorem w_X6_number_b10 {res : Int32 × SL} (C : Cx p s m args meth c cX6_number 5 (some .boolean) RX6 wsX6_number) (G : Gx D cs ad s) {Ls : Nat → SL} {Hs : SL} {T : SL} {dr : Int64} {hs : Int64} {o : Int64} {od : UInt64} {K10 : SL → Int32 → Int32 → Int32 → Option (Int32 × SL)} (hK10 : ∀ {M : SL} {x1 : Int32} {x2 : Int32} {x3 : Int32} {H : Heap} {locs : List Loc} {ls : Array Slot}, va_P D vwCl (wA cs ad Ls Hs T M dr hs o od) H → va_S (Afr ad s.heap.size) s.heap H locs → lv_has ls 5 [(0, .ref (ad 89)), (1, .int x1), (2, .int x2), (3, .int x3)] → K10 M x1 x2 x3 = some res → W p l e rmX6_number s m args below meth c H locs 0 0 (MQ below (va_Qi (fun r' (_ : Unit) => r' = res.1) (fun _ t => va_P D vwCl (wA cs ad Ls Hs T res.2 dr hs o od) t.heap) (Afr ad s.heap.size)) args s 0 0 (Afr ad s.heap.size)) (F0 m 10 ls [])) {M : SL} {x1 : Int32} {x2 : Int32} {x3 : Int32} {H : Heap} {locs : List Loc} {ls : Array Slot} (hP : va_P D vwCl (wA cs ad Ls Hs T M dr hs o od) H) (hS : va_S (Afr ad s.heap.size) s.heap H locs) (hl : lv_has ls 5 [(0, .ref (ad 89)), (1, .int x1), (2, .int x2), (3, .int x3)]) (h : f_X6_number_b10 K10 M x1 x2 x3 = some res) : W p l e rmX6_number s m args below meth c H locs 0 0 (MQ below (va_Qi (fun r' (_ : Unit) => r' = res.1) (fun _ t => va_P D vwCl (wA cs ad Ls Hs T res.2 dr hs o od) t.heap) (Afr ad s.heap.size)) args s 0 0 (Afr ad s.heap.size)) (F0 m 10 ls []) := by
  unfold f_X6_number_b10 at h
  refine lv_aload_n C.1 C.2.1 dX6_number_10 rfl (lv_at hl 0 rfl) ?_
  obtain ⟨v1, ev1, h⟩ := lt_out h
  refine k_geti C G hP r_obj rfl 9 (by decide) n_X6_number_X6 q_X6_number_0 rfl ev1 dX6_number_11 ?_
  refine lv_iload_n C.1 C.2.1 dX6_number_14 rfl (lv_at hl 3 rfl) ?_
  obtain ⟨v2, ev2, h⟩ := lt_out h
  refine k_isub C ev2 dX6_number_15 ?_
  refine lv_iconst (v := 2) C.1 C.2.1 dX6_number_16 (by decide) ?_
  refine lv_icmp_ge (tgt := 68) C.1 C.2.1 dX6_number_17 (by decide) (fun c3 => ?_) (fun c3 => ?_)
  · have h := if_t c3 h
    exact w_X6_number_b68 C G hP hS (lv_sub hl [0, 1, 2, 3] rfl) h
  · have h := if_f c3 h
    refine lv_aload_n C.1 C.2.1 dX6_number_20 rfl (lv_at hl 0 rfl) ?_
    refine lv_bipush (v := 48) C.1 C.2.1 dX6_number_21 (by decide) ?_
    refine lv_bipush (v := 57) C.1 C.2.1 dX6_number_23 (by decide) ?_
    obtain ⟨r4, c5, h⟩ := bd_out h
    refine k_callVi C G hP hS (m_X6_isAt l G.2.1 _  c5) r_obj rfl (cwV 2 C.2.2.2.2.2.1 gX6_number_X6_isAt rfl rfl rfl (by decide +kernel) ⟨Nat.le_of_ble_eq_true rfl, Nat.le_of_ble_eq_true rfl⟩) (As := [.int 48, .int 57]) rfl hl.1 rfl (Nat.le_of_ble_eq_true rfl) dX6_number_25 ⟨Nat.le_of_ble_eq_true rfl, Nat.le_of_ble_eq_true rfl⟩ (fun H locs hP hS => ?_)
    refine lv_if_eq (tgt := 68) C.1 C.2.1 dX6_number_28 (by decide) (fun c6 => ?_) (fun c6 => ?_)
    · have h := if_t c6 h
      exact w_X6_number_b68 C G hP hS (lv_sub hl [0, 1, 2, 3] rfl) h
    · have h := if_f c6 h
      refine lv_aload_n C.1 C.2.1 dX6_number_31 rfl (lv_at hl 0 rfl) ?_
      refine lv_bipush (v := 10) C.1 C.2.1 dX6_number_32 (by decide) ?_
      refine lv_aload_n C.1 C.2.1 dX6_number_34 rfl (lv_at hl 0 rfl) ?_
      obtain ⟨v7, ev7, h⟩ := lt_out h
      refine k_geti C G hP r_obj rfl 10 (by decide) n_X6_number_X6 q_X6_number_1 rfl ev7 dX6_number_35 ?_
      obtain ⟨v8, ev8, h⟩ := lt_out h
      refine k_imul C ev8 dX6_number_38 ?_
      refine lv_aload_n C.1 C.2.1 dX6_number_39 rfl (lv_at hl 0 rfl) ?_
      refine k_getf C G hP r_obj rfl 5 (by decide) n_X6_number_X6 q_X6_number_2 (v := .ref (ad (89 + 4))) rfl dX6_number_40 ?_
      refine lv_aload_n C.1 C.2.1 dX6_number_43 rfl (lv_at hl 0 rfl) ?_
      obtain ⟨v9, ev9, h⟩ := lt_out h
      refine k_geti C G hP r_obj rfl 9 (by decide) n_X6_number_X6 q_X6_number_0 rfl ev9 dX6_number_44 ?_
      obtain ⟨g10, h⟩ := gd_out h
      have g10 := chk_in g10
      obtain ⟨v11, ev11, h⟩ := lt_out h
      refine k_iald C G hP (r_arr (k := 4) (by decide)) g10 (j := v9.toNatClampNeg) rfl ev11 dX6_number_47 ?_
      obtain ⟨v12, ev12, h⟩ := lt_out h
      refine k_iadd C ev12 dX6_number_48 ?_
      refine lv_bipush (v := 48) C.1 C.2.1 dX6_number_49 (by decide) ?_
      obtain ⟨v13, ev13, h⟩ := lt_out h
      refine k_isub C ev13 dX6_number_51 ?_
      obtain ⟨M14, eM14, h⟩ := lt_out h
      refine k_puti C G hP hS r_obj rfl 10 (by decide) n_X6_number_X6 q_X6_number_1 tyX6_ok nmX6 rfl (tyX6_ok 10 (by decide)) (Nat.le_of_ble_eq_true rfl) r_objS10 dX6_number_52 (fun H locs hP hS => ?_)
      rw [← eM14] at hP
      refine lv_aload_n C.1 C.2.1 dX6_number_55 rfl (lv_at hl 0 rfl) ?_
      refine lv_dup C.1 C.2.1 dX6_number_56 rfl ?_
      obtain ⟨v15, ev15, h⟩ := lt_out h
      refine k_geti C G hP r_obj rfl 9 (by decide) n_X6_number_X6 q_X6_number_0 rfl ev15 dX6_number_57 ?_
      refine lv_iconst (v := 1) C.1 C.2.1 dX6_number_60 (by decide) ?_
      obtain ⟨v16, ev16, h⟩ := lt_out h
      refine k_iadd C ev16 dX6_number_61 ?_
      obtain ⟨M17, eM17, h⟩ := lt_out h
      refine k_puti C G hP hS r_obj rfl 9 (by decide) n_X6_number_X6 q_X6_number_0 tyX6_ok nmX6 rfl (tyX6_ok 9 (by decide)) (Nat.le_of_ble_eq_true rfl) r_objS9 dX6_number_62 (fun H locs hP hS => ?_)
      rw [← eM17] at hP
      refine lv_goto (tgt := 10) C.1 C.2.1 dX6_number_65 (by decide) ?_
      exact hK10 hP hS (lv_sub hl [0, 1, 2, 3] rfl)  h
set_option maxRecDepth 100000 in
set_option maxHeartbeats 4000000 in
theorem w_X6_number_h10 {res : Int32 × SL} (C : Cx p s m args meth c cX6_number 5 (some .boolean) RX6 wsX6_number) (G : Gx D cs ad s) {Ls : Nat → SL} {Hs : SL} {T : SL} {dr : Int64} {hs : Int64} {o : Int64} {od : UInt64} : ∀ (n : Nat) {M : SL} {x1 : Int32} {x2 : Int32} {x3 : Int32} {H : Heap} {locs : List Loc} {ls : Array Slot}, va_P D vwCl (wA cs ad Ls Hs T M dr hs o od) H → va_S (Afr ad s.heap.size) s.heap H locs → lv_has ls 5 [(0, .ref (ad 89)), (1, .int x1), (2, .int x2), (3, .int x3)] → f_X6_number_h10 n M x1 x2 x3 = some res → W p l e rmX6_number s m args below meth c H locs 0 0 (MQ below (va_Qi (fun r' (_ : Unit) => r' = res.1) (fun _ t => va_P D vwCl (wA cs ad Ls Hs T res.2 dr hs o od) t.heap) (Afr ad s.heap.size)) args s 0 0 (Afr ad s.heap.size)) (F0 m 10 ls []) := by
  intro n
  induction n with
  | zero => intro M x1 x2 x3 H locs ls hP hS hl  h; cases h
  | succ n ih => intro M x1 x2 x3 H locs ls hP hS hl  h; exact w_X6_number_b10 C G    ih hP hS hl  h
set_option maxRecDepth 100000 in
set_option maxHeartbeats 4000000 in
theorem w_X6_number_e {res : Int32 × SL} (C : Cx p s m args meth c cX6_number 5 (some .boolean) RX6 wsX6_number) (G : Gx D cs ad s) {Ls : Nat → SL} {Hs : SL} {T : SL} {dr : Int64} {hs : Int64} {o : Int64} {od : UInt64} {M : SL} {x1 : Int32} {x2 : Int32} {H : Heap} {locs : List Loc} {ls : Array Slot} (hP : va_P D vwCl (wA cs ad Ls Hs T M dr hs o od) H) (hS : va_S (Afr ad s.heap.size) s.heap H locs) (hl : lv_has ls 5 [(0, .ref (ad 89)), (1, .int x1), (2, .int x2)]) (h : f_X6_number M x1 x2 = some res) : W p l e rmX6_number s m args below meth c H locs 0 0 (MQ below (va_Qi (fun r' (_ : Unit) => r' = res.1) (fun _ t => va_P D vwCl (wA cs ad Ls Hs T res.2 dr hs o od) t.heap) (Afr ad s.heap.size)) args s 0 0 (Afr ad s.heap.size)) (F0 m 0 ls []) := by
  unfold f_X6_number at h
  refine lv_aload_n C.1 C.2.1 dX6_number_0 rfl (lv_at hl 0 rfl) ?_
  obtain ⟨v1, ev1, h⟩ := lt_out h
  refine k_geti C G hP r_obj rfl 9 (by decide) n_X6_number_X6 q_X6_number_0 rfl ev1 dX6_number_1 ?_
  refine lv_istore_n (lv' := [(3, .int v1), (0, .ref (ad 89)), (1, .int x1), (2, .int x2)]) C.1 C.2.1 dX6_number_4 rfl hl (by decide) rfl (fun ls hl => ?_)
  refine lv_aload_n C.1 C.2.1 dX6_number_5 rfl (lv_at hl 1 rfl) ?_
  refine lv_iconst (v := 0) C.1 C.2.1 dX6_number_6 (by decide) ?_
  obtain ⟨M2, eM2, h⟩ := lt_out h
  refine k_puti C G hP hS r_obj rfl 10 (by decide) n_X6_number_X6 q_X6_number_1 tyX6_ok nmX6 rfl (tyX6_ok 10 (by decide)) (Nat.le_of_ble_eq_true rfl) r_objS10 dX6_number_7 (fun H locs hP hS => ?_)
  rw [← eM2] at hP
  exact w_X6_number_h10 C G fuel hP hS (lv_sub hl [1, 2, 3, 0] rfl) h
set_option maxRecDepth 100000 in
set_option maxHeartbeats 4000000 in
theorem m_X6_number (l : Launch) {D : va_G} {cs : Nat → ClassId} {ad : Nat → Nat} (hAd : adOK ad) (sz : Nat) {Ls : Nat → SL} {Hs : SL} {T : SL} {M : SL} {dr : Int64} {hs : Int64} {o : Int64} {od : UInt64} {x1 : Int32} {x2 : Int32} {res : Int32 × SL} (h : f_X6_number M x1 x2 = some res) : Met l yX6_number wsX6_number rmX6_number (PA D cs sz (wA cs ad Ls Hs T M dr hs o od) [.ref (ad 89), .int x1, .int x2]) (va_Qi (fun r' (_ : Unit) => r' = res.1) (fun _ t => va_P D vwCl (wA cs ad Ls Hs T res.2 dr hs o od) t.heap) (Afr ad sz)) 0 0 (Afr ad sz) :=
  k_met (by decide) rfl (Nat.le_of_ble_eq_true rfl) hAd (fun p e s m below meth c ls C G hP hsz hl hS => by
    subst hsz
    exact w_X6_number_e C G  hP hS hl  h)
/-! X6 readsMachine -/
abbrev rmX6_readsMachine : Room := { frames := 3, cells := 0, slots := 0, locals := 68 }
theorem q_X6_readsMachine_0 : Cond.fieldLink RX6 7 "LineBuffersModel" "now" "[I" ∈ wsX6_readsMachine := List.mem_of_getElem? (i := 1) rfl
theorem q_X6_readsMachine_1 : Cond.fieldLink RX6 154 "LineBuffersModel" "spot" "I" ∈ wsX6_readsMachine := List.mem_of_getElem? (i := 2) rfl
theorem q_X6_readsMachine_2 : Cond.fieldLink RX6 160 "LineBuffersModel" "value" "I" ∈ wsX6_readsMachine := List.mem_of_getElem? (i := 3) rfl
theorem n_X6_readsMachine_X6 : ∀ x ∈ u_ws RX6 TX6 12, x ∈ wsX6_readsMachine := fun x h => List.mem_cons_of_mem _ (List.mem_append_right _ h)
set_option maxRecDepth 100000 in
set_option maxHeartbeats 4000000 in
theorem w_X6_readsMachine_e {res : Int32 × SL} (C : Cx p s m args meth c cX6_readsMachine 3 (some .boolean) RX6 wsX6_readsMachine) (G : Gx D cs ad s) {Ls : Nat → SL} {Hs : SL} {T : SL} {dr : Int64} {hs : Int64} {o : Int64} {od : UInt64} {M : SL} {H : Heap} {locs : List Loc} {ls : Array Slot} (hP : va_P D vwCl (wA cs ad Ls Hs T M dr hs o od) H) (hS : va_S (Afr ad s.heap.size) s.heap H locs) (hl : lv_has ls 3 [(0, .ref (ad 89))]) (h : f_X6_readsMachine M = some res) : W p l e rmX6_readsMachine s m args below meth c H locs 0 0 (MQ below (va_Qi (fun r' (_ : Unit) => r' = res.1) (fun _ t => va_P D vwCl (wA cs ad Ls Hs T res.2 dr hs o od) t.heap) (Afr ad s.heap.size)) args s 0 0 (Afr ad s.heap.size)) (F0 m 0 ls []) := by
  unfold f_X6_readsMachine at h
  refine lv_aload_n C.1 C.2.1 dX6_readsMachine_0 rfl (lv_at hl 0 rfl) ?_
  refine k_getf C G hP r_obj rfl 0 (by decide) n_X6_readsMachine_X6 q_X6_readsMachine_0 (v := .ref (ad (89 + 1))) rfl dX6_readsMachine_1 ?_
  refine lv_iconst (v := 0) C.1 C.2.1 dX6_readsMachine_4 (by decide) ?_
  obtain ⟨v1, ev1, h⟩ := lt_out h
  refine k_iald C G hP (r_arr (k := 1) (by decide)) (chk_in rfl) (j := 0) rfl ev1 dX6_readsMachine_5 ?_
  refine lv_bipush (v := 8) C.1 C.2.1 dX6_readsMachine_6 (by decide) ?_
  refine lv_icmp_ne (tgt := 13) C.1 C.2.1 dX6_readsMachine_8 (by decide) (fun c2 => ?_) (fun c2 => ?_)
  · have h := if_t c2 h
    refine lv_aload_n C.1 C.2.1 dX6_readsMachine_13 rfl (lv_at hl 0 rfl) ?_
    refine lv_dup C.1 C.2.1 dX6_readsMachine_14 rfl ?_
    obtain ⟨v3, ev3, h⟩ := lt_out h
    refine k_geti C G hP r_obj rfl 9 (by decide) n_X6_readsMachine_X6 q_X6_readsMachine_1 rfl ev3 dX6_readsMachine_15 ?_
    refine lv_iconst (v := 1) C.1 C.2.1 dX6_readsMachine_18 (by decide) ?_
    obtain ⟨v4, ev4, h⟩ := lt_out h
    refine k_iadd C ev4 dX6_readsMachine_19 ?_
    obtain ⟨M5, eM5, h⟩ := lt_out h
    refine k_puti C G hP hS r_obj rfl 9 (by decide) n_X6_readsMachine_X6 q_X6_readsMachine_1 tyX6_ok nmX6 rfl (tyX6_ok 9 (by decide)) (Nat.le_of_ble_eq_true rfl) r_objS9 dX6_readsMachine_20 (fun H locs hP hS => ?_)
    rw [← eM5] at hP
    refine lv_aload_n C.1 C.2.1 dX6_readsMachine_23 rfl (lv_at hl 0 rfl) ?_
    refine lv_iconst (v := 1) C.1 C.2.1 dX6_readsMachine_24 (by decide) ?_
    refine lv_bipush (v := 20) C.1 C.2.1 dX6_readsMachine_25 (by decide) ?_
    obtain ⟨r6, M7, c8, h⟩ := bd2_out h
    refine k_callVi C G hP hS (m_X6_number l G.2.1 _  c8) r_obj rfl (cwV 2 C.2.2.2.2.2.1 gX6_readsMachine_X6_number rfl rfl rfl (by decide +kernel) ⟨Nat.le_of_ble_eq_true rfl, Nat.le_of_ble_eq_true rfl⟩) (As := [.int 1, .int 20]) rfl hl.1 rfl (Nat.le_of_ble_eq_true rfl) dX6_readsMachine_27 ⟨Nat.le_of_ble_eq_true rfl, Nat.le_of_ble_eq_true rfl⟩ (fun H locs hP hS => ?_)
    refine lv_if_ne (tgt := 35) C.1 C.2.1 dX6_readsMachine_30 (by decide) (fun c9 => ?_) (fun c9 => ?_)
    · have h := if_t c9 h
      refine lv_aload_n C.1 C.2.1 dX6_readsMachine_35 rfl (lv_at hl 0 rfl) ?_
      obtain ⟨v10, ev10, h⟩ := lt_out h
      refine k_geti C G hP r_obj rfl 10 (by decide) n_X6_readsMachine_X6 q_X6_readsMachine_2 rfl ev10 dX6_readsMachine_36 ?_
      refine lv_istore_n (lv' := [(1, .int v10), (0, .ref (ad 89))]) C.1 C.2.1 dX6_readsMachine_39 rfl hl (by decide) rfl (fun ls hl => ?_)
      refine lv_aload_n C.1 C.2.1 dX6_readsMachine_40 rfl (lv_at hl 1 rfl) ?_
      refine lv_bipush (v := 44) C.1 C.2.1 dX6_readsMachine_41 (by decide) ?_
      obtain ⟨r11, M12, c13, h⟩ := bd2_out h
      refine k_callVi C G hP hS (m_X6_sign l G.2.1 _  c13) r_obj rfl (cwV 1 C.2.2.2.2.2.1 gX6_readsMachine_X6_sign rfl rfl rfl (by decide +kernel) ⟨Nat.le_of_ble_eq_true rfl, Nat.le_of_ble_eq_true rfl⟩) (As := [.int 44]) rfl hl.1 rfl (Nat.le_of_ble_eq_true rfl) dX6_readsMachine_43 ⟨Nat.le_of_ble_eq_true rfl, Nat.le_of_ble_eq_true rfl⟩ (fun H locs hP hS => ?_)
      refine lv_if_eq (tgt := 58) C.1 C.2.1 dX6_readsMachine_46 (by decide) (fun c14 => ?_) (fun c14 => ?_)
      · have h := if_t c14 h
        refine lv_iconst (v := 0) C.1 C.2.1 dX6_readsMachine_58 (by decide) ?_
        cases h
        exact k_zret C hP hS nar_0 dX6_readsMachine_59
      · have h := if_f c14 h
        refine lv_aload_n C.1 C.2.1 dX6_readsMachine_49 rfl (lv_at hl 1 rfl) ?_
        refine lv_iconst (v := 1) C.1 C.2.1 dX6_readsMachine_50 (by decide) ?_
        refine lv_iload_n C.1 C.2.1 dX6_readsMachine_51 rfl (lv_at hl 0 rfl) ?_
        obtain ⟨r15, M16, c17, h⟩ := bd2_out h
        refine k_callVi C G hP hS (m_X6_number l G.2.1 _  c17) r_obj rfl (cwV 2 C.2.2.2.2.2.1 gX6_readsMachine_X6_number rfl rfl rfl (by decide +kernel) ⟨Nat.le_of_ble_eq_true rfl, Nat.le_of_ble_eq_true rfl⟩) (As := [.int 1, .int v10]) rfl hl.1 rfl (Nat.le_of_ble_eq_true rfl) dX6_readsMachine_52 ⟨Nat.le_of_ble_eq_true rfl, Nat.le_of_ble_eq_true rfl⟩ (fun H locs hP hS => ?_)
        refine lv_if_ne (tgt := 60) C.1 C.2.1 dX6_readsMachine_55 (by decide) (fun c18 => ?_) (fun c18 => ?_)
        · have h := if_t c18 h
          refine lv_aload_n C.1 C.2.1 dX6_readsMachine_60 rfl (lv_at hl 1 rfl) ?_
          obtain ⟨v19, ev19, h⟩ := lt_out h
          refine k_geti C G hP r_obj rfl 10 (by decide) n_X6_readsMachine_X6 q_X6_readsMachine_2 rfl ev19 dX6_readsMachine_61 ?_
          refine lv_istore_n (lv' := [(2, .int v19), (1, .int v10), (0, .ref (ad 89))]) C.1 C.2.1 dX6_readsMachine_64 rfl hl (by decide) rfl (fun ls hl => ?_)
          refine lv_aload_n C.1 C.2.1 dX6_readsMachine_65 rfl (lv_at hl 2 rfl) ?_
          refine lv_bipush (v := 44) C.1 C.2.1 dX6_readsMachine_66 (by decide) ?_
          obtain ⟨r20, M21, c22, h⟩ := bd2_out h
          refine k_callVi C G hP hS (m_X6_sign l G.2.1 _  c22) r_obj rfl (cwV 1 C.2.2.2.2.2.1 gX6_readsMachine_X6_sign rfl rfl rfl (by decide +kernel) ⟨Nat.le_of_ble_eq_true rfl, Nat.le_of_ble_eq_true rfl⟩) (As := [.int 44]) rfl hl.1 rfl (Nat.le_of_ble_eq_true rfl) dX6_readsMachine_68 ⟨Nat.le_of_ble_eq_true rfl, Nat.le_of_ble_eq_true rfl⟩ (fun H locs hP hS => ?_)
          refine lv_if_eq (tgt := 84) C.1 C.2.1 dX6_readsMachine_71 (by decide) (fun c23 => ?_) (fun c23 => ?_)
          · have h := if_t c23 h
            refine lv_iconst (v := 0) C.1 C.2.1 dX6_readsMachine_84 (by decide) ?_
            cases h
            exact k_zret C hP hS nar_0 dX6_readsMachine_85
          · have h := if_f c23 h
            refine lv_aload_n C.1 C.2.1 dX6_readsMachine_74 rfl (lv_at hl 2 rfl) ?_
            refine lv_iconst (v := 0) C.1 C.2.1 dX6_readsMachine_75 (by decide) ?_
            refine lv_bipush (v := 40) C.1 C.2.1 dX6_readsMachine_76 (by decide) ?_
            obtain ⟨r24, M25, c26, h⟩ := bd2_out h
            refine k_callVi C G hP hS (m_X6_number l G.2.1 _  c26) r_obj rfl (cwV 2 C.2.2.2.2.2.1 gX6_readsMachine_X6_number rfl rfl rfl (by decide +kernel) ⟨Nat.le_of_ble_eq_true rfl, Nat.le_of_ble_eq_true rfl⟩) (As := [.int 0, .int 40]) rfl hl.1 rfl (Nat.le_of_ble_eq_true rfl) dX6_readsMachine_78 ⟨Nat.le_of_ble_eq_true rfl, Nat.le_of_ble_eq_true rfl⟩ (fun H locs hP hS => ?_)
            refine lv_if_ne (tgt := 86) C.1 C.2.1 dX6_readsMachine_81 (by decide) (fun c27 => ?_) (fun c27 => ?_)
            · have h := if_t c27 h
              refine lv_aload_n C.1 C.2.1 dX6_readsMachine_86 rfl (lv_at hl 2 rfl) ?_
              refine lv_iload_n C.1 C.2.1 dX6_readsMachine_87 rfl (lv_at hl 1 rfl) ?_
              refine lv_iload_n C.1 C.2.1 dX6_readsMachine_88 rfl (lv_at hl 0 rfl) ?_
              refine lv_aload_n C.1 C.2.1 dX6_readsMachine_89 rfl (lv_at hl 2 rfl) ?_
              obtain ⟨v28, ev28, h⟩ := lt_out h
              refine k_geti C G hP r_obj rfl 10 (by decide) n_X6_readsMachine_X6 q_X6_readsMachine_2 rfl ev28 dX6_readsMachine_90 ?_
              obtain ⟨M29, c30, h⟩ := bd_out h
              refine k_callVv C G hP hS (m_X6_adds l G.2.1 _  c30) r_obj rfl (cwV 3 C.2.2.2.2.2.1 gX6_readsMachine_X6_adds rfl rfl rfl (by decide +kernel) ⟨Nat.le_of_ble_eq_true rfl, Nat.le_of_ble_eq_true rfl⟩) (As := [.int v10, .int v19, .int v28]) rfl hl.1 rfl (Nat.le_of_ble_eq_true rfl) dX6_readsMachine_93 ⟨Nat.le_of_ble_eq_true rfl, Nat.le_of_ble_eq_true rfl⟩ (fun H locs hP hS => ?_)
              refine lv_aload_n C.1 C.2.1 dX6_readsMachine_96 rfl (lv_at hl 2 rfl) ?_
              refine lv_bipush (v := 59) C.1 C.2.1 dX6_readsMachine_97 (by decide) ?_
              obtain ⟨r31, M32, c33, h⟩ := bd2_out h
              refine k_callVi C G hP hS (m_X6_sign l G.2.1 _  c33) r_obj rfl (cwV 1 C.2.2.2.2.2.1 gX6_readsMachine_X6_sign rfl rfl rfl (by decide +kernel) ⟨Nat.le_of_ble_eq_true rfl, Nat.le_of_ble_eq_true rfl⟩) (As := [.int 59]) rfl hl.1 rfl (Nat.le_of_ble_eq_true rfl) dX6_readsMachine_99 ⟨Nat.le_of_ble_eq_true rfl, Nat.le_of_ble_eq_true rfl⟩ (fun H locs hP hS => ?_)
              obtain ⟨g34, h⟩ := gd_out h
              have g34 := isB_nar g34
              cases h
              exact k_zret C hP hS g34 dX6_readsMachine_102
            · have h := if_n c27 h
              refine lv_iconst (v := 0) C.1 C.2.1 dX6_readsMachine_84 (by decide) ?_
              cases h
              exact k_zret C hP hS nar_0 dX6_readsMachine_85
        · have h := if_n c18 h
          refine lv_iconst (v := 0) C.1 C.2.1 dX6_readsMachine_58 (by decide) ?_
          cases h
          exact k_zret C hP hS nar_0 dX6_readsMachine_59
    · have h := if_n c9 h
      refine lv_iconst (v := 0) C.1 C.2.1 dX6_readsMachine_33 (by decide) ?_
      cases h
      exact k_zret C hP hS nar_0 dX6_readsMachine_34
  · have h := if_n c2 h
    refine lv_iconst (v := 0) C.1 C.2.1 dX6_readsMachine_11 (by decide) ?_
    cases h
    exact k_zret C hP hS nar_0 dX6_readsMachine_12
set_option maxRecDepth 100000 in
set_option maxHeartbeats 4000000 in
theorem m_X6_readsMachine (l : Launch) {D : va_G} {cs : Nat → ClassId} {ad : Nat → Nat} (hAd : adOK ad) (sz : Nat) {Ls : Nat → SL} {Hs : SL} {T : SL} {M : SL} {dr : Int64} {hs : Int64} {o : Int64} {od : UInt64} {res : Int32 × SL} (h : f_X6_readsMachine M = some res) : Met l yX6_readsMachine wsX6_readsMachine rmX6_readsMachine (PA D cs sz (wA cs ad Ls Hs T M dr hs o od) [.ref (ad 89)]) (va_Qi (fun r' (_ : Unit) => r' = res.1) (fun _ t => va_P D vwCl (wA cs ad Ls Hs T res.2 dr hs o od) t.heap) (Afr ad sz)) 0 0 (Afr ad sz) :=
  k_met (by decide) rfl (Nat.le_of_ble_eq_true rfl) hAd (fun p e s m below meth c ls C G hP hsz hl hS => by
    subst hsz
    exact w_X6_readsMachine_e C G  hP hS hl  h)
/-! X6 readsMarks -/
abbrev rmX6_readsMarks : Room := { frames := 3, cells := 0, slots := 0, locals := 68 }
theorem q_X6_readsMarks_0 : Cond.fieldLink RX6 154 "LineBuffersModel" "spot" "I" ∈ wsX6_readsMarks := List.mem_of_getElem? (i := 1) rfl
theorem q_X6_readsMarks_1 : Cond.fieldLink RX6 7 "LineBuffersModel" "now" "[I" ∈ wsX6_readsMarks := List.mem_of_getElem? (i := 2) rfl
theorem q_X6_readsMarks_2 : Cond.fieldLink RX6 160 "LineBuffersModel" "value" "I" ∈ wsX6_readsMarks := List.mem_of_getElem? (i := 3) rfl
theorem n_X6_readsMarks_X6 : ∀ x ∈ u_ws RX6 TX6 12, x ∈ wsX6_readsMarks := fun x h => List.mem_cons_of_mem _ (List.mem_append_right _ h)
set_option maxRecDepth 100000 in
set_option maxHeartbeats 4000000 in
theorem w_X6_readsMarks_e {res : Int32 × SL} (C : Cx p s m args meth c cX6_readsMarks 3 (some .boolean) RX6 wsX6_readsMarks) (G : Gx D cs ad s) {Ls : Nat → SL} {Hs : SL} {T : SL} {dr : Int64} {hs : Int64} {o : Int64} {od : UInt64} {M : SL} {H : Heap} {locs : List Loc} {ls : Array Slot} (hP : va_P D vwCl (wA cs ad Ls Hs T M dr hs o od) H) (hS : va_S (Afr ad s.heap.size) s.heap H locs) (hl : lv_has ls 3 [(0, .ref (ad 89))]) (h : f_X6_readsMarks M = some res) : W p l e rmX6_readsMarks s m args below meth c H locs 0 0 (MQ below (va_Qi (fun r' (_ : Unit) => r' = res.1) (fun _ t => va_P D vwCl (wA cs ad Ls Hs T res.2 dr hs o od) t.heap) (Afr ad s.heap.size)) args s 0 0 (Afr ad s.heap.size)) (F0 m 0 ls []) := by
  unfold f_X6_readsMarks at h
  refine lv_aload_n C.1 C.2.1 dX6_readsMarks_0 rfl (lv_at hl 0 rfl) ?_
  refine lv_dup C.1 C.2.1 dX6_readsMarks_1 rfl ?_
  obtain ⟨v1, ev1, h⟩ := lt_out h
  refine k_geti C G hP r_obj rfl 9 (by decide) n_X6_readsMarks_X6 q_X6_readsMarks_0 rfl ev1 dX6_readsMarks_2 ?_
  refine lv_iconst (v := 1) C.1 C.2.1 dX6_readsMarks_5 (by decide) ?_
  obtain ⟨v2, ev2, h⟩ := lt_out h
  refine k_iadd C ev2 dX6_readsMarks_6 ?_
  obtain ⟨M3, eM3, h⟩ := lt_out h
  refine k_puti C G hP hS r_obj rfl 9 (by decide) n_X6_readsMarks_X6 q_X6_readsMarks_0 tyX6_ok nmX6 rfl (tyX6_ok 9 (by decide)) (Nat.le_of_ble_eq_true rfl) r_objS9 dX6_readsMarks_7 (fun H locs hP hS => ?_)
  rw [← eM3] at hP
  refine lv_aload_n C.1 C.2.1 dX6_readsMarks_10 rfl (lv_at hl 0 rfl) ?_
  refine lv_iconst (v := 0) C.1 C.2.1 dX6_readsMarks_11 (by decide) ?_
  refine lv_aload_n C.1 C.2.1 dX6_readsMarks_12 rfl (lv_at hl 0 rfl) ?_
  refine k_getf C G hP r_obj rfl 0 (by decide) n_X6_readsMarks_X6 q_X6_readsMarks_1 (v := .ref (ad (89 + 1))) rfl dX6_readsMarks_13 ?_
  refine lv_iconst (v := 0) C.1 C.2.1 dX6_readsMarks_16 (by decide) ?_
  obtain ⟨v4, ev4, h⟩ := lt_out h
  refine k_iald C G hP (r_arr (k := 1) (by decide)) (chk_in rfl) (j := 0) rfl ev4 dX6_readsMarks_17 ?_
  refine lv_iconst (v := 1) C.1 C.2.1 dX6_readsMarks_18 (by decide) ?_
  obtain ⟨v5, ev5, h⟩ := lt_out h
  refine k_isub C ev5 dX6_readsMarks_19 ?_
  obtain ⟨r6, M7, c8, h⟩ := bd2_out h
  refine k_callVi C G hP hS (m_X6_number l G.2.1 _  c8) r_obj rfl (cwV 2 C.2.2.2.2.2.1 gX6_readsMarks_X6_number rfl rfl rfl (by decide +kernel) ⟨Nat.le_of_ble_eq_true rfl, Nat.le_of_ble_eq_true rfl⟩) (As := [.int 0, .int v5]) rfl hl.1 rfl (Nat.le_of_ble_eq_true rfl) dX6_readsMarks_20 ⟨Nat.le_of_ble_eq_true rfl, Nat.le_of_ble_eq_true rfl⟩ (fun H locs hP hS => ?_)
  refine lv_if_ne (tgt := 28) C.1 C.2.1 dX6_readsMarks_23 (by decide) (fun c9 => ?_) (fun c9 => ?_)
  · have h := if_t c9 h
    refine lv_aload_n C.1 C.2.1 dX6_readsMarks_28 rfl (lv_at hl 0 rfl) ?_
    obtain ⟨v10, ev10, h⟩ := lt_out h
    refine k_geti C G hP r_obj rfl 10 (by decide) n_X6_readsMarks_X6 q_X6_readsMarks_2 rfl ev10 dX6_readsMarks_29 ?_
    obtain ⟨r11, c12, h⟩ := bd_out h
    refine k_callSi C G hP hS (m_X6_of l G.2.1 _  c12) (va_cwS 1 C.2.2.2.2.2.1 gX6_readsMarks_X6_of rfl rfl rfl (by decide +kernel) ⟨Nat.le_of_ble_eq_true rfl, Nat.le_of_ble_eq_true rfl⟩) (As := [.int v10]) rfl hl.1 rfl (Nat.le_of_ble_eq_true rfl) dX6_readsMarks_32 ⟨Nat.le_of_ble_eq_true rfl, Nat.le_of_ble_eq_true rfl⟩ (fun H locs hP hS => ?_)
    refine lv_istore_n (lv' := [(1, .int r11), (0, .ref (ad 89))]) C.1 C.2.1 dX6_readsMarks_35 rfl hl (by decide) rfl (fun ls hl => ?_)
    refine lv_aload_n C.1 C.2.1 dX6_readsMarks_36 rfl (lv_at hl 1 rfl) ?_
    refine lv_bipush (v := 44) C.1 C.2.1 dX6_readsMarks_37 (by decide) ?_
    obtain ⟨r13, M14, c15, h⟩ := bd2_out h
    refine k_callVi C G hP hS (m_X6_sign l G.2.1 _  c15) r_obj rfl (cwV 1 C.2.2.2.2.2.1 gX6_readsMarks_X6_sign rfl rfl rfl (by decide +kernel) ⟨Nat.le_of_ble_eq_true rfl, Nat.le_of_ble_eq_true rfl⟩) (As := [.int 44]) rfl hl.1 rfl (Nat.le_of_ble_eq_true rfl) dX6_readsMarks_39 ⟨Nat.le_of_ble_eq_true rfl, Nat.le_of_ble_eq_true rfl⟩ (fun H locs hP hS => ?_)
    refine lv_if_eq (tgt := 55) C.1 C.2.1 dX6_readsMarks_42 (by decide) (fun c16 => ?_) (fun c16 => ?_)
    · have h := if_t c16 h
      refine lv_iconst (v := 0) C.1 C.2.1 dX6_readsMarks_55 (by decide) ?_
      cases h
      exact k_zret C hP hS nar_0 dX6_readsMarks_56
    · have h := if_f c16 h
      refine lv_aload_n C.1 C.2.1 dX6_readsMarks_45 rfl (lv_at hl 1 rfl) ?_
      refine lv_iconst (v := 0) C.1 C.2.1 dX6_readsMarks_46 (by decide) ?_
      refine lv_bipush (v := 40) C.1 C.2.1 dX6_readsMarks_47 (by decide) ?_
      obtain ⟨r17, M18, c19, h⟩ := bd2_out h
      refine k_callVi C G hP hS (m_X6_number l G.2.1 _  c19) r_obj rfl (cwV 2 C.2.2.2.2.2.1 gX6_readsMarks_X6_number rfl rfl rfl (by decide +kernel) ⟨Nat.le_of_ble_eq_true rfl, Nat.le_of_ble_eq_true rfl⟩) (As := [.int 0, .int 40]) rfl hl.1 rfl (Nat.le_of_ble_eq_true rfl) dX6_readsMarks_49 ⟨Nat.le_of_ble_eq_true rfl, Nat.le_of_ble_eq_true rfl⟩ (fun H locs hP hS => ?_)
      refine lv_if_ne (tgt := 57) C.1 C.2.1 dX6_readsMarks_52 (by decide) (fun c20 => ?_) (fun c20 => ?_)
      · have h := if_t c20 h
        refine lv_aload_n C.1 C.2.1 dX6_readsMarks_57 rfl (lv_at hl 1 rfl) ?_
        obtain ⟨v21, ev21, h⟩ := lt_out h
        refine k_geti C G hP r_obj rfl 10 (by decide) n_X6_readsMarks_X6 q_X6_readsMarks_2 rfl ev21 dX6_readsMarks_58 ?_
        refine lv_istore_n (lv' := [(2, .int v21), (1, .int r11), (0, .ref (ad 89))]) C.1 C.2.1 dX6_readsMarks_61 rfl hl (by decide) rfl (fun ls hl => ?_)
        refine lv_aload_n C.1 C.2.1 dX6_readsMarks_62 rfl (lv_at hl 2 rfl) ?_
        refine lv_bipush (v := 44) C.1 C.2.1 dX6_readsMarks_63 (by decide) ?_
        obtain ⟨r22, M23, c24, h⟩ := bd2_out h
        refine k_callVi C G hP hS (m_X6_sign l G.2.1 _  c24) r_obj rfl (cwV 1 C.2.2.2.2.2.1 gX6_readsMarks_X6_sign rfl rfl rfl (by decide +kernel) ⟨Nat.le_of_ble_eq_true rfl, Nat.le_of_ble_eq_true rfl⟩) (As := [.int 44]) rfl hl.1 rfl (Nat.le_of_ble_eq_true rfl) dX6_readsMarks_65 ⟨Nat.le_of_ble_eq_true rfl, Nat.le_of_ble_eq_true rfl⟩ (fun H locs hP hS => ?_)
        refine lv_if_eq (tgt := 81) C.1 C.2.1 dX6_readsMarks_68 (by decide) (fun c25 => ?_) (fun c25 => ?_)
        · have h := if_t c25 h
          refine lv_iconst (v := 0) C.1 C.2.1 dX6_readsMarks_81 (by decide) ?_
          cases h
          exact k_zret C hP hS nar_0 dX6_readsMarks_82
        · have h := if_f c25 h
          refine lv_aload_n C.1 C.2.1 dX6_readsMarks_71 rfl (lv_at hl 2 rfl) ?_
          refine lv_iload_n C.1 C.2.1 dX6_readsMarks_72 rfl (lv_at hl 0 rfl) ?_
          refine lv_bipush (v := 40) C.1 C.2.1 dX6_readsMarks_73 (by decide) ?_
          obtain ⟨r26, M27, c28, h⟩ := bd2_out h
          refine k_callVi C G hP hS (m_X6_number l G.2.1 _  c28) r_obj rfl (cwV 2 C.2.2.2.2.2.1 gX6_readsMarks_X6_number rfl rfl rfl (by decide +kernel) ⟨Nat.le_of_ble_eq_true rfl, Nat.le_of_ble_eq_true rfl⟩) (As := [.int v21, .int 40]) rfl hl.1 rfl (Nat.le_of_ble_eq_true rfl) dX6_readsMarks_75 ⟨Nat.le_of_ble_eq_true rfl, Nat.le_of_ble_eq_true rfl⟩ (fun H locs hP hS => ?_)
          refine lv_if_ne (tgt := 83) C.1 C.2.1 dX6_readsMarks_78 (by decide) (fun c29 => ?_) (fun c29 => ?_)
          · have h := if_t c29 h
            refine lv_aload_n C.1 C.2.1 dX6_readsMarks_83 rfl (lv_at hl 2 rfl) ?_
            refine k_getf C G hP r_obj rfl 0 (by decide) n_X6_readsMarks_X6 q_X6_readsMarks_1 (v := .ref (ad (89 + 1))) rfl dX6_readsMarks_84 ?_
            refine lv_iload_n C.1 C.2.1 dX6_readsMarks_87 rfl (lv_at hl 1 rfl) ?_
            refine lv_iconst (v := 2) C.1 C.2.1 dX6_readsMarks_88 (by decide) ?_
            obtain ⟨v30, ev30, h⟩ := lt_out h
            refine k_iadd C ev30 dX6_readsMarks_89 ?_
            refine lv_iload_n C.1 C.2.1 dX6_readsMarks_90 rfl (lv_at hl 0 rfl) ?_
            obtain ⟨g31, h⟩ := gd_out h
            have g31 := chk_in g31
            obtain ⟨M32, eM32, h⟩ := lt_out h
            refine k_iast C G hP hS (r_arr (k := 1) (by decide)) g31 (j := v30.toNatClampNeg) rfl (r_arrS (k := 1) (by decide)) dX6_readsMarks_91 (fun H locs hP hS => ?_)
            rw [← eM32] at hP
            refine lv_aload_n C.1 C.2.1 dX6_readsMarks_92 rfl (lv_at hl 2 rfl) ?_
            refine k_getf C G hP r_obj rfl 0 (by decide) n_X6_readsMarks_X6 q_X6_readsMarks_1 (v := .ref (ad (89 + 1))) rfl dX6_readsMarks_93 ?_
            refine lv_iload_n C.1 C.2.1 dX6_readsMarks_96 rfl (lv_at hl 1 rfl) ?_
            refine lv_iconst (v := 3) C.1 C.2.1 dX6_readsMarks_97 (by decide) ?_
            obtain ⟨v33, ev33, h⟩ := lt_out h
            refine k_iadd C ev33 dX6_readsMarks_98 ?_
            refine lv_aload_n C.1 C.2.1 dX6_readsMarks_99 rfl (lv_at hl 2 rfl) ?_
            obtain ⟨v34, ev34, h⟩ := lt_out h
            refine k_geti C G hP r_obj rfl 10 (by decide) n_X6_readsMarks_X6 q_X6_readsMarks_2 rfl ev34 dX6_readsMarks_100 ?_
            obtain ⟨g35, h⟩ := gd_out h
            have g35 := chk_in g35
            obtain ⟨M36, eM36, h⟩ := lt_out h
            refine k_iast C G hP hS (r_arr (k := 1) (by decide)) g35 (j := v33.toNatClampNeg) rfl (r_arrS (k := 1) (by decide)) dX6_readsMarks_103 (fun H locs hP hS => ?_)
            rw [← eM36] at hP
            refine lv_aload_n C.1 C.2.1 dX6_readsMarks_104 rfl (lv_at hl 2 rfl) ?_
            refine lv_bipush (v := 59) C.1 C.2.1 dX6_readsMarks_105 (by decide) ?_
            obtain ⟨r37, M38, c39, h⟩ := bd2_out h
            refine k_callVi C G hP hS (m_X6_sign l G.2.1 _  c39) r_obj rfl (cwV 1 C.2.2.2.2.2.1 gX6_readsMarks_X6_sign rfl rfl rfl (by decide +kernel) ⟨Nat.le_of_ble_eq_true rfl, Nat.le_of_ble_eq_true rfl⟩) (As := [.int 59]) rfl hl.1 rfl (Nat.le_of_ble_eq_true rfl) dX6_readsMarks_107 ⟨Nat.le_of_ble_eq_true rfl, Nat.le_of_ble_eq_true rfl⟩ (fun H locs hP hS => ?_)
            obtain ⟨g40, h⟩ := gd_out h
            have g40 := isB_nar g40
            cases h
            exact k_zret C hP hS g40 dX6_readsMarks_110
          · have h := if_n c29 h
            refine lv_iconst (v := 0) C.1 C.2.1 dX6_readsMarks_81 (by decide) ?_
            cases h
            exact k_zret C hP hS nar_0 dX6_readsMarks_82
      · have h := if_n c20 h
        refine lv_iconst (v := 0) C.1 C.2.1 dX6_readsMarks_55 (by decide) ?_
        cases h
        exact k_zret C hP hS nar_0 dX6_readsMarks_56
  · have h := if_n c9 h
    refine lv_iconst (v := 0) C.1 C.2.1 dX6_readsMarks_26 (by decide) ?_
    cases h
    exact k_zret C hP hS nar_0 dX6_readsMarks_27
set_option maxRecDepth 100000 in
set_option maxHeartbeats 4000000 in
theorem m_X6_readsMarks (l : Launch) {D : va_G} {cs : Nat → ClassId} {ad : Nat → Nat} (hAd : adOK ad) (sz : Nat) {Ls : Nat → SL} {Hs : SL} {T : SL} {M : SL} {dr : Int64} {hs : Int64} {o : Int64} {od : UInt64} {res : Int32 × SL} (h : f_X6_readsMarks M = some res) : Met l yX6_readsMarks wsX6_readsMarks rmX6_readsMarks (PA D cs sz (wA cs ad Ls Hs T M dr hs o od) [.ref (ad 89)]) (va_Qi (fun r' (_ : Unit) => r' = res.1) (fun _ t => va_P D vwCl (wA cs ad Ls Hs T res.2 dr hs o od) t.heap) (Afr ad sz)) 0 0 (Afr ad sz) :=
  k_met (by decide) rfl (Nat.le_of_ble_eq_true rfl) hAd (fun p e s m below meth c ls C G hP hsz hl hS => by
    subst hsz
    exact w_X6_readsMarks_e C G  hP hS hl  h)
/-! X6 parse -/
abbrev rmX6_parse : Room := { frames := 4, cells := 0, slots := 0, locals := 90 }
theorem q_X6_parse_0 : Cond.fieldLink RX6 25 "LineBuffersModel" "refusal" "I" ∈ wsX6_parse := List.mem_of_getElem? (i := 1) rfl
theorem q_X6_parse_1 : Cond.fieldLink RX6 154 "LineBuffersModel" "spot" "I" ∈ wsX6_parse := List.mem_of_getElem? (i := 3) rfl
theorem q_X6_parse_2 : Cond.fieldLink RX6 7 "LineBuffersModel" "now" "[I" ∈ wsX6_parse := List.mem_of_getElem? (i := 2) rfl
theorem q_X6_parse_3 : Cond.fieldLink RX6 151 "LineBuffersModel" "length" "I" ∈ wsX6_parse := List.mem_of_getElem? (i := 4) rfl
theorem q_X6_parse_4 : Cond.fieldLink RX6 19 "LineBuffersModel" "text" "[I" ∈ wsX6_parse := List.mem_of_getElem? (i := 5) rfl
theorem q_X6_parse_5 : Cond.fieldLink RX6 16 "LineBuffersModel" "aside" "[I" ∈ wsX6_parse := List.mem_of_getElem? (i := 6) rfl
theorem n_X6_parse_X6 : ∀ x ∈ u_ws RX6 TX6 12, x ∈ wsX6_parse := fun x h => List.mem_cons_of_mem _ (List.mem_append_right _ h)
set_option maxRecDepth 100000 in
set_option maxHeartbeats 4000000 in
theorem w_X6_parse_b100 {res : Int32 × SL} (C : Cx p s m args meth c cX6_parse 4 (some .int) RX6 wsX6_parse) (G : Gx D cs ad s) {Ls : Nat → SL} {Hs : SL} {T : SL} {dr : Int64} {hs : Int64} {o : Int64} {od : UInt64} {K38 : SL → Int32 → Option (Int32 × SL)} (hK38 : ∀ {M : SL} {x1 : Int32} {H : Heap} {locs : List Loc} {ls : Array Slot}, va_P D vwCl (wA cs ad Ls Hs T M dr hs o od) H → va_S (Afr ad s.heap.size) s.heap H locs → lv_has ls 4 [(0, .ref (ad 89)), (1, .int x1)] → K38 M x1 = some res → W p l e rmX6_parse s m args below meth c H locs 0 0 (MQ below (va_Qi (fun r' (_ : Unit) => r' = res.1) (fun _ t => va_P D vwCl (wA cs ad Ls Hs T res.2 dr hs o od) t.heap) (Afr ad s.heap.size)) args s 0 0 (Afr ad s.heap.size)) (F0 m 38 ls [])) {M : SL} {s0 : Int32} {H : Heap} {locs : List Loc} {ls : Array Slot} (hP : va_P D vwCl (wA cs ad Ls Hs T M dr hs o od) H) (hS : va_S (Afr ad s.heap.size) s.heap H locs) (hl : lv_has ls 4 [(0, .ref (ad 89))]) (h : f_X6_parse_b100 K38 M s0 = some res) : W p l e rmX6_parse s m args below meth c H locs 0 0 (MQ below (va_Qi (fun r' (_ : Unit) => r' = res.1) (fun _ t => va_P D vwCl (wA cs ad Ls Hs T res.2 dr hs o od) t.heap) (Afr ad s.heap.size)) args s 0 0 (Afr ad s.heap.size)) (F0 m 100 ls [.int s0]) := by
  unfold f_X6_parse_b100 at h
  refine lv_istore_n (lv' := [(1, .int s0), (0, .ref (ad 89))]) C.1 C.2.1 dX6_parse_100 rfl hl (by decide) rfl (fun ls hl => ?_)
  refine lv_goto (tgt := 38) C.1 C.2.1 dX6_parse_101 (by decide) ?_
  exact hK38 hP hS (lv_sub hl [1, 0] rfl)  h
set_option maxRecDepth 100000 in
set_option maxHeartbeats 4000000 in
theorem w_X6_parse_b99 {res : Int32 × SL} (C : Cx p s m args meth c cX6_parse 4 (some .int) RX6 wsX6_parse) (G : Gx D cs ad s) {Ls : Nat → SL} {Hs : SL} {T : SL} {dr : Int64} {hs : Int64} {o : Int64} {od : UInt64} {K38 : SL → Int32 → Option (Int32 × SL)} (hK38 : ∀ {M : SL} {x1 : Int32} {H : Heap} {locs : List Loc} {ls : Array Slot}, va_P D vwCl (wA cs ad Ls Hs T M dr hs o od) H → va_S (Afr ad s.heap.size) s.heap H locs → lv_has ls 4 [(0, .ref (ad 89)), (1, .int x1)] → K38 M x1 = some res → W p l e rmX6_parse s m args below meth c H locs 0 0 (MQ below (va_Qi (fun r' (_ : Unit) => r' = res.1) (fun _ t => va_P D vwCl (wA cs ad Ls Hs T res.2 dr hs o od) t.heap) (Afr ad s.heap.size)) args s 0 0 (Afr ad s.heap.size)) (F0 m 38 ls [])) {M : SL} {H : Heap} {locs : List Loc} {ls : Array Slot} (hP : va_P D vwCl (wA cs ad Ls Hs T M dr hs o od) H) (hS : va_S (Afr ad s.heap.size) s.heap H locs) (hl : lv_has ls 4 [(0, .ref (ad 89))]) (h : f_X6_parse_b99 K38 M = some res) : W p l e rmX6_parse s m args below meth c H locs 0 0 (MQ below (va_Qi (fun r' (_ : Unit) => r' = res.1) (fun _ t => va_P D vwCl (wA cs ad Ls Hs T res.2 dr hs o od) t.heap) (Afr ad s.heap.size)) args s 0 0 (Afr ad s.heap.size)) (F0 m 99 ls []) := by
  unfold f_X6_parse_b99 at h
  refine lv_iconst (v := 0) C.1 C.2.1 dX6_parse_99 (by decide) ?_
  exact w_X6_parse_b100 C G hK38 hP hS (lv_sub hl [0] rfl) h
set_option maxRecDepth 100000 in
set_option maxHeartbeats 4000000 in
theorem w_X6_parse_b106 {res : Int32 × SL} (C : Cx p s m args meth c cX6_parse 4 (some .int) RX6 wsX6_parse) (G : Gx D cs ad s) {Ls : Nat → SL} {Hs : SL} {T : SL} {dr : Int64} {hs : Int64} {o : Int64} {od : UInt64} {K106 : SL → Int32 → Int32 → Option (Int32 × SL)} (hK106 : ∀ {M : SL} {x1 : Int32} {x2 : Int32} {H : Heap} {locs : List Loc} {ls : Array Slot}, va_P D vwCl (wA cs ad Ls Hs T M dr hs o od) H → va_S (Afr ad s.heap.size) s.heap H locs → lv_has ls 4 [(0, .ref (ad 89)), (1, .int x1), (2, .int x2)] → K106 M x1 x2 = some res → W p l e rmX6_parse s m args below meth c H locs 0 0 (MQ below (va_Qi (fun r' (_ : Unit) => r' = res.1) (fun _ t => va_P D vwCl (wA cs ad Ls Hs T res.2 dr hs o od) t.heap) (Afr ad s.heap.size)) args s 0 0 (Afr ad s.heap.size)) (F0 m 106 ls [])) {M : SL} {x1 : Int32} {x2 : Int32} {H : Heap} {locs : List Loc} {ls : Array Slot} (hP : va_P D vwCl (wA cs ad Ls Hs T M dr hs o od) H) (hS : va_S (Afr ad s.heap.size) s.heap H locs) (hl : lv_has ls 4 [(0, .ref (ad 89)), (1, .int x1), (2, .int x2)]) (h : f_X6_parse_b106 K106 M x1 x2 = some res) : W p l e rmX6_parse s m args below meth c H locs 0 0 (MQ below (va_Qi (fun r' (_ : Unit) => r' = res.1) (fun _ t => va_P D vwCl (wA cs ad Ls Hs T res.2 dr hs o od) t.heap) (Afr ad s.heap.size)) args s 0 0 (Afr ad s.heap.size)) (F0 m 106 ls []) := by
  unfold f_X6_parse_b106 at h
  refine lv_iload_n C.1 C.2.1 dX6_parse_106 rfl (lv_at hl 2 rfl) ?_
  refine lv_sipush (v := 251) C.1 C.2.1 dX6_parse_107 (by decide) ?_
  refine lv_icmp_ge (tgt := 145) C.1 C.2.1 dX6_parse_110 (by decide) (fun c1 => ?_) (fun c1 => ?_)
  · have h := if_t c1 h
    refine lv_iload_n C.1 C.2.1 dX6_parse_145 rfl (lv_at hl 1 rfl) ?_
    refine lv_if_ne (tgt := 157) C.1 C.2.1 dX6_parse_146 (by decide) (fun c2 => ?_) (fun c2 => ?_)
    · have h := if_t c2 h
      refine lv_aload_n C.1 C.2.1 dX6_parse_157 rfl (lv_at hl 0 rfl) ?_
      obtain ⟨M3, c4, h⟩ := bd_out h
      refine k_callVv C G hP hS (m_X6_saves l G.2.1 _  c4) r_obj rfl (cwV 0 C.2.2.2.2.2.1 gX6_parse_X6_saves rfl rfl rfl (by decide +kernel) ⟨Nat.le_of_ble_eq_true rfl, Nat.le_of_ble_eq_true rfl⟩) (As := []) rfl hl.1 rfl (Nat.le_of_ble_eq_true rfl) dX6_parse_158 ⟨Nat.le_of_ble_eq_true rfl, Nat.le_of_ble_eq_true rfl⟩ (fun H locs hP hS => ?_)
      refine lv_aload_n C.1 C.2.1 dX6_parse_161 rfl (lv_at hl 0 rfl) ?_
      obtain ⟨M5, c6, h⟩ := bd_out h
      refine k_callVv C G hP hS (m_X6_takesBack l G.2.1 _  c6) r_obj rfl (cwV 0 C.2.2.2.2.2.1 gX6_parse_X6_takesBack rfl rfl rfl (by decide +kernel) ⟨Nat.le_of_ble_eq_true rfl, Nat.le_of_ble_eq_true rfl⟩) (As := []) rfl hl.1 rfl (Nat.le_of_ble_eq_true rfl) dX6_parse_162 ⟨Nat.le_of_ble_eq_true rfl, Nat.le_of_ble_eq_true rfl⟩ (fun H locs hP hS => ?_)
      refine lv_aload_n C.1 C.2.1 dX6_parse_165 rfl (lv_at hl 0 rfl) ?_
      refine k_getf C G hP r_obj rfl 0 (by decide) n_X6_parse_X6 q_X6_parse_2 (v := .ref (ad (89 + 1))) rfl dX6_parse_166 ?_
      refine lv_iconst (v := 0) C.1 C.2.1 dX6_parse_169 (by decide) ?_
      obtain ⟨v7, ev7, h⟩ := lt_out h
      refine k_iald C G hP (r_arr (k := 1) (by decide)) (chk_in rfl) (j := 0) rfl ev7 dX6_parse_170 ?_
      cases h
      exact k_iret C hP hS dX6_parse_171
    · have h := if_n c2 h
      refine lv_bipush (v := (-10)) C.1 C.2.1 dX6_parse_149 (by decide) ?_
      refine lv_aload_n C.1 C.2.1 dX6_parse_151 rfl (lv_at hl 0 rfl) ?_
      obtain ⟨v8, ev8, h⟩ := lt_out h
      refine k_geti C G hP r_obj rfl 9 (by decide) n_X6_parse_X6 q_X6_parse_1 rfl ev8 dX6_parse_152 ?_
      obtain ⟨v9, ev9, h⟩ := lt_out h
      refine k_isub C ev9 dX6_parse_155 ?_
      cases h
      exact k_iret C hP hS dX6_parse_156
  · have h := if_f c1 h
    refine lv_aload_n C.1 C.2.1 dX6_parse_113 rfl (lv_at hl 0 rfl) ?_
    refine k_getf C G hP r_obj rfl 0 (by decide) n_X6_parse_X6 q_X6_parse_2 (v := .ref (ad (89 + 1))) rfl dX6_parse_114 ?_
    refine lv_iload_n C.1 C.2.1 dX6_parse_117 rfl (lv_at hl 2 rfl) ?_
    obtain ⟨g10, h⟩ := gd_out h
    have g10 := chk_in g10
    obtain ⟨v11, ev11, h⟩ := lt_out h
    refine k_iald C G hP (r_arr (k := 1) (by decide)) g10 (j := x2.toNatClampNeg) rfl ev11 dX6_parse_118 ?_
    refine lv_istore_n (lv' := [(3, .int v11), (0, .ref (ad 89)), (1, .int x1), (2, .int x2)]) C.1 C.2.1 dX6_parse_119 rfl hl (by decide) rfl (fun ls hl => ?_)
    refine lv_aload_n C.1 C.2.1 dX6_parse_120 rfl (lv_at hl 1 rfl) ?_
    refine k_getf C G hP r_obj rfl 0 (by decide) n_X6_parse_X6 q_X6_parse_2 (v := .ref (ad (89 + 1))) rfl dX6_parse_121 ?_
    refine lv_iload_n C.1 C.2.1 dX6_parse_124 rfl (lv_at hl 3 rfl) ?_
    refine lv_aload_n C.1 C.2.1 dX6_parse_125 rfl (lv_at hl 1 rfl) ?_
    refine k_getf C G hP r_obj rfl 2 (by decide) n_X6_parse_X6 q_X6_parse_5 (v := .ref (ad (89 + 3))) rfl dX6_parse_126 ?_
    refine lv_iload_n C.1 C.2.1 dX6_parse_129 rfl (lv_at hl 3 rfl) ?_
    obtain ⟨v12, ev12, h⟩ := lt_out h
    refine k_iald C G hP (r_arr (k := 3) (by decide)) g10 (j := x2.toNatClampNeg) rfl ev12 dX6_parse_130 ?_
    obtain ⟨M13, eM13, h⟩ := lt_out h
    refine k_iast C G hP hS (r_arr (k := 1) (by decide)) g10 (j := x2.toNatClampNeg) rfl (r_arrS (k := 1) (by decide)) dX6_parse_131 (fun H locs hP hS => ?_)
    rw [← eM13] at hP
    refine lv_aload_n C.1 C.2.1 dX6_parse_132 rfl (lv_at hl 1 rfl) ?_
    refine k_getf C G hP r_obj rfl 2 (by decide) n_X6_parse_X6 q_X6_parse_5 (v := .ref (ad (89 + 3))) rfl dX6_parse_133 ?_
    refine lv_iload_n C.1 C.2.1 dX6_parse_136 rfl (lv_at hl 3 rfl) ?_
    refine lv_iload_n C.1 C.2.1 dX6_parse_137 rfl (lv_at hl 0 rfl) ?_
    obtain ⟨M14, eM14, h⟩ := lt_out h
    refine k_iast C G hP hS (r_arr (k := 3) (by decide)) g10 (j := x2.toNatClampNeg) rfl (r_arrS (k := 3) (by decide)) dX6_parse_138 (fun H locs hP hS => ?_)
    rw [← eM14] at hP
    obtain ⟨z15, ez15, h⟩ := lt_out h
    refine lv_iinc (v := z15) (lv' := [(2, .int z15), (3, .int v11), (0, .ref (ad 89)), (1, .int x1)]) C.1 C.2.1 dX6_parse_139 hl (k := 3) rfl (by rw [ez15]; rfl) (by decide) rfl (fun ls hl => ?_)
    refine lv_goto (tgt := 106) C.1 C.2.1 dX6_parse_142 (by decide) ?_
    exact hK106 hP hS (lv_sub hl [2, 3, 0] rfl)  h
set_option maxRecDepth 100000 in
set_option maxHeartbeats 4000000 in
theorem w_X6_parse_h106 {res : Int32 × SL} (C : Cx p s m args meth c cX6_parse 4 (some .int) RX6 wsX6_parse) (G : Gx D cs ad s) {Ls : Nat → SL} {Hs : SL} {T : SL} {dr : Int64} {hs : Int64} {o : Int64} {od : UInt64} : ∀ (n : Nat) {M : SL} {x1 : Int32} {x2 : Int32} {H : Heap} {locs : List Loc} {ls : Array Slot}, va_P D vwCl (wA cs ad Ls Hs T M dr hs o od) H → va_S (Afr ad s.heap.size) s.heap H locs → lv_has ls 4 [(0, .ref (ad 89)), (1, .int x1), (2, .int x2)] → f_X6_parse_h106 n M x1 x2 = some res → W p l e rmX6_parse s m args below meth c H locs 0 0 (MQ below (va_Qi (fun r' (_ : Unit) => r' = res.1) (fun _ t => va_P D vwCl (wA cs ad Ls Hs T res.2 dr hs o od) t.heap) (Afr ad s.heap.size)) args s 0 0 (Afr ad s.heap.size)) (F0 m 106 ls []) := by
  intro n
  induction n with
  | zero => intro M x1 x2 H locs ls hP hS hl  h; cases h
  | succ n ih => intro M x1 x2 H locs ls hP hS hl  h; exact w_X6_parse_b106 C G    ih hP hS hl  h
set_option maxRecDepth 100000 in
set_option maxHeartbeats 4000000 in
theorem w_X6_parse_b104 {res : Int32 × SL} (C : Cx p s m args meth c cX6_parse 4 (some .int) RX6 wsX6_parse) (G : Gx D cs ad s) {Ls : Nat → SL} {Hs : SL} {T : SL} {dr : Int64} {hs : Int64} {o : Int64} {od : UInt64} {M : SL} {x1 : Int32} {H : Heap} {locs : List Loc} {ls : Array Slot} (hP : va_P D vwCl (wA cs ad Ls Hs T M dr hs o od) H) (hS : va_S (Afr ad s.heap.size) s.heap H locs) (hl : lv_has ls 4 [(0, .ref (ad 89)), (1, .int x1)]) (h : f_X6_parse_b104 M x1 = some res) : W p l e rmX6_parse s m args below meth c H locs 0 0 (MQ below (va_Qi (fun r' (_ : Unit) => r' = res.1) (fun _ t => va_P D vwCl (wA cs ad Ls Hs T res.2 dr hs o od) t.heap) (Afr ad s.heap.size)) args s 0 0 (Afr ad s.heap.size)) (F0 m 104 ls []) := by
  unfold f_X6_parse_b104 at h
  refine lv_iconst (v := 0) C.1 C.2.1 dX6_parse_104 (by decide) ?_
  refine lv_istore_n (lv' := [(2, .int 0), (0, .ref (ad 89)), (1, .int x1)]) C.1 C.2.1 dX6_parse_105 rfl hl (by decide) rfl (fun ls hl => ?_)
  exact w_X6_parse_h106 C G fuel hP hS (lv_sub hl [1, 2, 0] rfl) h
set_option maxRecDepth 100000 in
set_option maxHeartbeats 4000000 in
theorem w_X6_parse_b38 {res : Int32 × SL} (C : Cx p s m args meth c cX6_parse 4 (some .int) RX6 wsX6_parse) (G : Gx D cs ad s) {Ls : Nat → SL} {Hs : SL} {T : SL} {dr : Int64} {hs : Int64} {o : Int64} {od : UInt64} {K38 : SL → Int32 → Option (Int32 × SL)} (hK38 : ∀ {M : SL} {x1 : Int32} {H : Heap} {locs : List Loc} {ls : Array Slot}, va_P D vwCl (wA cs ad Ls Hs T M dr hs o od) H → va_S (Afr ad s.heap.size) s.heap H locs → lv_has ls 4 [(0, .ref (ad 89)), (1, .int x1)] → K38 M x1 = some res → W p l e rmX6_parse s m args below meth c H locs 0 0 (MQ below (va_Qi (fun r' (_ : Unit) => r' = res.1) (fun _ t => va_P D vwCl (wA cs ad Ls Hs T res.2 dr hs o od) t.heap) (Afr ad s.heap.size)) args s 0 0 (Afr ad s.heap.size)) (F0 m 38 ls [])) {M : SL} {x1 : Int32} {H : Heap} {locs : List Loc} {ls : Array Slot} (hP : va_P D vwCl (wA cs ad Ls Hs T M dr hs o od) H) (hS : va_S (Afr ad s.heap.size) s.heap H locs) (hl : lv_has ls 4 [(0, .ref (ad 89)), (1, .int x1)]) (h : f_X6_parse_b38 K38 M x1 = some res) : W p l e rmX6_parse s m args below meth c H locs 0 0 (MQ below (va_Qi (fun r' (_ : Unit) => r' = res.1) (fun _ t => va_P D vwCl (wA cs ad Ls Hs T res.2 dr hs o od) t.heap) (Afr ad s.heap.size)) args s 0 0 (Afr ad s.heap.size)) (F0 m 38 ls []) := by
  unfold f_X6_parse_b38 at h
  refine lv_iload_n C.1 C.2.1 dX6_parse_38 rfl (lv_at hl 1 rfl) ?_
  refine lv_if_eq (tgt := 104) C.1 C.2.1 dX6_parse_39 (by decide) (fun c1 => ?_) (fun c1 => ?_)
  · have h := if_t c1 h
    exact w_X6_parse_b104 C G hP hS (lv_sub hl [0, 1] rfl) h
  · have h := if_f c1 h
    refine lv_aload_n C.1 C.2.1 dX6_parse_42 rfl (lv_at hl 0 rfl) ?_
    obtain ⟨v2, ev2, h⟩ := lt_out h
    refine k_geti C G hP r_obj rfl 9 (by decide) n_X6_parse_X6 q_X6_parse_1 rfl ev2 dX6_parse_43 ?_
    refine lv_aload_n C.1 C.2.1 dX6_parse_46 rfl (lv_at hl 0 rfl) ?_
    obtain ⟨v3, ev3, h⟩ := lt_out h
    refine k_geti C G hP r_obj rfl 6 (by decide) n_X6_parse_X6 q_X6_parse_3 rfl ev3 dX6_parse_47 ?_
    refine lv_icmp_ge (tgt := 104) C.1 C.2.1 dX6_parse_50 (by decide) (fun c4 => ?_) (fun c4 => ?_)
    · have h := if_t c4 h
      exact w_X6_parse_b104 C G hP hS (lv_sub hl [0, 1] rfl) h
    · have h := if_f c4 h
      refine lv_aload_n C.1 C.2.1 dX6_parse_53 rfl (lv_at hl 0 rfl) ?_
      refine k_getf C G hP r_obj rfl 5 (by decide) n_X6_parse_X6 q_X6_parse_4 (v := .ref (ad (89 + 4))) rfl dX6_parse_54 ?_
      refine lv_aload_n C.1 C.2.1 dX6_parse_57 rfl (lv_at hl 0 rfl) ?_
      obtain ⟨v5, ev5, h⟩ := lt_out h
      refine k_geti C G hP r_obj rfl 9 (by decide) n_X6_parse_X6 q_X6_parse_1 rfl ev5 dX6_parse_58 ?_
      obtain ⟨g6, h⟩ := gd_out h
      have g6 := chk_in g6
      obtain ⟨v7, ev7, h⟩ := lt_out h
      refine k_iald C G hP (r_arr (k := 4) (by decide)) g6 (j := v5.toNatClampNeg) rfl ev7 dX6_parse_61 ?_
      refine lv_bipush (v := 109) C.1 C.2.1 dX6_parse_62 (by decide) ?_
      refine lv_icmp_ne (tgt := 74) C.1 C.2.1 dX6_parse_64 (by decide) (fun c8 => ?_) (fun c8 => ?_)
      · have h := if_t c8 h
        refine lv_aload_n C.1 C.2.1 dX6_parse_74 rfl (lv_at hl 0 rfl) ?_
        refine k_getf C G hP r_obj rfl 5 (by decide) n_X6_parse_X6 q_X6_parse_4 (v := .ref (ad (89 + 4))) rfl dX6_parse_75 ?_
        refine lv_aload_n C.1 C.2.1 dX6_parse_78 rfl (lv_at hl 0 rfl) ?_
        obtain ⟨v9, ev9, h⟩ := lt_out h
        refine k_geti C G hP r_obj rfl 9 (by decide) n_X6_parse_X6 q_X6_parse_1 rfl ev9 dX6_parse_79 ?_
        obtain ⟨g10, h⟩ := gd_out h
        have g10 := chk_in g10
        obtain ⟨v11, ev11, h⟩ := lt_out h
        refine k_iald C G hP (r_arr (k := 4) (by decide)) g10 (j := v9.toNatClampNeg) rfl ev11 dX6_parse_82 ?_
        refine lv_bipush (v := 104) C.1 C.2.1 dX6_parse_83 (by decide) ?_
        refine lv_icmp_ne (tgt := 99) C.1 C.2.1 dX6_parse_85 (by decide) (fun c12 => ?_) (fun c12 => ?_)
        · have h := if_t c12 h
          exact w_X6_parse_b99 C G hK38 hP hS (lv_sub hl [0] rfl) h
        · have h := if_n c12 h
          refine lv_aload_n C.1 C.2.1 dX6_parse_88 rfl (lv_at hl 0 rfl) ?_
          obtain ⟨r13, M14, c15, h⟩ := bd2_out h
          refine k_callVi C G hP hS (m_X6_readsMarks l G.2.1 _  c15) r_obj rfl (cwV 0 C.2.2.2.2.2.1 gX6_parse_X6_readsMarks rfl rfl rfl (by decide +kernel) ⟨Nat.le_of_ble_eq_true rfl, Nat.le_of_ble_eq_true rfl⟩) (As := []) rfl hl.1 rfl (Nat.le_of_ble_eq_true rfl) dX6_parse_89 ⟨Nat.le_of_ble_eq_true rfl, Nat.le_of_ble_eq_true rfl⟩ (fun H locs hP hS => ?_)
          refine lv_if_eq (tgt := 99) C.1 C.2.1 dX6_parse_92 (by decide) (fun c16 => ?_) (fun c16 => ?_)
          · have h := if_t c16 h
            exact w_X6_parse_b99 C G hK38 hP hS (lv_sub hl [0] rfl) h
          · have h := if_f c16 h
            refine lv_iconst (v := 1) C.1 C.2.1 dX6_parse_95 (by decide) ?_
            refine lv_goto (tgt := 100) C.1 C.2.1 dX6_parse_96 (by decide) ?_
            exact w_X6_parse_b100 C G hK38 hP hS (lv_sub hl [0] rfl) h
      · have h := if_n c8 h
        refine lv_aload_n C.1 C.2.1 dX6_parse_67 rfl (lv_at hl 0 rfl) ?_
        obtain ⟨r17, M18, c19, h⟩ := bd2_out h
        refine k_callVi C G hP hS (m_X6_readsMachine l G.2.1 _  c19) r_obj rfl (cwV 0 C.2.2.2.2.2.1 gX6_parse_X6_readsMachine rfl rfl rfl (by decide +kernel) ⟨Nat.le_of_ble_eq_true rfl, Nat.le_of_ble_eq_true rfl⟩) (As := []) rfl hl.1 rfl (Nat.le_of_ble_eq_true rfl) dX6_parse_68 ⟨Nat.le_of_ble_eq_true rfl, Nat.le_of_ble_eq_true rfl⟩ (fun H locs hP hS => ?_)
        refine lv_goto (tgt := 100) C.1 C.2.1 dX6_parse_71 (by decide) ?_
        exact w_X6_parse_b100 C G hK38 hP hS (lv_sub hl [0] rfl) h
set_option maxRecDepth 100000 in
set_option maxHeartbeats 4000000 in
theorem w_X6_parse_h38 {res : Int32 × SL} (C : Cx p s m args meth c cX6_parse 4 (some .int) RX6 wsX6_parse) (G : Gx D cs ad s) {Ls : Nat → SL} {Hs : SL} {T : SL} {dr : Int64} {hs : Int64} {o : Int64} {od : UInt64} : ∀ (n : Nat) {M : SL} {x1 : Int32} {H : Heap} {locs : List Loc} {ls : Array Slot}, va_P D vwCl (wA cs ad Ls Hs T M dr hs o od) H → va_S (Afr ad s.heap.size) s.heap H locs → lv_has ls 4 [(0, .ref (ad 89)), (1, .int x1)] → f_X6_parse_h38 n M x1 = some res → W p l e rmX6_parse s m args below meth c H locs 0 0 (MQ below (va_Qi (fun r' (_ : Unit) => r' = res.1) (fun _ t => va_P D vwCl (wA cs ad Ls Hs T res.2 dr hs o od) t.heap) (Afr ad s.heap.size)) args s 0 0 (Afr ad s.heap.size)) (F0 m 38 ls []) := by
  intro n
  induction n with
  | zero => intro M x1 H locs ls hP hS hl  h; cases h
  | succ n ih => intro M x1 H locs ls hP hS hl  h; exact w_X6_parse_b38 C G    ih hP hS hl  h
set_option maxRecDepth 100000 in
set_option maxHeartbeats 4000000 in
theorem w_X6_parse_b11 {res : Int32 × SL} (C : Cx p s m args meth c cX6_parse 4 (some .int) RX6 wsX6_parse) (G : Gx D cs ad s) {Ls : Nat → SL} {Hs : SL} {T : SL} {dr : Int64} {hs : Int64} {o : Int64} {od : UInt64} {K11 : SL → Int32 → Option (Int32 × SL)} (hK11 : ∀ {M : SL} {x1 : Int32} {H : Heap} {locs : List Loc} {ls : Array Slot}, va_P D vwCl (wA cs ad Ls Hs T M dr hs o od) H → va_S (Afr ad s.heap.size) s.heap H locs → lv_has ls 4 [(0, .ref (ad 89)), (1, .int x1)] → K11 M x1 = some res → W p l e rmX6_parse s m args below meth c H locs 0 0 (MQ below (va_Qi (fun r' (_ : Unit) => r' = res.1) (fun _ t => va_P D vwCl (wA cs ad Ls Hs T res.2 dr hs o od) t.heap) (Afr ad s.heap.size)) args s 0 0 (Afr ad s.heap.size)) (F0 m 11 ls [])) {M : SL} {x1 : Int32} {H : Heap} {locs : List Loc} {ls : Array Slot} (hP : va_P D vwCl (wA cs ad Ls Hs T M dr hs o od) H) (hS : va_S (Afr ad s.heap.size) s.heap H locs) (hl : lv_has ls 4 [(0, .ref (ad 89)), (1, .int x1)]) (h : f_X6_parse_b11 K11 M x1 = some res) : W p l e rmX6_parse s m args below meth c H locs 0 0 (MQ below (va_Qi (fun r' (_ : Unit) => r' = res.1) (fun _ t => va_P D vwCl (wA cs ad Ls Hs T res.2 dr hs o od) t.heap) (Afr ad s.heap.size)) args s 0 0 (Afr ad s.heap.size)) (F0 m 11 ls []) := by
  unfold f_X6_parse_b11 at h
  refine lv_iload_n C.1 C.2.1 dX6_parse_11 rfl (lv_at hl 1 rfl) ?_
  refine lv_sipush (v := 251) C.1 C.2.1 dX6_parse_12 (by decide) ?_
  refine lv_icmp_ge (tgt := 31) C.1 C.2.1 dX6_parse_15 (by decide) (fun c1 => ?_) (fun c1 => ?_)
  · have h := if_t c1 h
    refine lv_aload_n C.1 C.2.1 dX6_parse_31 rfl (lv_at hl 0 rfl) ?_
    refine lv_iconst (v := 0) C.1 C.2.1 dX6_parse_32 (by decide) ?_
    obtain ⟨M2, eM2, h⟩ := lt_out h
    refine k_puti C G hP hS r_obj rfl 9 (by decide) n_X6_parse_X6 q_X6_parse_1 tyX6_ok nmX6 rfl (tyX6_ok 9 (by decide)) (Nat.le_of_ble_eq_true rfl) r_objS9 dX6_parse_33 (fun H locs hP hS => ?_)
    rw [← eM2] at hP
    refine lv_iconst (v := 1) C.1 C.2.1 dX6_parse_36 (by decide) ?_
    refine lv_istore_n (lv' := [(1, .int 1), (0, .ref (ad 89))]) C.1 C.2.1 dX6_parse_37 rfl hl (by decide) rfl (fun ls hl => ?_)
    exact w_X6_parse_h38 C G fuel hP hS (lv_sub hl [1, 0] rfl) h
  · have h := if_f c1 h
    refine lv_aload_n C.1 C.2.1 dX6_parse_18 rfl (lv_at hl 0 rfl) ?_
    refine k_getf C G hP r_obj rfl 0 (by decide) n_X6_parse_X6 q_X6_parse_2 (v := .ref (ad (89 + 1))) rfl dX6_parse_19 ?_
    refine lv_iload_n C.1 C.2.1 dX6_parse_22 rfl (lv_at hl 1 rfl) ?_
    refine lv_iconst (v := 0) C.1 C.2.1 dX6_parse_23 (by decide) ?_
    obtain ⟨g3, h⟩ := gd_out h
    have g3 := chk_in g3
    obtain ⟨M4, eM4, h⟩ := lt_out h
    refine k_iast C G hP hS (r_arr (k := 1) (by decide)) g3 (j := x1.toNatClampNeg) rfl (r_arrS (k := 1) (by decide)) dX6_parse_24 (fun H locs hP hS => ?_)
    rw [← eM4] at hP
    obtain ⟨z5, ez5, h⟩ := lt_out h
    refine lv_iinc (v := z5) (lv' := [(1, .int z5), (0, .ref (ad 89))]) C.1 C.2.1 dX6_parse_25 hl (k := 1) rfl (by rw [ez5]; rfl) (by decide) rfl (fun ls hl => ?_)
    refine lv_goto (tgt := 11) C.1 C.2.1 dX6_parse_28 (by decide) ?_
    exact hK11 hP hS (lv_sub hl [1, 0] rfl)  h
set_option maxRecDepth 100000 in
set_option maxHeartbeats 4000000 in
theorem w_X6_parse_h11 {res : Int32 × SL} (C : Cx p s m args meth c cX6_parse 4 (some .int) RX6 wsX6_parse) (G : Gx D cs ad s) {Ls : Nat → SL} {Hs : SL} {T : SL} {dr : Int64} {hs : Int64} {o : Int64} {od : UInt64} : ∀ (n : Nat) {M : SL} {x1 : Int32} {H : Heap} {locs : List Loc} {ls : Array Slot}, va_P D vwCl (wA cs ad Ls Hs T M dr hs o od) H → va_S (Afr ad s.heap.size) s.heap H locs → lv_has ls 4 [(0, .ref (ad 89)), (1, .int x1)] → f_X6_parse_h11 n M x1 = some res → W p l e rmX6_parse s m args below meth c H locs 0 0 (MQ below (va_Qi (fun r' (_ : Unit) => r' = res.1) (fun _ t => va_P D vwCl (wA cs ad Ls Hs T res.2 dr hs o od) t.heap) (Afr ad s.heap.size)) args s 0 0 (Afr ad s.heap.size)) (F0 m 11 ls []) := by
  intro n
  induction n with
  | zero => intro M x1 H locs ls hP hS hl  h; cases h
  | succ n ih => intro M x1 H locs ls hP hS hl  h; exact w_X6_parse_b11 C G    ih hP hS hl  h
set_option maxRecDepth 100000 in
set_option maxHeartbeats 4000000 in
theorem w_X6_parse_e {res : Int32 × SL} (C : Cx p s m args meth c cX6_parse 4 (some .int) RX6 wsX6_parse) (G : Gx D cs ad s) {Ls : Nat → SL} {Hs : SL} {T : SL} {dr : Int64} {hs : Int64} {o : Int64} {od : UInt64} {M : SL} {H : Heap} {locs : List Loc} {ls : Array Slot} (hP : va_P D vwCl (wA cs ad Ls Hs T M dr hs o od) H) (hS : va_S (Afr ad s.heap.size) s.heap H locs) (hl : lv_has ls 4 [(0, .ref (ad 89))]) (h : f_X6_parse M = some res) : W p l e rmX6_parse s m args below meth c H locs 0 0 (MQ below (va_Qi (fun r' (_ : Unit) => r' = res.1) (fun _ t => va_P D vwCl (wA cs ad Ls Hs T res.2 dr hs o od) t.heap) (Afr ad s.heap.size)) args s 0 0 (Afr ad s.heap.size)) (F0 m 0 ls []) := by
  unfold f_X6_parse at h
  refine lv_aload_n C.1 C.2.1 dX6_parse_0 rfl (lv_at hl 0 rfl) ?_
  refine lv_iconst (v := 0) C.1 C.2.1 dX6_parse_1 (by decide) ?_
  obtain ⟨M1, eM1, h⟩ := lt_out h
  refine k_puti C G hP hS r_obj rfl 4 (by decide) n_X6_parse_X6 q_X6_parse_0 tyX6_ok nmX6 rfl (tyX6_ok 4 (by decide)) (Nat.le_of_ble_eq_true rfl) r_objS4 dX6_parse_2 (fun H locs hP hS => ?_)
  rw [← eM1] at hP
  refine lv_aload_n C.1 C.2.1 dX6_parse_5 rfl (lv_at hl 0 rfl) ?_
  obtain ⟨M2, c3, h⟩ := bd_out h
  refine k_callVv C G hP hS (m_X6_keeps l G.2.1 _  c3) r_obj rfl (cwV 0 C.2.2.2.2.2.1 gX6_parse_X6_keeps rfl rfl rfl (by decide +kernel) ⟨Nat.le_of_ble_eq_true rfl, Nat.le_of_ble_eq_true rfl⟩) (As := []) rfl hl.1 rfl (Nat.le_of_ble_eq_true rfl) dX6_parse_6 ⟨Nat.le_of_ble_eq_true rfl, Nat.le_of_ble_eq_true rfl⟩ (fun H locs hP hS => ?_)
  refine lv_iconst (v := 0) C.1 C.2.1 dX6_parse_9 (by decide) ?_
  refine lv_istore_n (lv' := [(1, .int 0), (0, .ref (ad 89))]) C.1 C.2.1 dX6_parse_10 rfl hl (by decide) rfl (fun ls hl => ?_)
  exact w_X6_parse_h11 C G fuel hP hS (lv_sub hl [1, 0] rfl) h
set_option maxRecDepth 100000 in
set_option maxHeartbeats 4000000 in
theorem m_X6_parse (l : Launch) {D : va_G} {cs : Nat → ClassId} {ad : Nat → Nat} (hAd : adOK ad) (sz : Nat) {Ls : Nat → SL} {Hs : SL} {T : SL} {M : SL} {dr : Int64} {hs : Int64} {o : Int64} {od : UInt64} {res : Int32 × SL} (h : f_X6_parse M = some res) : Met l yX6_parse wsX6_parse rmX6_parse (PA D cs sz (wA cs ad Ls Hs T M dr hs o od) [.ref (ad 89)]) (va_Qi (fun r' (_ : Unit) => r' = res.1) (fun _ t => va_P D vwCl (wA cs ad Ls Hs T res.2 dr hs o od) t.heap) (Afr ad sz)) 0 0 (Afr ad sz) :=
  k_met (by decide) rfl (Nat.le_of_ble_eq_true rfl) hAd (fun p e s m below meth c ls C G hP hsz hl hS => by
    subst hsz
    exact w_X6_parse_e C G  hP hS hl  h)
/-! X6 mix -/
abbrev rmX6_mix : Room := { frames := 0, cells := 0, slots := 0, locals := 0 }
theorem q_X6_mix_0 : Cond.constantLong RX6 176 (31) ∈ wsX6_mix := List.mem_of_getElem? (i := 1) rfl
theorem q_X6_mix_1 : Cond.fieldLink RX6 178 "LineBuffersModel" "hash" "J" ∈ wsX6_mix := List.mem_of_getElem? (i := 2) rfl
theorem n_X6_mix_X6 : ∀ x ∈ u_ws RX6 TX6 12, x ∈ wsX6_mix := fun x h => List.mem_cons_of_mem _ (List.mem_append_right _ h)
set_option maxRecDepth 100000 in
set_option maxHeartbeats 4000000 in
theorem w_X6_mix_e {res : Int64} (C : Cx p s m args meth c cX6_mix 2 none RX6 wsX6_mix) (G : Gx D cs ad s) {Ls : Nat → SL} {Hs : SL} {T : SL} {M : SL} {dr : Int64} {o : Int64} {od : UInt64} {hs : Int64} {x1 : Int32} {H : Heap} {locs : List Loc} {ls : Array Slot} (hP : va_P D vwCl (wA cs ad Ls Hs T M dr hs o od) H) (hS : va_S (Afr ad s.heap.size) s.heap H locs) (hl : lv_has ls 2 [(0, .ref (ad 89)), (1, .int x1)]) (h : f_X6_mix hs x1 = some res) : W p l e rmX6_mix s m args below meth c H locs 0 0 (MQ below (va_Qv (fun (_ : Unit) => True) (fun _ t => va_P D vwCl (wA cs ad Ls Hs T M dr res o od) t.heap) (Afr ad s.heap.size)) args s 0 0 (Afr ad s.heap.size)) (F0 m 0 ls []) := by
  unfold f_X6_mix at h
  refine lv_aload_n C.1 C.2.1 dX6_mix_0 rfl (lv_at hl 0 rfl) ?_
  refine k_ldcl C G q_X6_mix_0 dX6_mix_1 ?_
  refine lv_aload_n C.1 C.2.1 dX6_mix_4 rfl (lv_at hl 0 rfl) ?_
  obtain ⟨w1, ew1, h⟩ := lt_out h
  refine k_getl C G hP r_obj rfl 11 (by decide) n_X6_mix_X6 q_X6_mix_1 rfl ew1 dX6_mix_5 ?_
  obtain ⟨w2, ew2, h⟩ := lt_out h
  refine k_lmul C ew2 dX6_mix_8 ?_
  refine lv_iload_n C.1 C.2.1 dX6_mix_9 rfl (lv_at hl 1 rfl) ?_
  obtain ⟨w3, ew3, h⟩ := lt_out h
  refine k_i2l C ew3 dX6_mix_10 ?_
  obtain ⟨w4, ew4, h⟩ := lt_out h
  refine k_ladd C ew4 dX6_mix_11 ?_
  obtain ⟨hs5, ehs5, h⟩ := lt_out h
  refine k_putl C G hP hS r_obj rfl 11 (by decide) n_X6_mix_X6 q_X6_mix_1 tyX6_ok nmX6 rfl (tyX6_ok 11 (by decide)) (Nat.le_of_ble_eq_true rfl) r_objS11 dX6_mix_12 (fun H locs hP hS => ?_)
  rw [← ehs5] at hP
  cases h
  exact k_vret C hP hS dX6_mix_15
set_option maxRecDepth 100000 in
set_option maxHeartbeats 4000000 in
theorem m_X6_mix (l : Launch) {D : va_G} {cs : Nat → ClassId} {ad : Nat → Nat} (hAd : adOK ad) (sz : Nat) {Ls : Nat → SL} {Hs : SL} {T : SL} {M : SL} {dr : Int64} {hs : Int64} {o : Int64} {od : UInt64} {x1 : Int32} {res : Int64} (h : f_X6_mix hs x1 = some res) : Met l yX6_mix wsX6_mix rmX6_mix (PA D cs sz (wA cs ad Ls Hs T M dr hs o od) [.ref (ad 89), .int x1]) (va_Qv (fun (_ : Unit) => True) (fun _ t => va_P D vwCl (wA cs ad Ls Hs T M dr res o od) t.heap) (Afr ad sz)) 0 0 (Afr ad sz) :=
  k_met (by decide) rfl (Nat.le_of_ble_eq_true rfl) hAd (fun p e s m below meth c ls C G hP hsz hl hS => by
    subst hsz
    exact w_X6_mix_e C G  hP hS hl  h)
/-! X6 digest -/
abbrev rmX6_digest : Room := { frames := 2, cells := 0, slots := 0, locals := 42 }
theorem q_X6_digest_0 : Cond.fieldLink RX6 25 "LineBuffersModel" "refusal" "I" ∈ wsX6_digest := List.mem_of_getElem? (i := 1) rfl
theorem q_X6_digest_1 : Cond.constantLong RX6 181 (3109) ∈ wsX6_digest := List.mem_of_getElem? (i := 2) rfl
theorem q_X6_digest_2 : Cond.fieldLink RX6 178 "LineBuffersModel" "hash" "J" ∈ wsX6_digest := List.mem_of_getElem? (i := 3) rfl
theorem q_X6_digest_3 : Cond.fieldLink RX6 151 "LineBuffersModel" "length" "I" ∈ wsX6_digest := List.mem_of_getElem? (i := 4) rfl
theorem q_X6_digest_4 : Cond.fieldLink RX6 7 "LineBuffersModel" "now" "[I" ∈ wsX6_digest := List.mem_of_getElem? (i := 5) rfl
theorem q_X6_digest_5 : Cond.fieldLink RX6 33 "LineBuffersModel" "saved" "I" ∈ wsX6_digest := List.mem_of_getElem? (i := 6) rfl
theorem n_X6_digest_X6 : ∀ x ∈ u_ws RX6 TX6 12, x ∈ wsX6_digest := fun x h => List.mem_cons_of_mem _ (List.mem_append_right _ h)
set_option maxRecDepth 100000 in
set_option maxHeartbeats 4000000 in
theorem w_X6_digest_b113 {res : Int64 × SL × Int64} (C : Cx p s m args meth c cX6_digest 3 (some .long) RX6 wsX6_digest) (G : Gx D cs ad s) {Ls : Nat → SL} {Hs : SL} {T : SL} {dr : Int64} {o : Int64} {od : UInt64} {K50 : SL → Int64 → Int32 → Option (Int64 × SL × Int64)} (hK50 : ∀ {M : SL} {hs : Int64} {x1 : Int32} {H : Heap} {locs : List Loc} {ls : Array Slot}, va_P D vwCl (wA cs ad Ls Hs T M dr hs o od) H → va_S (Afr ad s.heap.size) s.heap H locs → lv_has ls 3 [(0, .ref (ad 89)), (1, .int x1)] → K50 M hs x1 = some res → W p l e rmX6_digest s m args below meth c H locs 0 0 (MQ below (va_Ql (fun r' (_ : Unit) => r' = res.1) (fun _ t => va_P D vwCl (wA cs ad Ls Hs T res.2.1 dr res.2.2 o od) t.heap) (Afr ad s.heap.size)) args s 0 0 (Afr ad s.heap.size)) (F0 m 50 ls [])) {K113 : SL → Int64 → Int32 → Int32 → Option (Int64 × SL × Int64)} (hK113 : ∀ {M : SL} {hs : Int64} {x1 : Int32} {x2 : Int32} {H : Heap} {locs : List Loc} {ls : Array Slot}, va_P D vwCl (wA cs ad Ls Hs T M dr hs o od) H → va_S (Afr ad s.heap.size) s.heap H locs → lv_has ls 3 [(0, .ref (ad 89)), (1, .int x1), (2, .int x2)] → K113 M hs x1 x2 = some res → W p l e rmX6_digest s m args below meth c H locs 0 0 (MQ below (va_Ql (fun r' (_ : Unit) => r' = res.1) (fun _ t => va_P D vwCl (wA cs ad Ls Hs T res.2.1 dr res.2.2 o od) t.heap) (Afr ad s.heap.size)) args s 0 0 (Afr ad s.heap.size)) (F0 m 113 ls [])) {M : SL} {hs : Int64} {x1 : Int32} {x2 : Int32} {H : Heap} {locs : List Loc} {ls : Array Slot} (hP : va_P D vwCl (wA cs ad Ls Hs T M dr hs o od) H) (hS : va_S (Afr ad s.heap.size) s.heap H locs) (hl : lv_has ls 3 [(0, .ref (ad 89)), (1, .int x1), (2, .int x2)]) (h : f_X6_digest_b113 K50 K113 M hs x1 x2 = some res) : W p l e rmX6_digest s m args below meth c H locs 0 0 (MQ below (va_Ql (fun r' (_ : Unit) => r' = res.1) (fun _ t => va_P D vwCl (wA cs ad Ls Hs T res.2.1 dr res.2.2 o od) t.heap) (Afr ad s.heap.size)) args s 0 0 (Afr ad s.heap.size)) (F0 m 113 ls []) := by
  unfold f_X6_digest_b113 at h
  refine lv_iload_n C.1 C.2.1 dX6_digest_113 rfl (lv_at hl 2 rfl) ?_
  refine lv_bipush (v := 6) C.1 C.2.1 dX6_digest_114 (by decide) ?_
  refine lv_icmp_ge (tgt := 143) C.1 C.2.1 dX6_digest_116 (by decide) (fun c1 => ?_) (fun c1 => ?_)
  · have h := if_t c1 h
    obtain ⟨z2, ez2, h⟩ := lt_out h
    refine lv_iinc (v := z2) (lv' := [(1, .int z2), (0, .ref (ad 89)), (2, .int x2)]) C.1 C.2.1 dX6_digest_143 hl (k := 1) rfl (by rw [ez2]; rfl) (by decide) rfl (fun ls hl => ?_)
    refine lv_goto (tgt := 50) C.1 C.2.1 dX6_digest_146 (by decide) ?_
    exact hK50 hP hS (lv_sub hl [1, 0] rfl)  h
  · have h := if_f c1 h
    refine lv_aload_n C.1 C.2.1 dX6_digest_119 rfl (lv_at hl 0 rfl) ?_
    refine lv_aload_n C.1 C.2.1 dX6_digest_120 rfl (lv_at hl 0 rfl) ?_
    refine k_getf C G hP r_obj rfl 0 (by decide) n_X6_digest_X6 q_X6_digest_4 (v := .ref (ad (89 + 1))) rfl dX6_digest_121 ?_
    refine lv_iload_n C.1 C.2.1 dX6_digest_124 rfl (lv_at hl 1 rfl) ?_
    obtain ⟨r3, c4, h⟩ := bd_out h
    refine k_callSi C G hP hS (m_X6_of l G.2.1 _  c4) (va_cwS 1 C.2.2.2.2.2.1 gX6_digest_X6_of rfl rfl rfl (by decide +kernel) ⟨Nat.le_of_ble_eq_true rfl, Nat.le_of_ble_eq_true rfl⟩) (As := [.int x1]) rfl hl.1 rfl (Nat.le_of_ble_eq_true rfl) dX6_digest_125 ⟨Nat.le_of_ble_eq_true rfl, Nat.le_of_ble_eq_true rfl⟩ (fun H locs hP hS => ?_)
    refine lv_bipush (v := 9) C.1 C.2.1 dX6_digest_128 (by decide) ?_
    obtain ⟨v5, ev5, h⟩ := lt_out h
    refine k_iadd C ev5 dX6_digest_130 ?_
    refine lv_iload_n C.1 C.2.1 dX6_digest_131 rfl (lv_at hl 2 rfl) ?_
    obtain ⟨v6, ev6, h⟩ := lt_out h
    refine k_iadd C ev6 dX6_digest_132 ?_
    obtain ⟨g7, h⟩ := gd_out h
    have g7 := chk_in g7
    obtain ⟨v8, ev8, h⟩ := lt_out h
    refine k_iald C G hP (r_arr (k := 1) (by decide)) g7 (j := v6.toNatClampNeg) rfl ev8 dX6_digest_133 ?_
    obtain ⟨hs9, c10, h⟩ := bd_out h
    refine k_callVv C G hP hS (m_X6_mix l G.2.1 _  c10) r_obj rfl (cwV 1 C.2.2.2.2.2.1 gX6_digest_X6_mix rfl rfl rfl (by decide +kernel) ⟨Nat.le_of_ble_eq_true rfl, Nat.le_of_ble_eq_true rfl⟩) (As := [.int v8]) rfl hl.1 rfl (Nat.le_of_ble_eq_true rfl) dX6_digest_134 ⟨Nat.le_of_ble_eq_true rfl, Nat.le_of_ble_eq_true rfl⟩ (fun H locs hP hS => ?_)
    obtain ⟨z11, ez11, h⟩ := lt_out h
    refine lv_iinc (v := z11) (lv' := [(2, .int z11), (0, .ref (ad 89)), (1, .int x1)]) C.1 C.2.1 dX6_digest_137 hl (k := 2) rfl (by rw [ez11]; rfl) (by decide) rfl (fun ls hl => ?_)
    refine lv_goto (tgt := 113) C.1 C.2.1 dX6_digest_140 (by decide) ?_
    exact hK113 hP hS (lv_sub hl [1, 2, 0] rfl)  h
set_option maxRecDepth 100000 in
set_option maxHeartbeats 4000000 in
theorem w_X6_digest_h113 {res : Int64 × SL × Int64} (C : Cx p s m args meth c cX6_digest 3 (some .long) RX6 wsX6_digest) (G : Gx D cs ad s) {Ls : Nat → SL} {Hs : SL} {T : SL} {dr : Int64} {o : Int64} {od : UInt64} {K50 : SL → Int64 → Int32 → Option (Int64 × SL × Int64)} (hK50 : ∀ {M : SL} {hs : Int64} {x1 : Int32} {H : Heap} {locs : List Loc} {ls : Array Slot}, va_P D vwCl (wA cs ad Ls Hs T M dr hs o od) H → va_S (Afr ad s.heap.size) s.heap H locs → lv_has ls 3 [(0, .ref (ad 89)), (1, .int x1)] → K50 M hs x1 = some res → W p l e rmX6_digest s m args below meth c H locs 0 0 (MQ below (va_Ql (fun r' (_ : Unit) => r' = res.1) (fun _ t => va_P D vwCl (wA cs ad Ls Hs T res.2.1 dr res.2.2 o od) t.heap) (Afr ad s.heap.size)) args s 0 0 (Afr ad s.heap.size)) (F0 m 50 ls [])) : ∀ (n : Nat) {M : SL} {hs : Int64} {x1 : Int32} {x2 : Int32} {H : Heap} {locs : List Loc} {ls : Array Slot}, va_P D vwCl (wA cs ad Ls Hs T M dr hs o od) H → va_S (Afr ad s.heap.size) s.heap H locs → lv_has ls 3 [(0, .ref (ad 89)), (1, .int x1), (2, .int x2)] → f_X6_digest_h113 K50 n M hs x1 x2 = some res → W p l e rmX6_digest s m args below meth c H locs 0 0 (MQ below (va_Ql (fun r' (_ : Unit) => r' = res.1) (fun _ t => va_P D vwCl (wA cs ad Ls Hs T res.2.1 dr res.2.2 o od) t.heap) (Afr ad s.heap.size)) args s 0 0 (Afr ad s.heap.size)) (F0 m 113 ls []) := by
  intro n
  induction n with
  | zero => intro M hs x1 x2 H locs ls hP hS hl  h; cases h
  | succ n ih => intro M hs x1 x2 H locs ls hP hS hl  h; exact w_X6_digest_b113 C G   hK50 ih hP hS hl  h
set_option maxRecDepth 100000 in
set_option maxHeartbeats 4000000 in
theorem w_X6_digest_b90 {res : Int64 × SL × Int64} (C : Cx p s m args meth c cX6_digest 3 (some .long) RX6 wsX6_digest) (G : Gx D cs ad s) {Ls : Nat → SL} {Hs : SL} {T : SL} {dr : Int64} {o : Int64} {od : UInt64} {K50 : SL → Int64 → Int32 → Option (Int64 × SL × Int64)} (hK50 : ∀ {M : SL} {hs : Int64} {x1 : Int32} {H : Heap} {locs : List Loc} {ls : Array Slot}, va_P D vwCl (wA cs ad Ls Hs T M dr hs o od) H → va_S (Afr ad s.heap.size) s.heap H locs → lv_has ls 3 [(0, .ref (ad 89)), (1, .int x1)] → K50 M hs x1 = some res → W p l e rmX6_digest s m args below meth c H locs 0 0 (MQ below (va_Ql (fun r' (_ : Unit) => r' = res.1) (fun _ t => va_P D vwCl (wA cs ad Ls Hs T res.2.1 dr res.2.2 o od) t.heap) (Afr ad s.heap.size)) args s 0 0 (Afr ad s.heap.size)) (F0 m 50 ls [])) {K90 : SL → Int64 → Int32 → Int32 → Option (Int64 × SL × Int64)} (hK90 : ∀ {M : SL} {hs : Int64} {x1 : Int32} {x2 : Int32} {H : Heap} {locs : List Loc} {ls : Array Slot}, va_P D vwCl (wA cs ad Ls Hs T M dr hs o od) H → va_S (Afr ad s.heap.size) s.heap H locs → lv_has ls 3 [(0, .ref (ad 89)), (1, .int x1), (2, .int x2)] → K90 M hs x1 x2 = some res → W p l e rmX6_digest s m args below meth c H locs 0 0 (MQ below (va_Ql (fun r' (_ : Unit) => r' = res.1) (fun _ t => va_P D vwCl (wA cs ad Ls Hs T res.2.1 dr res.2.2 o od) t.heap) (Afr ad s.heap.size)) args s 0 0 (Afr ad s.heap.size)) (F0 m 90 ls [])) {M : SL} {hs : Int64} {x1 : Int32} {x2 : Int32} {H : Heap} {locs : List Loc} {ls : Array Slot} (hP : va_P D vwCl (wA cs ad Ls Hs T M dr hs o od) H) (hS : va_S (Afr ad s.heap.size) s.heap H locs) (hl : lv_has ls 3 [(0, .ref (ad 89)), (1, .int x1), (2, .int x2)]) (h : f_X6_digest_b90 K50 K90 M hs x1 x2 = some res) : W p l e rmX6_digest s m args below meth c H locs 0 0 (MQ below (va_Ql (fun r' (_ : Unit) => r' = res.1) (fun _ t => va_P D vwCl (wA cs ad Ls Hs T res.2.1 dr res.2.2 o od) t.heap) (Afr ad s.heap.size)) args s 0 0 (Afr ad s.heap.size)) (F0 m 90 ls []) := by
  unfold f_X6_digest_b90 at h
  refine lv_iload_n C.1 C.2.1 dX6_digest_90 rfl (lv_at hl 2 rfl) ?_
  refine lv_iconst (v := 4) C.1 C.2.1 dX6_digest_91 (by decide) ?_
  refine lv_icmp_ge (tgt := 111) C.1 C.2.1 dX6_digest_92 (by decide) (fun c1 => ?_) (fun c1 => ?_)
  · have h := if_t c1 h
    refine lv_iconst (v := 0) C.1 C.2.1 dX6_digest_111 (by decide) ?_
    refine lv_istore_n (lv' := [(2, .int 0), (0, .ref (ad 89)), (1, .int x1)]) C.1 C.2.1 dX6_digest_112 rfl hl (by decide) rfl (fun ls hl => ?_)
    exact w_X6_digest_h113 C G hK50 fuel hP hS (lv_sub hl [1, 2, 0] rfl) h
  · have h := if_f c1 h
    refine lv_aload_n C.1 C.2.1 dX6_digest_95 rfl (lv_at hl 0 rfl) ?_
    refine lv_aload_n C.1 C.2.1 dX6_digest_96 rfl (lv_at hl 0 rfl) ?_
    refine lv_iload_n C.1 C.2.1 dX6_digest_97 rfl (lv_at hl 1 rfl) ?_
    refine lv_iload_n C.1 C.2.1 dX6_digest_98 rfl (lv_at hl 2 rfl) ?_
    obtain ⟨r2, c3, h⟩ := bd_out h
    refine k_callVi C G hP hS (m_X6_tellMachine l G.2.1 _  c3) r_obj rfl (cwV 2 C.2.2.2.2.2.1 gX6_digest_X6_tellMachine rfl rfl rfl (by decide +kernel) ⟨Nat.le_of_ble_eq_true rfl, Nat.le_of_ble_eq_true rfl⟩) (As := [.int x1, .int x2]) rfl hl.1 rfl (Nat.le_of_ble_eq_true rfl) dX6_digest_99 ⟨Nat.le_of_ble_eq_true rfl, Nat.le_of_ble_eq_true rfl⟩ (fun H locs hP hS => ?_)
    obtain ⟨hs4, c5, h⟩ := bd_out h
    refine k_callVv C G hP hS (m_X6_mix l G.2.1 _  c5) r_obj rfl (cwV 1 C.2.2.2.2.2.1 gX6_digest_X6_mix rfl rfl rfl (by decide +kernel) ⟨Nat.le_of_ble_eq_true rfl, Nat.le_of_ble_eq_true rfl⟩) (As := [.int r2]) rfl hl.1 rfl (Nat.le_of_ble_eq_true rfl) dX6_digest_102 ⟨Nat.le_of_ble_eq_true rfl, Nat.le_of_ble_eq_true rfl⟩ (fun H locs hP hS => ?_)
    obtain ⟨z6, ez6, h⟩ := lt_out h
    refine lv_iinc (v := z6) (lv' := [(2, .int z6), (0, .ref (ad 89)), (1, .int x1)]) C.1 C.2.1 dX6_digest_105 hl (k := 2) rfl (by rw [ez6]; rfl) (by decide) rfl (fun ls hl => ?_)
    refine lv_goto (tgt := 90) C.1 C.2.1 dX6_digest_108 (by decide) ?_
    exact hK90 hP hS (lv_sub hl [1, 2, 0] rfl)  h
set_option maxRecDepth 100000 in
set_option maxHeartbeats 4000000 in
theorem w_X6_digest_h90 {res : Int64 × SL × Int64} (C : Cx p s m args meth c cX6_digest 3 (some .long) RX6 wsX6_digest) (G : Gx D cs ad s) {Ls : Nat → SL} {Hs : SL} {T : SL} {dr : Int64} {o : Int64} {od : UInt64} {K50 : SL → Int64 → Int32 → Option (Int64 × SL × Int64)} (hK50 : ∀ {M : SL} {hs : Int64} {x1 : Int32} {H : Heap} {locs : List Loc} {ls : Array Slot}, va_P D vwCl (wA cs ad Ls Hs T M dr hs o od) H → va_S (Afr ad s.heap.size) s.heap H locs → lv_has ls 3 [(0, .ref (ad 89)), (1, .int x1)] → K50 M hs x1 = some res → W p l e rmX6_digest s m args below meth c H locs 0 0 (MQ below (va_Ql (fun r' (_ : Unit) => r' = res.1) (fun _ t => va_P D vwCl (wA cs ad Ls Hs T res.2.1 dr res.2.2 o od) t.heap) (Afr ad s.heap.size)) args s 0 0 (Afr ad s.heap.size)) (F0 m 50 ls [])) : ∀ (n : Nat) {M : SL} {hs : Int64} {x1 : Int32} {x2 : Int32} {H : Heap} {locs : List Loc} {ls : Array Slot}, va_P D vwCl (wA cs ad Ls Hs T M dr hs o od) H → va_S (Afr ad s.heap.size) s.heap H locs → lv_has ls 3 [(0, .ref (ad 89)), (1, .int x1), (2, .int x2)] → f_X6_digest_h90 K50 n M hs x1 x2 = some res → W p l e rmX6_digest s m args below meth c H locs 0 0 (MQ below (va_Ql (fun r' (_ : Unit) => r' = res.1) (fun _ t => va_P D vwCl (wA cs ad Ls Hs T res.2.1 dr res.2.2 o od) t.heap) (Afr ad s.heap.size)) args s 0 0 (Afr ad s.heap.size)) (F0 m 90 ls []) := by
  intro n
  induction n with
  | zero => intro M hs x1 x2 H locs ls hP hS hl  h; cases h
  | succ n ih => intro M hs x1 x2 H locs ls hP hS hl  h; exact w_X6_digest_b90 C G   hK50 ih hP hS hl  h
set_option maxRecDepth 100000 in
set_option maxHeartbeats 4000000 in
theorem w_X6_digest_b62 {res : Int64 × SL × Int64} (C : Cx p s m args meth c cX6_digest 3 (some .long) RX6 wsX6_digest) (G : Gx D cs ad s) {Ls : Nat → SL} {Hs : SL} {T : SL} {dr : Int64} {o : Int64} {od : UInt64} {K50 : SL → Int64 → Int32 → Option (Int64 × SL × Int64)} (hK50 : ∀ {M : SL} {hs : Int64} {x1 : Int32} {H : Heap} {locs : List Loc} {ls : Array Slot}, va_P D vwCl (wA cs ad Ls Hs T M dr hs o od) H → va_S (Afr ad s.heap.size) s.heap H locs → lv_has ls 3 [(0, .ref (ad 89)), (1, .int x1)] → K50 M hs x1 = some res → W p l e rmX6_digest s m args below meth c H locs 0 0 (MQ below (va_Ql (fun r' (_ : Unit) => r' = res.1) (fun _ t => va_P D vwCl (wA cs ad Ls Hs T res.2.1 dr res.2.2 o od) t.heap) (Afr ad s.heap.size)) args s 0 0 (Afr ad s.heap.size)) (F0 m 50 ls [])) {K62 : SL → Int64 → Int32 → Int32 → Option (Int64 × SL × Int64)} (hK62 : ∀ {M : SL} {hs : Int64} {x1 : Int32} {x2 : Int32} {H : Heap} {locs : List Loc} {ls : Array Slot}, va_P D vwCl (wA cs ad Ls Hs T M dr hs o od) H → va_S (Afr ad s.heap.size) s.heap H locs → lv_has ls 3 [(0, .ref (ad 89)), (1, .int x1), (2, .int x2)] → K62 M hs x1 x2 = some res → W p l e rmX6_digest s m args below meth c H locs 0 0 (MQ below (va_Ql (fun r' (_ : Unit) => r' = res.1) (fun _ t => va_P D vwCl (wA cs ad Ls Hs T res.2.1 dr res.2.2 o od) t.heap) (Afr ad s.heap.size)) args s 0 0 (Afr ad s.heap.size)) (F0 m 62 ls [])) {M : SL} {hs : Int64} {x1 : Int32} {x2 : Int32} {H : Heap} {locs : List Loc} {ls : Array Slot} (hP : va_P D vwCl (wA cs ad Ls Hs T M dr hs o od) H) (hS : va_S (Afr ad s.heap.size) s.heap H locs) (hl : lv_has ls 3 [(0, .ref (ad 89)), (1, .int x1), (2, .int x2)]) (h : f_X6_digest_b62 K50 K62 M hs x1 x2 = some res) : W p l e rmX6_digest s m args below meth c H locs 0 0 (MQ below (va_Ql (fun r' (_ : Unit) => r' = res.1) (fun _ t => va_P D vwCl (wA cs ad Ls Hs T res.2.1 dr res.2.2 o od) t.heap) (Afr ad s.heap.size)) args s 0 0 (Afr ad s.heap.size)) (F0 m 62 ls []) := by
  unfold f_X6_digest_b62 at h
  refine lv_iload_n C.1 C.2.1 dX6_digest_62 rfl (lv_at hl 2 rfl) ?_
  refine lv_iconst (v := 5) C.1 C.2.1 dX6_digest_63 (by decide) ?_
  refine lv_icmp_ge (tgt := 88) C.1 C.2.1 dX6_digest_64 (by decide) (fun c1 => ?_) (fun c1 => ?_)
  · have h := if_t c1 h
    refine lv_iconst (v := 0) C.1 C.2.1 dX6_digest_88 (by decide) ?_
    refine lv_istore_n (lv' := [(2, .int 0), (0, .ref (ad 89)), (1, .int x1)]) C.1 C.2.1 dX6_digest_89 rfl hl (by decide) rfl (fun ls hl => ?_)
    exact w_X6_digest_h90 C G hK50 fuel hP hS (lv_sub hl [1, 2, 0] rfl) h
  · have h := if_f c1 h
    refine lv_aload_n C.1 C.2.1 dX6_digest_67 rfl (lv_at hl 0 rfl) ?_
    refine lv_aload_n C.1 C.2.1 dX6_digest_68 rfl (lv_at hl 0 rfl) ?_
    refine k_getf C G hP r_obj rfl 0 (by decide) n_X6_digest_X6 q_X6_digest_4 (v := .ref (ad (89 + 1))) rfl dX6_digest_69 ?_
    refine lv_iload_n C.1 C.2.1 dX6_digest_72 rfl (lv_at hl 1 rfl) ?_
    obtain ⟨r2, c3, h⟩ := bd_out h
    refine k_callSi C G hP hS (m_X6_of l G.2.1 _  c3) (va_cwS 1 C.2.2.2.2.2.1 gX6_digest_X6_of rfl rfl rfl (by decide +kernel) ⟨Nat.le_of_ble_eq_true rfl, Nat.le_of_ble_eq_true rfl⟩) (As := [.int x1]) rfl hl.1 rfl (Nat.le_of_ble_eq_true rfl) dX6_digest_73 ⟨Nat.le_of_ble_eq_true rfl, Nat.le_of_ble_eq_true rfl⟩ (fun H locs hP hS => ?_)
    refine lv_iload_n C.1 C.2.1 dX6_digest_76 rfl (lv_at hl 2 rfl) ?_
    obtain ⟨v4, ev4, h⟩ := lt_out h
    refine k_iadd C ev4 dX6_digest_77 ?_
    obtain ⟨g5, h⟩ := gd_out h
    have g5 := chk_in g5
    obtain ⟨v6, ev6, h⟩ := lt_out h
    refine k_iald C G hP (r_arr (k := 1) (by decide)) g5 (j := v4.toNatClampNeg) rfl ev6 dX6_digest_78 ?_
    obtain ⟨hs7, c8, h⟩ := bd_out h
    refine k_callVv C G hP hS (m_X6_mix l G.2.1 _  c8) r_obj rfl (cwV 1 C.2.2.2.2.2.1 gX6_digest_X6_mix rfl rfl rfl (by decide +kernel) ⟨Nat.le_of_ble_eq_true rfl, Nat.le_of_ble_eq_true rfl⟩) (As := [.int v6]) rfl hl.1 rfl (Nat.le_of_ble_eq_true rfl) dX6_digest_79 ⟨Nat.le_of_ble_eq_true rfl, Nat.le_of_ble_eq_true rfl⟩ (fun H locs hP hS => ?_)
    obtain ⟨z9, ez9, h⟩ := lt_out h
    refine lv_iinc (v := z9) (lv' := [(2, .int z9), (0, .ref (ad 89)), (1, .int x1)]) C.1 C.2.1 dX6_digest_82 hl (k := 2) rfl (by rw [ez9]; rfl) (by decide) rfl (fun ls hl => ?_)
    refine lv_goto (tgt := 62) C.1 C.2.1 dX6_digest_85 (by decide) ?_
    exact hK62 hP hS (lv_sub hl [1, 2, 0] rfl)  h
set_option maxRecDepth 100000 in
set_option maxHeartbeats 4000000 in
theorem w_X6_digest_h62 {res : Int64 × SL × Int64} (C : Cx p s m args meth c cX6_digest 3 (some .long) RX6 wsX6_digest) (G : Gx D cs ad s) {Ls : Nat → SL} {Hs : SL} {T : SL} {dr : Int64} {o : Int64} {od : UInt64} {K50 : SL → Int64 → Int32 → Option (Int64 × SL × Int64)} (hK50 : ∀ {M : SL} {hs : Int64} {x1 : Int32} {H : Heap} {locs : List Loc} {ls : Array Slot}, va_P D vwCl (wA cs ad Ls Hs T M dr hs o od) H → va_S (Afr ad s.heap.size) s.heap H locs → lv_has ls 3 [(0, .ref (ad 89)), (1, .int x1)] → K50 M hs x1 = some res → W p l e rmX6_digest s m args below meth c H locs 0 0 (MQ below (va_Ql (fun r' (_ : Unit) => r' = res.1) (fun _ t => va_P D vwCl (wA cs ad Ls Hs T res.2.1 dr res.2.2 o od) t.heap) (Afr ad s.heap.size)) args s 0 0 (Afr ad s.heap.size)) (F0 m 50 ls [])) : ∀ (n : Nat) {M : SL} {hs : Int64} {x1 : Int32} {x2 : Int32} {H : Heap} {locs : List Loc} {ls : Array Slot}, va_P D vwCl (wA cs ad Ls Hs T M dr hs o od) H → va_S (Afr ad s.heap.size) s.heap H locs → lv_has ls 3 [(0, .ref (ad 89)), (1, .int x1), (2, .int x2)] → f_X6_digest_h62 K50 n M hs x1 x2 = some res → W p l e rmX6_digest s m args below meth c H locs 0 0 (MQ below (va_Ql (fun r' (_ : Unit) => r' = res.1) (fun _ t => va_P D vwCl (wA cs ad Ls Hs T res.2.1 dr res.2.2 o od) t.heap) (Afr ad s.heap.size)) args s 0 0 (Afr ad s.heap.size)) (F0 m 62 ls []) := by
  intro n
  induction n with
  | zero => intro M hs x1 x2 H locs ls hP hS hl  h; cases h
  | succ n ih => intro M hs x1 x2 H locs ls hP hS hl  h; exact w_X6_digest_b62 C G   hK50 ih hP hS hl  h
set_option maxRecDepth 100000 in
set_option maxHeartbeats 4000000 in
theorem w_X6_digest_b161 {res : Int64 × SL × Int64} (C : Cx p s m args meth c cX6_digest 3 (some .long) RX6 wsX6_digest) (G : Gx D cs ad s) {Ls : Nat → SL} {Hs : SL} {T : SL} {dr : Int64} {o : Int64} {od : UInt64} {K161 : SL → Int64 → Int32 → Option (Int64 × SL × Int64)} (hK161 : ∀ {M : SL} {hs : Int64} {x1 : Int32} {H : Heap} {locs : List Loc} {ls : Array Slot}, va_P D vwCl (wA cs ad Ls Hs T M dr hs o od) H → va_S (Afr ad s.heap.size) s.heap H locs → lv_has ls 3 [(0, .ref (ad 89)), (1, .int x1)] → K161 M hs x1 = some res → W p l e rmX6_digest s m args below meth c H locs 0 0 (MQ below (va_Ql (fun r' (_ : Unit) => r' = res.1) (fun _ t => va_P D vwCl (wA cs ad Ls Hs T res.2.1 dr res.2.2 o od) t.heap) (Afr ad s.heap.size)) args s 0 0 (Afr ad s.heap.size)) (F0 m 161 ls [])) {M : SL} {hs : Int64} {x1 : Int32} {H : Heap} {locs : List Loc} {ls : Array Slot} (hP : va_P D vwCl (wA cs ad Ls Hs T M dr hs o od) H) (hS : va_S (Afr ad s.heap.size) s.heap H locs) (hl : lv_has ls 3 [(0, .ref (ad 89)), (1, .int x1)]) (h : f_X6_digest_b161 K161 M hs x1 = some res) : W p l e rmX6_digest s m args below meth c H locs 0 0 (MQ below (va_Ql (fun r' (_ : Unit) => r' = res.1) (fun _ t => va_P D vwCl (wA cs ad Ls Hs T res.2.1 dr res.2.2 o od) t.heap) (Afr ad s.heap.size)) args s 0 0 (Afr ad s.heap.size)) (F0 m 161 ls []) := by
  unfold f_X6_digest_b161 at h
  refine lv_iload_n C.1 C.2.1 dX6_digest_161 rfl (lv_at hl 1 rfl) ?_
  refine lv_iconst (v := 3) C.1 C.2.1 dX6_digest_162 (by decide) ?_
  refine lv_aload_n C.1 C.2.1 dX6_digest_163 rfl (lv_at hl 0 rfl) ?_
  refine k_getf C G hP r_obj rfl 0 (by decide) n_X6_digest_X6 q_X6_digest_4 (v := .ref (ad (89 + 1))) rfl dX6_digest_164 ?_
  refine lv_iconst (v := 2) C.1 C.2.1 dX6_digest_167 (by decide) ?_
  obtain ⟨v1, ev1, h⟩ := lt_out h
  refine k_iald C G hP (r_arr (k := 1) (by decide)) (chk_in rfl) (j := 2) rfl ev1 dX6_digest_168 ?_
  obtain ⟨v2, ev2, h⟩ := lt_out h
  refine k_imul C ev2 dX6_digest_169 ?_
  refine lv_icmp_ge (tgt := 193) C.1 C.2.1 dX6_digest_170 (by decide) (fun c3 => ?_) (fun c3 => ?_)
  · have h := if_t c3 h
    refine lv_aload_n C.1 C.2.1 dX6_digest_193 rfl (lv_at hl 0 rfl) ?_
    refine lv_aload_n C.1 C.2.1 dX6_digest_194 rfl (lv_at hl 0 rfl) ?_
    obtain ⟨r4, c5, h⟩ := bd_out h
    refine k_callVi C G hP hS (m_X6_bottles l G.2.1 _  c5) r_obj rfl (cwV 0 C.2.2.2.2.2.1 gX6_digest_X6_bottles rfl rfl rfl (by decide +kernel) ⟨Nat.le_of_ble_eq_true rfl, Nat.le_of_ble_eq_true rfl⟩) (As := []) rfl hl.1 rfl (Nat.le_of_ble_eq_true rfl) dX6_digest_195 ⟨Nat.le_of_ble_eq_true rfl, Nat.le_of_ble_eq_true rfl⟩ (fun H locs hP hS => ?_)
    obtain ⟨hs6, c7, h⟩ := bd_out h
    refine k_callVv C G hP hS (m_X6_mix l G.2.1 _  c7) r_obj rfl (cwV 1 C.2.2.2.2.2.1 gX6_digest_X6_mix rfl rfl rfl (by decide +kernel) ⟨Nat.le_of_ble_eq_true rfl, Nat.le_of_ble_eq_true rfl⟩) (As := [.int r4]) rfl hl.1 rfl (Nat.le_of_ble_eq_true rfl) dX6_digest_198 ⟨Nat.le_of_ble_eq_true rfl, Nat.le_of_ble_eq_true rfl⟩ (fun H locs hP hS => ?_)
    refine lv_aload_n C.1 C.2.1 dX6_digest_201 rfl (lv_at hl 0 rfl) ?_
    refine lv_aload_n C.1 C.2.1 dX6_digest_202 rfl (lv_at hl 0 rfl) ?_
    obtain ⟨v8, ev8, h⟩ := lt_out h
    refine k_geti C G hP r_obj rfl 3 (by decide) n_X6_digest_X6 q_X6_digest_5 rfl ev8 dX6_digest_203 ?_
    obtain ⟨hs9, c10, h⟩ := bd_out h
    refine k_callVv C G hP hS (m_X6_mix l G.2.1 _  c10) r_obj rfl (cwV 1 C.2.2.2.2.2.1 gX6_digest_X6_mix rfl rfl rfl (by decide +kernel) ⟨Nat.le_of_ble_eq_true rfl, Nat.le_of_ble_eq_true rfl⟩) (As := [.int v8]) rfl hl.1 rfl (Nat.le_of_ble_eq_true rfl) dX6_digest_206 ⟨Nat.le_of_ble_eq_true rfl, Nat.le_of_ble_eq_true rfl⟩ (fun H locs hP hS => ?_)
    refine lv_aload_n C.1 C.2.1 dX6_digest_209 rfl (lv_at hl 0 rfl) ?_
    obtain ⟨w11, ew11, h⟩ := lt_out h
    refine k_getl C G hP r_obj rfl 11 (by decide) n_X6_digest_X6 q_X6_digest_2 rfl ew11 dX6_digest_210 ?_
    cases h
    exact k_lret C hP hS dX6_digest_213
  · have h := if_f c3 h
    refine lv_aload_n C.1 C.2.1 dX6_digest_173 rfl (lv_at hl 0 rfl) ?_
    refine lv_aload_n C.1 C.2.1 dX6_digest_174 rfl (lv_at hl 0 rfl) ?_
    refine k_getf C G hP r_obj rfl 0 (by decide) n_X6_digest_X6 q_X6_digest_4 (v := .ref (ad (89 + 1))) rfl dX6_digest_175 ?_
    refine lv_sipush (v := 131) C.1 C.2.1 dX6_digest_178 (by decide) ?_
    refine lv_iload_n C.1 C.2.1 dX6_digest_181 rfl (lv_at hl 1 rfl) ?_
    obtain ⟨v12, ev12, h⟩ := lt_out h
    refine k_iadd C ev12 dX6_digest_182 ?_
    obtain ⟨g13, h⟩ := gd_out h
    have g13 := chk_in g13
    obtain ⟨v14, ev14, h⟩ := lt_out h
    refine k_iald C G hP (r_arr (k := 1) (by decide)) g13 (j := v12.toNatClampNeg) rfl ev14 dX6_digest_183 ?_
    obtain ⟨hs15, c16, h⟩ := bd_out h
    refine k_callVv C G hP hS (m_X6_mix l G.2.1 _  c16) r_obj rfl (cwV 1 C.2.2.2.2.2.1 gX6_digest_X6_mix rfl rfl rfl (by decide +kernel) ⟨Nat.le_of_ble_eq_true rfl, Nat.le_of_ble_eq_true rfl⟩) (As := [.int v14]) rfl hl.1 rfl (Nat.le_of_ble_eq_true rfl) dX6_digest_184 ⟨Nat.le_of_ble_eq_true rfl, Nat.le_of_ble_eq_true rfl⟩ (fun H locs hP hS => ?_)
    obtain ⟨z17, ez17, h⟩ := lt_out h
    refine lv_iinc (v := z17) (lv' := [(1, .int z17), (0, .ref (ad 89))]) C.1 C.2.1 dX6_digest_187 hl (k := 1) rfl (by rw [ez17]; rfl) (by decide) rfl (fun ls hl => ?_)
    refine lv_goto (tgt := 161) C.1 C.2.1 dX6_digest_190 (by decide) ?_
    exact hK161 hP hS (lv_sub hl [1, 0] rfl)  h
set_option maxRecDepth 100000 in
set_option maxHeartbeats 4000000 in
theorem w_X6_digest_h161 {res : Int64 × SL × Int64} (C : Cx p s m args meth c cX6_digest 3 (some .long) RX6 wsX6_digest) (G : Gx D cs ad s) {Ls : Nat → SL} {Hs : SL} {T : SL} {dr : Int64} {o : Int64} {od : UInt64} : ∀ (n : Nat) {M : SL} {hs : Int64} {x1 : Int32} {H : Heap} {locs : List Loc} {ls : Array Slot}, va_P D vwCl (wA cs ad Ls Hs T M dr hs o od) H → va_S (Afr ad s.heap.size) s.heap H locs → lv_has ls 3 [(0, .ref (ad 89)), (1, .int x1)] → f_X6_digest_h161 n M hs x1 = some res → W p l e rmX6_digest s m args below meth c H locs 0 0 (MQ below (va_Ql (fun r' (_ : Unit) => r' = res.1) (fun _ t => va_P D vwCl (wA cs ad Ls Hs T res.2.1 dr res.2.2 o od) t.heap) (Afr ad s.heap.size)) args s 0 0 (Afr ad s.heap.size)) (F0 m 161 ls []) := by
  intro n
  induction n with
  | zero => intro M hs x1 H locs ls hP hS hl  h; cases h
  | succ n ih => intro M hs x1 H locs ls hP hS hl  h; exact w_X6_digest_b161 C G    ih hP hS hl  h
set_option maxRecDepth 100000 in
set_option maxHeartbeats 4000000 in
theorem w_X6_digest_b50 {res : Int64 × SL × Int64} (C : Cx p s m args meth c cX6_digest 3 (some .long) RX6 wsX6_digest) (G : Gx D cs ad s) {Ls : Nat → SL} {Hs : SL} {T : SL} {dr : Int64} {o : Int64} {od : UInt64} {K50 : SL → Int64 → Int32 → Option (Int64 × SL × Int64)} (hK50 : ∀ {M : SL} {hs : Int64} {x1 : Int32} {H : Heap} {locs : List Loc} {ls : Array Slot}, va_P D vwCl (wA cs ad Ls Hs T M dr hs o od) H → va_S (Afr ad s.heap.size) s.heap H locs → lv_has ls 3 [(0, .ref (ad 89)), (1, .int x1)] → K50 M hs x1 = some res → W p l e rmX6_digest s m args below meth c H locs 0 0 (MQ below (va_Ql (fun r' (_ : Unit) => r' = res.1) (fun _ t => va_P D vwCl (wA cs ad Ls Hs T res.2.1 dr res.2.2 o od) t.heap) (Afr ad s.heap.size)) args s 0 0 (Afr ad s.heap.size)) (F0 m 50 ls [])) {M : SL} {hs : Int64} {x1 : Int32} {H : Heap} {locs : List Loc} {ls : Array Slot} (hP : va_P D vwCl (wA cs ad Ls Hs T M dr hs o od) H) (hS : va_S (Afr ad s.heap.size) s.heap H locs) (hl : lv_has ls 3 [(0, .ref (ad 89)), (1, .int x1)]) (h : f_X6_digest_b50 K50 M hs x1 = some res) : W p l e rmX6_digest s m args below meth c H locs 0 0 (MQ below (va_Ql (fun r' (_ : Unit) => r' = res.1) (fun _ t => va_P D vwCl (wA cs ad Ls Hs T res.2.1 dr res.2.2 o od) t.heap) (Afr ad s.heap.size)) args s 0 0 (Afr ad s.heap.size)) (F0 m 50 ls []) := by
  unfold f_X6_digest_b50 at h
  refine lv_iload_n C.1 C.2.1 dX6_digest_50 rfl (lv_at hl 1 rfl) ?_
  refine lv_aload_n C.1 C.2.1 dX6_digest_51 rfl (lv_at hl 0 rfl) ?_
  refine k_getf C G hP r_obj rfl 0 (by decide) n_X6_digest_X6 q_X6_digest_4 (v := .ref (ad (89 + 1))) rfl dX6_digest_52 ?_
  refine lv_iconst (v := 0) C.1 C.2.1 dX6_digest_55 (by decide) ?_
  obtain ⟨v1, ev1, h⟩ := lt_out h
  refine k_iald C G hP (r_arr (k := 1) (by decide)) (chk_in rfl) (j := 0) rfl ev1 dX6_digest_56 ?_
  refine lv_icmp_ge (tgt := 149) C.1 C.2.1 dX6_digest_57 (by decide) (fun c2 => ?_) (fun c2 => ?_)
  · have h := if_t c2 h
    refine lv_aload_n C.1 C.2.1 dX6_digest_149 rfl (lv_at hl 0 rfl) ?_
    refine lv_aload_n C.1 C.2.1 dX6_digest_150 rfl (lv_at hl 0 rfl) ?_
    refine k_getf C G hP r_obj rfl 0 (by decide) n_X6_digest_X6 q_X6_digest_4 (v := .ref (ad (89 + 1))) rfl dX6_digest_151 ?_
    refine lv_iconst (v := 2) C.1 C.2.1 dX6_digest_154 (by decide) ?_
    obtain ⟨v3, ev3, h⟩ := lt_out h
    refine k_iald C G hP (r_arr (k := 1) (by decide)) (chk_in rfl) (j := 2) rfl ev3 dX6_digest_155 ?_
    obtain ⟨hs4, c5, h⟩ := bd_out h
    refine k_callVv C G hP hS (m_X6_mix l G.2.1 _  c5) r_obj rfl (cwV 1 C.2.2.2.2.2.1 gX6_digest_X6_mix rfl rfl rfl (by decide +kernel) ⟨Nat.le_of_ble_eq_true rfl, Nat.le_of_ble_eq_true rfl⟩) (As := [.int v3]) rfl hl.1 rfl (Nat.le_of_ble_eq_true rfl) dX6_digest_156 ⟨Nat.le_of_ble_eq_true rfl, Nat.le_of_ble_eq_true rfl⟩ (fun H locs hP hS => ?_)
    refine lv_iconst (v := 0) C.1 C.2.1 dX6_digest_159 (by decide) ?_
    refine lv_istore_n (lv' := [(1, .int 0), (0, .ref (ad 89))]) C.1 C.2.1 dX6_digest_160 rfl hl (by decide) rfl (fun ls hl => ?_)
    exact w_X6_digest_h161 C G fuel hP hS (lv_sub hl [1, 0] rfl) h
  · have h := if_f c2 h
    refine lv_iconst (v := 0) C.1 C.2.1 dX6_digest_60 (by decide) ?_
    refine lv_istore_n (lv' := [(2, .int 0), (0, .ref (ad 89)), (1, .int x1)]) C.1 C.2.1 dX6_digest_61 rfl hl (by decide) rfl (fun ls hl => ?_)
    exact w_X6_digest_h62 C G hK50 fuel hP hS (lv_sub hl [1, 2, 0] rfl) h
set_option maxRecDepth 100000 in
set_option maxHeartbeats 4000000 in
theorem w_X6_digest_h50 {res : Int64 × SL × Int64} (C : Cx p s m args meth c cX6_digest 3 (some .long) RX6 wsX6_digest) (G : Gx D cs ad s) {Ls : Nat → SL} {Hs : SL} {T : SL} {dr : Int64} {o : Int64} {od : UInt64} : ∀ (n : Nat) {M : SL} {hs : Int64} {x1 : Int32} {H : Heap} {locs : List Loc} {ls : Array Slot}, va_P D vwCl (wA cs ad Ls Hs T M dr hs o od) H → va_S (Afr ad s.heap.size) s.heap H locs → lv_has ls 3 [(0, .ref (ad 89)), (1, .int x1)] → f_X6_digest_h50 n M hs x1 = some res → W p l e rmX6_digest s m args below meth c H locs 0 0 (MQ below (va_Ql (fun r' (_ : Unit) => r' = res.1) (fun _ t => va_P D vwCl (wA cs ad Ls Hs T res.2.1 dr res.2.2 o od) t.heap) (Afr ad s.heap.size)) args s 0 0 (Afr ad s.heap.size)) (F0 m 50 ls []) := by
  intro n
  induction n with
  | zero => intro M hs x1 H locs ls hP hS hl  h; cases h
  | succ n ih => intro M hs x1 H locs ls hP hS hl  h; exact w_X6_digest_b50 C G    ih hP hS hl  h
set_option maxRecDepth 100000 in
set_option maxHeartbeats 4000000 in
theorem w_X6_digest_e {res : Int64 × SL × Int64} (C : Cx p s m args meth c cX6_digest 3 (some .long) RX6 wsX6_digest) (G : Gx D cs ad s) {Ls : Nat → SL} {Hs : SL} {T : SL} {dr : Int64} {o : Int64} {od : UInt64} {M : SL} {hs : Int64} {H : Heap} {locs : List Loc} {ls : Array Slot} (hP : va_P D vwCl (wA cs ad Ls Hs T M dr hs o od) H) (hS : va_S (Afr ad s.heap.size) s.heap H locs) (hl : lv_has ls 3 [(0, .ref (ad 89))]) (h : f_X6_digest M hs = some res) : W p l e rmX6_digest s m args below meth c H locs 0 0 (MQ below (va_Ql (fun r' (_ : Unit) => r' = res.1) (fun _ t => va_P D vwCl (wA cs ad Ls Hs T res.2.1 dr res.2.2 o od) t.heap) (Afr ad s.heap.size)) args s 0 0 (Afr ad s.heap.size)) (F0 m 0 ls []) := by
  unfold f_X6_digest at h
  refine lv_aload_n C.1 C.2.1 dX6_digest_0 rfl (lv_at hl 0 rfl) ?_
  refine lv_iconst (v := 0) C.1 C.2.1 dX6_digest_1 (by decide) ?_
  obtain ⟨M1, eM1, h⟩ := lt_out h
  refine k_puti C G hP hS r_obj rfl 4 (by decide) n_X6_digest_X6 q_X6_digest_0 tyX6_ok nmX6 rfl (tyX6_ok 4 (by decide)) (Nat.le_of_ble_eq_true rfl) r_objS4 dX6_digest_2 (fun H locs hP hS => ?_)
  rw [← eM1] at hP
  refine lv_aload_n C.1 C.2.1 dX6_digest_5 rfl (lv_at hl 0 rfl) ?_
  refine k_ldcl C G q_X6_digest_1 dX6_digest_6 ?_
  obtain ⟨hs2, ehs2, h⟩ := lt_out h
  refine k_putl C G hP hS r_obj rfl 11 (by decide) n_X6_digest_X6 q_X6_digest_2 tyX6_ok nmX6 rfl (tyX6_ok 11 (by decide)) (Nat.le_of_ble_eq_true rfl) r_objS11 dX6_digest_9 (fun H locs hP hS => ?_)
  rw [← ehs2] at hP
  refine lv_aload_n C.1 C.2.1 dX6_digest_12 rfl (lv_at hl 0 rfl) ?_
  refine lv_aload_n C.1 C.2.1 dX6_digest_13 rfl (lv_at hl 0 rfl) ?_
  obtain ⟨v3, ev3, h⟩ := lt_out h
  refine k_geti C G hP r_obj rfl 6 (by decide) n_X6_digest_X6 q_X6_digest_3 rfl ev3 dX6_digest_14 ?_
  obtain ⟨hs4, c5, h⟩ := bd_out h
  refine k_callVv C G hP hS (m_X6_mix l G.2.1 _  c5) r_obj rfl (cwV 1 C.2.2.2.2.2.1 gX6_digest_X6_mix rfl rfl rfl (by decide +kernel) ⟨Nat.le_of_ble_eq_true rfl, Nat.le_of_ble_eq_true rfl⟩) (As := [.int v3]) rfl hl.1 rfl (Nat.le_of_ble_eq_true rfl) dX6_digest_17 ⟨Nat.le_of_ble_eq_true rfl, Nat.le_of_ble_eq_true rfl⟩ (fun H locs hP hS => ?_)
  refine lv_aload_n C.1 C.2.1 dX6_digest_20 rfl (lv_at hl 0 rfl) ?_
  refine lv_aload_n C.1 C.2.1 dX6_digest_21 rfl (lv_at hl 0 rfl) ?_
  refine k_getf C G hP r_obj rfl 0 (by decide) n_X6_digest_X6 q_X6_digest_4 (v := .ref (ad (89 + 1))) rfl dX6_digest_22 ?_
  refine lv_iconst (v := 1) C.1 C.2.1 dX6_digest_25 (by decide) ?_
  obtain ⟨v6, ev6, h⟩ := lt_out h
  refine k_iald C G hP (r_arr (k := 1) (by decide)) (chk_in rfl) (j := 1) rfl ev6 dX6_digest_26 ?_
  obtain ⟨hs7, c8, h⟩ := bd_out h
  refine k_callVv C G hP hS (m_X6_mix l G.2.1 _  c8) r_obj rfl (cwV 1 C.2.2.2.2.2.1 gX6_digest_X6_mix rfl rfl rfl (by decide +kernel) ⟨Nat.le_of_ble_eq_true rfl, Nat.le_of_ble_eq_true rfl⟩) (As := [.int v6]) rfl hl.1 rfl (Nat.le_of_ble_eq_true rfl) dX6_digest_27 ⟨Nat.le_of_ble_eq_true rfl, Nat.le_of_ble_eq_true rfl⟩ (fun H locs hP hS => ?_)
  refine lv_aload_n C.1 C.2.1 dX6_digest_30 rfl (lv_at hl 0 rfl) ?_
  refine lv_aload_n C.1 C.2.1 dX6_digest_31 rfl (lv_at hl 0 rfl) ?_
  obtain ⟨r9, c10, h⟩ := bd_out h
  refine k_callVi C G hP hS (m_X6_made l G.2.1 _  c10) r_obj rfl (cwV 0 C.2.2.2.2.2.1 gX6_digest_X6_made rfl rfl rfl (by decide +kernel) ⟨Nat.le_of_ble_eq_true rfl, Nat.le_of_ble_eq_true rfl⟩) (As := []) rfl hl.1 rfl (Nat.le_of_ble_eq_true rfl) dX6_digest_32 ⟨Nat.le_of_ble_eq_true rfl, Nat.le_of_ble_eq_true rfl⟩ (fun H locs hP hS => ?_)
  obtain ⟨hs11, c12, h⟩ := bd_out h
  refine k_callVv C G hP hS (m_X6_mix l G.2.1 _  c12) r_obj rfl (cwV 1 C.2.2.2.2.2.1 gX6_digest_X6_mix rfl rfl rfl (by decide +kernel) ⟨Nat.le_of_ble_eq_true rfl, Nat.le_of_ble_eq_true rfl⟩) (As := [.int r9]) rfl hl.1 rfl (Nat.le_of_ble_eq_true rfl) dX6_digest_35 ⟨Nat.le_of_ble_eq_true rfl, Nat.le_of_ble_eq_true rfl⟩ (fun H locs hP hS => ?_)
  refine lv_aload_n C.1 C.2.1 dX6_digest_38 rfl (lv_at hl 0 rfl) ?_
  refine lv_aload_n C.1 C.2.1 dX6_digest_39 rfl (lv_at hl 0 rfl) ?_
  refine k_getf C G hP r_obj rfl 0 (by decide) n_X6_digest_X6 q_X6_digest_4 (v := .ref (ad (89 + 1))) rfl dX6_digest_40 ?_
  refine lv_iconst (v := 0) C.1 C.2.1 dX6_digest_43 (by decide) ?_
  obtain ⟨v13, ev13, h⟩ := lt_out h
  refine k_iald C G hP (r_arr (k := 1) (by decide)) (chk_in rfl) (j := 0) rfl ev13 dX6_digest_44 ?_
  obtain ⟨hs14, c15, h⟩ := bd_out h
  refine k_callVv C G hP hS (m_X6_mix l G.2.1 _  c15) r_obj rfl (cwV 1 C.2.2.2.2.2.1 gX6_digest_X6_mix rfl rfl rfl (by decide +kernel) ⟨Nat.le_of_ble_eq_true rfl, Nat.le_of_ble_eq_true rfl⟩) (As := [.int v13]) rfl hl.1 rfl (Nat.le_of_ble_eq_true rfl) dX6_digest_45 ⟨Nat.le_of_ble_eq_true rfl, Nat.le_of_ble_eq_true rfl⟩ (fun H locs hP hS => ?_)
  refine lv_iconst (v := 0) C.1 C.2.1 dX6_digest_48 (by decide) ?_
  refine lv_istore_n (lv' := [(1, .int 0), (0, .ref (ad 89))]) C.1 C.2.1 dX6_digest_49 rfl hl (by decide) rfl (fun ls hl => ?_)
  exact w_X6_digest_h50 C G fuel hP hS (lv_sub hl [1, 0] rfl) h
set_option maxRecDepth 100000 in
set_option maxHeartbeats 4000000 in
theorem m_X6_digest (l : Launch) {D : va_G} {cs : Nat → ClassId} {ad : Nat → Nat} (hAd : adOK ad) (sz : Nat) {Ls : Nat → SL} {Hs : SL} {T : SL} {M : SL} {dr : Int64} {hs : Int64} {o : Int64} {od : UInt64} {res : Int64 × SL × Int64} (h : f_X6_digest M hs = some res) : Met l yX6_digest wsX6_digest rmX6_digest (PA D cs sz (wA cs ad Ls Hs T M dr hs o od) [.ref (ad 89)]) (va_Ql (fun r' (_ : Unit) => r' = res.1) (fun _ t => va_P D vwCl (wA cs ad Ls Hs T res.2.1 dr res.2.2 o od) t.heap) (Afr ad sz)) 0 0 (Afr ad sz) :=
  k_met (by decide) rfl (Nat.le_of_ble_eq_true rfl) hAd (fun p e s m below meth c ls C G hP hsz hl hS => by
    subst hsz
    exact w_X6_digest_e C G  hP hS hl  h)
end GEN
