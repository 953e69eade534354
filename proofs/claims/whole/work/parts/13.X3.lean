section GEN
variable {p : Program} {l : Launch} {e : Env} {s : State} {m : MethodId} {args : Array Value} {below : List Frame} {meth : Method} {c : Code} {D : va_G} {cs : Nat → ClassId} {ad : Nat → Nat}
/-! X3 put -/
abbrev rmX3_put : Room := { frames := 0, cells := 0, slots := 0, locals := 0 }
theorem q_X3_put_0 : Cond.fieldLink RX3 15 "LineBuffers$LineText" "length" "I" ∈ wsX3_put := List.mem_of_getElem? (i := 1) rfl
theorem q_X3_put_1 : Cond.fieldLink RX3 9 "LineBuffers$LineText" "bytes" "[I" ∈ wsX3_put := List.mem_of_getElem? (i := 2) rfl
theorem n_X3_put_X3 : ∀ x ∈ u_ws RX3 TX3 4, x ∈ wsX3_put := fun x h => List.mem_cons_of_mem _ (List.mem_append_right _ h)
set_option maxRecDepth 100000 in
set_option maxHeartbeats 4000000 in
theorem w_X3_put_e {res : SL} (C : Cx p s m args meth c cX3_put 2 none RX3 wsX3_put) (G : Gx D cs ad s) {Ls : Nat → SL} {Hs : SL} {M : SL} {dr : Int64} {hs : Int64} {o : Int64} {od : UInt64} {T : SL} {x1 : Int32} {H : Heap} {locs : List Loc} {ls : Array Slot} (hP : va_P D vwCl (wA cs ad Ls Hs T M dr hs o od) H) (hS : va_S (Afr ad s.heap.size) s.heap H locs) (hl : lv_has ls 2 [(0, .ref (ad 3)), (1, .int x1)]) (h : f_X3_put T x1 = some res) : W p l e rmX3_put s m args below meth c H locs 0 0 (MQ below (va_Qv (fun (_ : Unit) => True) (fun _ t => va_P D vwCl (wA cs ad Ls Hs res M dr hs o od) t.heap) (Afr ad s.heap.size)) args s 0 0 (Afr ad s.heap.size)) (F0 m 0 ls []) := by
  unfold f_X3_put at h
  refine lv_aload_n C.1 C.2.1 dX3_put_0 rfl (lv_at hl 0 rfl) ?_
  obtain ⟨v1, ev1, h⟩ := lt_out h
  refine k_geti C G hP g_txt rfl 1 (by decide) n_X3_put_X3 q_X3_put_0 rfl ev1 dX3_put_1 ?_
  refine lv_bipush (v := 120) C.1 C.2.1 dX3_put_4 (by decide) ?_
  refine lv_icmp_ge (tgt := 29) C.1 C.2.1 dX3_put_6 (by decide) (fun c2 => ?_) (fun c2 => ?_)
  · have h := if_t c2 h
    cases h
    exact k_vret C hP hS dX3_put_29
  · have h := if_f c2 h
    refine lv_aload_n C.1 C.2.1 dX3_put_9 rfl (lv_at hl 0 rfl) ?_
    refine k_getf C G hP g_txt rfl 0 (by decide) n_X3_put_X3 q_X3_put_1 (v := .ref (ad 4)) rfl dX3_put_10 ?_
    refine lv_aload_n C.1 C.2.1 dX3_put_13 rfl (lv_at hl 0 rfl) ?_
    obtain ⟨v3, ev3, h⟩ := lt_out h
    refine k_geti C G hP g_txt rfl 1 (by decide) n_X3_put_X3 q_X3_put_0 rfl ev3 dX3_put_14 ?_
    refine lv_iload_n C.1 C.2.1 dX3_put_17 rfl (lv_at hl 1 rfl) ?_
    obtain ⟨g4, h⟩ := gd_out h
    have g4 := chk_in g4
    obtain ⟨T5, eT5, h⟩ := lt_out h
    refine k_iast C G hP hS g_byt g4 (j := v3.toNatClampNeg) rfl g_bytS dX3_put_18 (fun H locs hP hS => ?_)
    rw [← eT5] at hP
    refine lv_aload_n C.1 C.2.1 dX3_put_19 rfl (lv_at hl 0 rfl) ?_
    refine lv_dup C.1 C.2.1 dX3_put_20 rfl ?_
    obtain ⟨v6, ev6, h⟩ := lt_out h
    refine k_geti C G hP g_txt rfl 1 (by decide) n_X3_put_X3 q_X3_put_0 rfl ev6 dX3_put_21 ?_
    refine lv_iconst (v := 1) C.1 C.2.1 dX3_put_24 (by decide) ?_
    obtain ⟨v7, ev7, h⟩ := lt_out h
    refine k_iadd C ev7 dX3_put_25 ?_
    obtain ⟨T8, eT8, h⟩ := lt_out h
    refine k_puti C G hP hS g_txt rfl 1 (by decide) n_X3_put_X3 q_X3_put_0 tyX3_ok nmX3 rfl (tyX3_ok 1 (by decide)) (Nat.le_of_ble_eq_true rfl) g_txtS1 dX3_put_26 (fun H locs hP hS => ?_)
    rw [← eT8] at hP
    cases h
    exact k_vret C hP hS dX3_put_29
set_option maxRecDepth 100000 in
set_option maxHeartbeats 4000000 in
theorem m_X3_put (l : Launch) {D : va_G} {cs : Nat → ClassId} {ad : Nat → Nat} (hAd : adOK ad) (sz : Nat) {Ls : Nat → SL} {Hs : SL} {T : SL} {M : SL} {dr : Int64} {hs : Int64} {o : Int64} {od : UInt64} {x1 : Int32} {res : SL} (h : f_X3_put T x1 = some res) : Met l yX3_put wsX3_put rmX3_put (PA D cs sz (wA cs ad Ls Hs T M dr hs o od) [.ref (ad 3), .int x1]) (va_Qv (fun (_ : Unit) => True) (fun _ t => va_P D vwCl (wA cs ad Ls Hs res M dr hs o od) t.heap) (Afr ad sz)) 0 0 (Afr ad sz) :=
  k_met (by decide) rfl (Nat.le_of_ble_eq_true rfl) hAd (fun p e s m below meth c ls C G hP hsz hl hS => by
    subst hsz
    exact w_X3_put_e C G  hP hS hl  h)
/-! X3 byteAt -/
abbrev rmX3_byteAt : Room := { frames := 0, cells := 0, slots := 0, locals := 0 }
theorem q_X3_byteAt_0 : Cond.fieldLink RX3 15 "LineBuffers$LineText" "length" "I" ∈ wsX3_byteAt := List.mem_of_getElem? (i := 1) rfl
theorem q_X3_byteAt_1 : Cond.fieldLink RX3 9 "LineBuffers$LineText" "bytes" "[I" ∈ wsX3_byteAt := List.mem_of_getElem? (i := 2) rfl
theorem n_X3_byteAt_X3 : ∀ x ∈ u_ws RX3 TX3 4, x ∈ wsX3_byteAt := fun x h => List.mem_cons_of_mem _ (List.mem_append_right _ h)
set_option maxRecDepth 100000 in
set_option maxHeartbeats 4000000 in
theorem w_X3_byteAt_b12 {res : Int32} (C : Cx p s m args meth c cX3_byteAt 2 (some .int) RX3 wsX3_byteAt) (G : Gx D cs ad s) {Ls : Nat → SL} {Hs : SL} {M : SL} {dr : Int64} {hs : Int64} {o : Int64} {od : UInt64} {T : SL} {H : Heap} {locs : List Loc} {ls : Array Slot} (hP : va_P D vwCl (wA cs ad Ls Hs T M dr hs o od) H) (hS : va_S (Afr ad s.heap.size) s.heap H locs) (hl : lv_has ls 2 []) (h : f_X3_byteAt_b12 T = some res) : W p l e rmX3_byteAt s m args below meth c H locs 0 0 (MQ below (va_Qi (fun r' (_ : Unit) => r' = res) (fun _ t => va_P D vwCl (wA cs ad Ls Hs T M dr hs o od) t.heap) (Afr ad s.heap.size)) args s 0 0 (Afr ad s.heap.size)) (F0 m 12 ls []) := by
  unfold f_X3_byteAt_b12 at h
  refine lv_iconst (v := (-1)) C.1 C.2.1 dX3_byteAt_12 (by decide) ?_
  refine lv_goto (tgt := 22) C.1 C.2.1 dX3_byteAt_13 (by decide) ?_
  cases h
  exact k_iret C hP hS dX3_byteAt_22
set_option maxRecDepth 100000 in
set_option maxHeartbeats 4000000 in
theorem w_X3_byteAt_e {res : Int32} (C : Cx p s m args meth c cX3_byteAt 2 (some .int) RX3 wsX3_byteAt) (G : Gx D cs ad s) {Ls : Nat → SL} {Hs : SL} {M : SL} {dr : Int64} {hs : Int64} {o : Int64} {od : UInt64} {T : SL} {x1 : Int32} {H : Heap} {locs : List Loc} {ls : Array Slot} (hP : va_P D vwCl (wA cs ad Ls Hs T M dr hs o od) H) (hS : va_S (Afr ad s.heap.size) s.heap H locs) (hl : lv_has ls 2 [(0, .ref (ad 3)), (1, .int x1)]) (h : f_X3_byteAt T x1 = some res) : W p l e rmX3_byteAt s m args below meth c H locs 0 0 (MQ below (va_Qi (fun r' (_ : Unit) => r' = res) (fun _ t => va_P D vwCl (wA cs ad Ls Hs T M dr hs o od) t.heap) (Afr ad s.heap.size)) args s 0 0 (Afr ad s.heap.size)) (F0 m 0 ls []) := by
  unfold f_X3_byteAt at h
  refine lv_iload_n C.1 C.2.1 dX3_byteAt_0 rfl (lv_at hl 1 rfl) ?_
  refine lv_if_lt (tgt := 12) C.1 C.2.1 dX3_byteAt_1 (by decide) (fun c1 => ?_) (fun c1 => ?_)
  · have h := if_t c1 h
    exact w_X3_byteAt_b12 C G hP hS (lv_sub hl [] rfl) h
  · have h := if_f c1 h
    refine lv_iload_n C.1 C.2.1 dX3_byteAt_4 rfl (lv_at hl 1 rfl) ?_
    refine lv_aload_n C.1 C.2.1 dX3_byteAt_5 rfl (lv_at hl 0 rfl) ?_
    obtain ⟨v2, ev2, h⟩ := lt_out h
    refine k_geti C G hP g_txt rfl 1 (by decide) n_X3_byteAt_X3 q_X3_byteAt_0 rfl ev2 dX3_byteAt_6 ?_
    refine lv_icmp_lt (tgt := 16) C.1 C.2.1 dX3_byteAt_9 (by decide) (fun c3 => ?_) (fun c3 => ?_)
    · have h := if_t c3 h
      refine lv_aload_n C.1 C.2.1 dX3_byteAt_16 rfl (lv_at hl 0 rfl) ?_
      refine k_getf C G hP g_txt rfl 0 (by decide) n_X3_byteAt_X3 q_X3_byteAt_1 (v := .ref (ad 4)) rfl dX3_byteAt_17 ?_
      refine lv_iload_n C.1 C.2.1 dX3_byteAt_20 rfl (lv_at hl 1 rfl) ?_
      obtain ⟨g4, h⟩ := gd_out h
      have g4 := chk_in g4
      obtain ⟨v5, ev5, h⟩ := lt_out h
      refine k_iald C G hP g_byt g4 (j := x1.toNatClampNeg) rfl ev5 dX3_byteAt_21 ?_
      cases h
      exact k_iret C hP hS dX3_byteAt_22
    · have h := if_f c3 h
      exact w_X3_byteAt_b12 C G hP hS (lv_sub hl [] rfl) h
set_option maxRecDepth 100000 in
set_option maxHeartbeats 4000000 in
theorem m_X3_byteAt (l : Launch) {D : va_G} {cs : Nat → ClassId} {ad : Nat → Nat} (hAd : adOK ad) (sz : Nat) {Ls : Nat → SL} {Hs : SL} {T : SL} {M : SL} {dr : Int64} {hs : Int64} {o : Int64} {od : UInt64} {x1 : Int32} {res : Int32} (h : f_X3_byteAt T x1 = some res) : Met l yX3_byteAt wsX3_byteAt rmX3_byteAt (PA D cs sz (wA cs ad Ls Hs T M dr hs o od) [.ref (ad 3), .int x1]) (va_Qi (fun r' (_ : Unit) => r' = res) (fun _ t => va_P D vwCl (wA cs ad Ls Hs T M dr hs o od) t.heap) (Afr ad sz)) 0 0 (Afr ad sz) :=
  k_met (by decide) rfl (Nat.le_of_ble_eq_true rfl) hAd (fun p e s m below meth c ls C G hP hsz hl hS => by
    subst hsz
    exact w_X3_byteAt_e C G  hP hS hl  h)
/-! X5 isIn -/
abbrev rmX5_isIn : Room := { frames := 0, cells := 0, slots := 0, locals := 0 }
set_option maxRecDepth 100000 in
set_option maxHeartbeats 4000000 in
theorem w_X5_isIn_b14 {res : Int32} (C : Cx p s m args meth c cX5_isIn 3 (some .boolean) RX5 wsX5_isIn) (G : Gx D cs ad s) {Ls : Nat → SL} {Hs : SL} {T : SL} {M : SL} {dr : Int64} {hs : Int64} {o : Int64} {od : UInt64} {H : Heap} {locs : List Loc} {ls : Array Slot} (hP : va_P D vwCl (wA cs ad Ls Hs T M dr hs o od) H) (hS : va_S (Afr ad s.heap.size) s.heap H locs) (hl : lv_has ls 3 []) (h : f_X5_isIn_b14 = some res) : W p l e rmX5_isIn s m args below meth c H locs 0 0 (MQ below (va_Qi (fun r' (_ : Unit) => r' = res) (fun _ t => va_P D vwCl (wA cs ad Ls Hs T M dr hs o od) t.heap) (Afr ad s.heap.size)) args s 0 0 (Afr ad s.heap.size)) (F0 m 14 ls []) := by
  unfold f_X5_isIn_b14 at h
  refine lv_iconst (v := 0) C.1 C.2.1 dX5_isIn_14 (by decide) ?_
  cases h
  exact k_zret C hP hS nar_0 dX5_isIn_15
set_option maxRecDepth 100000 in
set_option maxHeartbeats 4000000 in
theorem w_X5_isIn_e {res : Int32} (C : Cx p s m args meth c cX5_isIn 3 (some .boolean) RX5 wsX5_isIn) (G : Gx D cs ad s) {Ls : Nat → SL} {Hs : SL} {T : SL} {M : SL} {dr : Int64} {hs : Int64} {o : Int64} {od : UInt64} {x0 : Int32} {x1 : Int32} {x2 : Int32} {H : Heap} {locs : List Loc} {ls : Array Slot} (hP : va_P D vwCl (wA cs ad Ls Hs T M dr hs o od) H) (hS : va_S (Afr ad s.heap.size) s.heap H locs) (hl : lv_has ls 3 [(0, .int x0), (1, .int x1), (2, .int x2)]) (h : f_X5_isIn x0 x1 x2 = some res) : W p l e rmX5_isIn s m args below meth c H locs 0 0 (MQ below (va_Qi (fun r' (_ : Unit) => r' = res) (fun _ t => va_P D vwCl (wA cs ad Ls Hs T M dr hs o od) t.heap) (Afr ad s.heap.size)) args s 0 0 (Afr ad s.heap.size)) (F0 m 0 ls []) := by
  unfold f_X5_isIn at h
  refine lv_iload_n C.1 C.2.1 dX5_isIn_0 rfl (lv_at hl 0 rfl) ?_
  refine lv_iload_n C.1 C.2.1 dX5_isIn_1 rfl (lv_at hl 1 rfl) ?_
  refine lv_icmp_lt (tgt := 14) C.1 C.2.1 dX5_isIn_2 (by decide) (fun c1 => ?_) (fun c1 => ?_)
  · have h := if_t c1 h
    exact w_X5_isIn_b14 C G hP hS (lv_sub hl [] rfl) h
  · have h := if_f c1 h
    refine lv_iload_n C.1 C.2.1 dX5_isIn_5 rfl (lv_at hl 0 rfl) ?_
    refine lv_iload_n C.1 C.2.1 dX5_isIn_6 rfl (lv_at hl 2 rfl) ?_
    refine lv_icmp_gt (tgt := 14) C.1 C.2.1 dX5_isIn_7 (by decide) (fun c2 => ?_) (fun c2 => ?_)
    · have h := if_t c2 h
      exact w_X5_isIn_b14 C G hP hS (lv_sub hl [] rfl) h
    · have h := if_f c2 h
      refine lv_iconst (v := 1) C.1 C.2.1 dX5_isIn_10 (by decide) ?_
      refine lv_goto (tgt := 15) C.1 C.2.1 dX5_isIn_11 (by decide) ?_
      cases h
      exact k_zret C hP hS nar_1 dX5_isIn_15
set_option maxRecDepth 100000 in
set_option maxHeartbeats 4000000 in
theorem m_X5_isIn (l : Launch) {D : va_G} {cs : Nat → ClassId} {ad : Nat → Nat} (hAd : adOK ad) (sz : Nat) {Ls : Nat → SL} {Hs : SL} {T : SL} {M : SL} {dr : Int64} {hs : Int64} {o : Int64} {od : UInt64} {x0 : Int32} {x1 : Int32} {x2 : Int32} {res : Int32} (h : f_X5_isIn x0 x1 x2 = some res) : Met l yX5_isIn wsX5_isIn rmX5_isIn (PA D cs sz (wA cs ad Ls Hs T M dr hs o od) [.int x0, .int x1, .int x2]) (va_Qi (fun r' (_ : Unit) => r' = res) (fun _ t => va_P D vwCl (wA cs ad Ls Hs T M dr hs o od) t.heap) (Afr ad sz)) 0 0 (Afr ad sz) :=
  k_met (by decide) rfl (Nat.le_of_ble_eq_true rfl) hAd (fun p e s m below meth c ls C G hP hsz hl hS => by
    subst hsz
    exact w_X5_isIn_e C G  hP hS hl  h)
/-! X3 isDigit -/
abbrev rmX3_isDigit : Room := { frames := 1, cells := 0, slots := 0, locals := 22 }
theorem q_X3_isDigit_0 : Cond.static yX5_isIn ∈ wsX3_isDigit := List.mem_of_getElem? (i := 1) rfl
theorem q_X3_isDigit_1 : Cond.initialized RX5 ∈ wsX3_isDigit := List.mem_of_getElem? (i := 2) rfl
set_option maxRecDepth 100000 in
set_option maxHeartbeats 4000000 in
theorem w_X3_isDigit_e {res : Int32} (C : Cx p s m args meth c cX3_isDigit 1 (some .boolean) RX3 wsX3_isDigit) (G : Gx D cs ad s) {Ls : Nat → SL} {Hs : SL} {T : SL} {M : SL} {dr : Int64} {hs : Int64} {o : Int64} {od : UInt64} {x0 : Int32} {H : Heap} {locs : List Loc} {ls : Array Slot} (hP : va_P D vwCl (wA cs ad Ls Hs T M dr hs o od) H) (hS : va_S (Afr ad s.heap.size) s.heap H locs) (hl : lv_has ls 1 [(0, .int x0)]) (h : f_X3_isDigit x0 = some res) : W p l e rmX3_isDigit s m args below meth c H locs 0 0 (MQ below (va_Qi (fun r' (_ : Unit) => r' = res) (fun _ t => va_P D vwCl (wA cs ad Ls Hs T M dr hs o od) t.heap) (Afr ad s.heap.size)) args s 0 0 (Afr ad s.heap.size)) (F0 m 0 ls []) := by
  unfold f_X3_isDigit at h
  refine lv_iload_n C.1 C.2.1 dX3_isDigit_0 rfl (lv_at hl 0 rfl) ?_
  refine lv_bipush (v := 48) C.1 C.2.1 dX3_isDigit_1 (by decide) ?_
  refine lv_bipush (v := 57) C.1 C.2.1 dX3_isDigit_3 (by decide) ?_
  obtain ⟨r1, c2, h⟩ := bd_out h
  refine k_callSNi C G hP hS (m_X5_isIn l G.2.1 _  c2) ⟨va_cnB 3 C.2.2.2.2.2.1 gX3_isDigit_X5_isIn_n63 rfl rfl rfl (G.2.2.2 _ (List.mem_of_getElem? (i := 4) rfl)) (C.2.2.2.2.2.1 _ q_X3_isDigit_1) (by decide +kernel) ⟨Nat.le_of_ble_eq_true rfl, Nat.le_of_ble_eq_true rfl⟩, C.2.2.2.2.2.1 _ q_X3_isDigit_0, trivial⟩ (As := [.int x0, .int 48, .int 57]) rfl hl.1 rfl (Nat.le_of_ble_eq_true rfl) dX3_isDigit_5 ⟨Nat.le_of_ble_eq_true rfl, Nat.le_of_ble_eq_true rfl⟩ (fun H locs hP hS => ?_)
  obtain ⟨g3, h⟩ := gd_out h
  have g3 := isB_nar g3
  cases h
  exact k_zret C hP hS g3 dX3_isDigit_8
set_option maxRecDepth 100000 in
set_option maxHeartbeats 4000000 in
theorem m_X3_isDigit (l : Launch) {D : va_G} {cs : Nat → ClassId} {ad : Nat → Nat} (hAd : adOK ad) (sz : Nat) {Ls : Nat → SL} {Hs : SL} {T : SL} {M : SL} {dr : Int64} {hs : Int64} {o : Int64} {od : UInt64} {x0 : Int32} {res : Int32} (h : f_X3_isDigit x0 = some res) : Met l yX3_isDigit wsX3_isDigit rmX3_isDigit (PA D cs sz (wA cs ad Ls Hs T M dr hs o od) [.int x0]) (va_Qi (fun r' (_ : Unit) => r' = res) (fun _ t => va_P D vwCl (wA cs ad Ls Hs T M dr hs o od) t.heap) (Afr ad sz)) 0 0 (Afr ad sz) :=
  k_met (by decide) rfl (Nat.le_of_ble_eq_true rfl) hAd (fun p e s m below meth c ls C G hP hsz hl hS => by
    subst hsz
    exact w_X3_isDigit_e C G  hP hS hl  h)
/-! X3 readNumber -/
abbrev rmX3_readNumber : Room := { frames := 2, cells := 0, slots := 0, locals := 42 }
theorem q_X3_readNumber_0 : Cond.fieldLink RX3 22 "LineBuffers$LineText" "error" "I" ∈ wsX3_readNumber := List.mem_of_getElem? (i := 1) rfl
theorem q_X3_readNumber_1 : Cond.fieldLink RX3 19 "LineBuffers$LineText" "at" "I" ∈ wsX3_readNumber := List.mem_of_getElem? (i := 2) rfl
theorem q_X3_readNumber_2 : Cond.static yX5_isIn ∈ wsX3_readNumber := List.mem_of_getElem? (i := 13) rfl
theorem q_X3_readNumber_3 : Cond.initialized RX5 ∈ wsX3_readNumber := List.mem_of_getElem? (i := 14) rfl
theorem n_X3_readNumber_X3 : ∀ x ∈ u_ws RX3 TX3 4, x ∈ wsX3_readNumber := fun x h => List.mem_cons_of_mem _ (List.mem_append_right _ h)
set_option maxRecDepth 100000 in
set_option maxHeartbeats 4000000 in
theorem w_X3_readNumber_b104 {res : Int32 × SL} (C : Cx p s m args meth c cX3_readNumber 7 (some .int) RX3 wsX3_readNumber) (G : Gx D cs ad s) {Ls : Nat → SL} {Hs : SL} {M : SL} {dr : Int64} {hs : Int64} {o : Int64} {od : UInt64} {T : SL} {x5 : Int32} {H : Heap} {locs : List Loc} {ls : Array Slot} (hP : va_P D vwCl (wA cs ad Ls Hs T M dr hs o od) H) (hS : va_S (Afr ad s.heap.size) s.heap H locs) (hl : lv_has ls 7 [(0, .ref (ad 3)), (5, .int x5)]) (h : f_X3_readNumber_b104 T x5 = some res) : W p l e rmX3_readNumber s m args below meth c H locs 0 0 (MQ below (va_Qi (fun r' (_ : Unit) => r' = res.1) (fun _ t => va_P D vwCl (wA cs ad Ls Hs res.2 M dr hs o od) t.heap) (Afr ad s.heap.size)) args s 0 0 (Afr ad s.heap.size)) (F0 m 104 ls []) := by
  unfold f_X3_readNumber_b104 at h
  refine lv_aload_n C.1 C.2.1 dX3_readNumber_104 rfl (lv_at hl 0 rfl) ?_
  refine lv_aload_n C.1 C.2.1 dX3_readNumber_105 rfl (lv_at hl 0 rfl) ?_
  obtain ⟨v1, ev1, h⟩ := lt_out h
  refine k_geti C G hP g_txt rfl 2 (by decide) n_X3_readNumber_X3 q_X3_readNumber_1 rfl ev1 dX3_readNumber_106 ?_
  obtain ⟨T2, eT2, h⟩ := lt_out h
  refine k_puti C G hP hS g_txt rfl 3 (by decide) n_X3_readNumber_X3 q_X3_readNumber_0 tyX3_ok nmX3 rfl (tyX3_ok 3 (by decide)) (Nat.le_of_ble_eq_true rfl) g_txtS3 dX3_readNumber_109 (fun H locs hP hS => ?_)
  rw [← eT2] at hP
  refine lv_goto (tgt := 161) C.1 C.2.1 dX3_readNumber_112 (by decide) ?_
  refine lv_iload C.1 C.2.1 dX3_readNumber_161 (lv_at hl 1 rfl) ?_
  cases h
  exact k_iret C hP hS dX3_readNumber_163
set_option maxRecDepth 100000 in
set_option maxHeartbeats 4000000 in
theorem w_X3_readNumber_b77 {res : Int32 × SL} (C : Cx p s m args meth c cX3_readNumber 7 (some .int) RX3 wsX3_readNumber) (G : Gx D cs ad s) {Ls : Nat → SL} {Hs : SL} {M : SL} {dr : Int64} {hs : Int64} {o : Int64} {od : UInt64} {T : SL} {x1 : Int32} {x2 : Int32} {x3 : Int32} {x4 : Int32} {x5 : Int32} {H : Heap} {locs : List Loc} {ls : Array Slot} (hP : va_P D vwCl (wA cs ad Ls Hs T M dr hs o od) H) (hS : va_S (Afr ad s.heap.size) s.heap H locs) (hl : lv_has ls 7 [(0, .ref (ad 3)), (1, .int x1), (2, .int x2), (3, .int x3), (4, .int x4), (5, .int x5)]) (h : f_X3_readNumber_b77 T x1 x2 x3 x4 x5 = some res) : W p l e rmX3_readNumber s m args below meth c H locs 0 0 (MQ below (va_Qi (fun r' (_ : Unit) => r' = res.1) (fun _ t => va_P D vwCl (wA cs ad Ls Hs res.2 M dr hs o od) t.heap) (Afr ad s.heap.size)) args s 0 0 (Afr ad s.heap.size)) (F0 m 77 ls []) := by
  unfold f_X3_readNumber_b77 at h
  refine lv_aload_n C.1 C.2.1 dX3_readNumber_77 rfl (lv_at hl 0 rfl) ?_
  refine lv_aload_n C.1 C.2.1 dX3_readNumber_78 rfl (lv_at hl 0 rfl) ?_
  obtain ⟨v1, ev1, h⟩ := lt_out h
  refine k_geti C G hP g_txt rfl 2 (by decide) n_X3_readNumber_X3 q_X3_readNumber_1 rfl ev1 dX3_readNumber_79 ?_
  obtain ⟨r2, c3, h⟩ := bd_out h
  refine k_callVi C G hP hS (m_X3_byteAt l G.2.1 _  c3) g_txt rfl (cwV 1 C.2.2.2.2.2.1 gX3_readNumber_X3_byteAt rfl rfl rfl (by decide +kernel) ⟨Nat.le_of_ble_eq_true rfl, Nat.le_of_ble_eq_true rfl⟩) (As := [.int v1]) rfl hl.1 rfl (Nat.le_of_ble_eq_true rfl) dX3_readNumber_82 ⟨Nat.le_of_ble_eq_true rfl, Nat.le_of_ble_eq_true rfl⟩ (fun H locs hP hS => ?_)
  refine lv_istore (lv' := [(6, .int r2), (0, .ref (ad 3)), (1, .int x1), (2, .int x2), (3, .int x3), (4, .int x4), (5, .int x5)]) C.1 C.2.1 dX3_readNumber_85 hl (by decide) rfl (fun ls hl => ?_)
  refine lv_aload_n C.1 C.2.1 dX3_readNumber_87 rfl (lv_at hl 1 rfl) ?_
  obtain ⟨v4, ev4, h⟩ := lt_out h
  refine k_geti C G hP g_txt rfl 2 (by decide) n_X3_readNumber_X3 q_X3_readNumber_1 rfl ev4 dX3_readNumber_88 ?_
  refine lv_iload C.1 C.2.1 dX3_readNumber_91 (lv_at hl 5 rfl) ?_
  refine lv_icmp_eq (tgt := 104) C.1 C.2.1 dX3_readNumber_93 (by decide) (fun c5 => ?_) (fun c5 => ?_)
  · have h := if_t c5 h
    exact w_X3_readNumber_b104 C G hP hS (lv_sub hl [1, 6] rfl) h
  · have h := if_f c5 h
    refine lv_iload C.1 C.2.1 dX3_readNumber_96 (lv_at hl 0 rfl) ?_
    obtain ⟨r6, c7, h⟩ := bd_out h
    refine k_callSi C G hP hS (m_X3_isDigit l G.2.1 _  c7) (va_cwS 1 C.2.2.2.2.2.1 gX3_readNumber_X3_isDigit rfl rfl rfl (by decide +kernel) ⟨Nat.le_of_ble_eq_true rfl, Nat.le_of_ble_eq_true rfl⟩) (As := [.int r2]) rfl hl.1 rfl (Nat.le_of_ble_eq_true rfl) dX3_readNumber_98 ⟨Nat.le_of_ble_eq_true rfl, Nat.le_of_ble_eq_true rfl⟩ (fun H locs hP hS => ?_)
    refine lv_if_eq (tgt := 115) C.1 C.2.1 dX3_readNumber_101 (by decide) (fun c8 => ?_) (fun c8 => ?_)
    · have h := if_t c8 h
      refine lv_iload C.1 C.2.1 dX3_readNumber_115 (lv_at hl 6 rfl) ?_
      refine lv_iload_n C.1 C.2.1 dX3_readNumber_117 rfl (lv_at hl 2 rfl) ?_
      refine lv_iload_n C.1 C.2.1 dX3_readNumber_118 rfl (lv_at hl 3 rfl) ?_
      obtain ⟨r9, c10, h⟩ := bd_out h
      refine k_callSNi C G hP hS (m_X5_isIn l G.2.1 _  c10) ⟨va_cnB 3 C.2.2.2.2.2.1 gX3_readNumber_X5_isIn_n63 rfl rfl rfl (G.2.2.2 _ (List.mem_of_getElem? (i := 4) rfl)) (C.2.2.2.2.2.1 _ q_X3_readNumber_3) (by decide +kernel) ⟨Nat.le_of_ble_eq_true rfl, Nat.le_of_ble_eq_true rfl⟩, C.2.2.2.2.2.1 _ q_X3_readNumber_2, trivial⟩ (As := [.int x5, .int x1, .int x2]) rfl hl.1 rfl (Nat.le_of_ble_eq_true rfl) dX3_readNumber_119 ⟨Nat.le_of_ble_eq_true rfl, Nat.le_of_ble_eq_true rfl⟩ (fun H locs hP hS => ?_)
      refine lv_if_ne (tgt := 134) C.1 C.2.1 dX3_readNumber_122 (by decide) (fun c11 => ?_) (fun c11 => ?_)
      · have h := if_t c11 h
        refine lv_iload C.1 C.2.1 dX3_readNumber_134 (lv_at hl 0 rfl) ?_
        refine lv_iload_n C.1 C.2.1 dX3_readNumber_136 rfl (lv_at hl 4 rfl) ?_
        refine lv_icmp_eq (tgt := 151) C.1 C.2.1 dX3_readNumber_137 (by decide) (fun c12 => ?_) (fun c12 => ?_)
        · have h := if_t c12 h
          refine lv_aload_n C.1 C.2.1 dX3_readNumber_151 rfl (lv_at hl 1 rfl) ?_
          refine lv_dup C.1 C.2.1 dX3_readNumber_152 rfl ?_
          obtain ⟨v13, ev13, h⟩ := lt_out h
          refine k_geti C G hP g_txt rfl 2 (by decide) n_X3_readNumber_X3 q_X3_readNumber_1 rfl ev13 dX3_readNumber_153 ?_
          refine lv_iconst (v := 1) C.1 C.2.1 dX3_readNumber_156 (by decide) ?_
          obtain ⟨v14, ev14, h⟩ := lt_out h
          refine k_iadd C ev14 dX3_readNumber_157 ?_
          obtain ⟨T15, eT15, h⟩ := lt_out h
          refine k_puti C G hP hS g_txt rfl 2 (by decide) n_X3_readNumber_X3 q_X3_readNumber_1 tyX3_ok nmX3 rfl (tyX3_ok 2 (by decide)) (Nat.le_of_ble_eq_true rfl) g_txtS2 dX3_readNumber_158 (fun H locs hP hS => ?_)
          rw [← eT15] at hP
          refine lv_iload C.1 C.2.1 dX3_readNumber_161 (lv_at hl 6 rfl) ?_
          cases h
          exact k_iret C hP hS dX3_readNumber_163
        · have h := if_f c12 h
          refine lv_aload_n C.1 C.2.1 dX3_readNumber_140 rfl (lv_at hl 1 rfl) ?_
          refine lv_aload_n C.1 C.2.1 dX3_readNumber_141 rfl (lv_at hl 1 rfl) ?_
          obtain ⟨v16, ev16, h⟩ := lt_out h
          refine k_geti C G hP g_txt rfl 2 (by decide) n_X3_readNumber_X3 q_X3_readNumber_1 rfl ev16 dX3_readNumber_142 ?_
          obtain ⟨T17, eT17, h⟩ := lt_out h
          refine k_puti C G hP hS g_txt rfl 3 (by decide) n_X3_readNumber_X3 q_X3_readNumber_0 tyX3_ok nmX3 rfl (tyX3_ok 3 (by decide)) (Nat.le_of_ble_eq_true rfl) g_txtS3 dX3_readNumber_145 (fun H locs hP hS => ?_)
          rw [← eT17] at hP
          refine lv_goto (tgt := 161) C.1 C.2.1 dX3_readNumber_148 (by decide) ?_
          refine lv_iload C.1 C.2.1 dX3_readNumber_161 (lv_at hl 6 rfl) ?_
          cases h
          exact k_iret C hP hS dX3_readNumber_163
      · have h := if_n c11 h
        refine lv_aload_n C.1 C.2.1 dX3_readNumber_125 rfl (lv_at hl 1 rfl) ?_
        refine lv_iload C.1 C.2.1 dX3_readNumber_126 (lv_at hl 5 rfl) ?_
        obtain ⟨T18, eT18, h⟩ := lt_out h
        refine k_puti C G hP hS g_txt rfl 3 (by decide) n_X3_readNumber_X3 q_X3_readNumber_0 tyX3_ok nmX3 rfl (tyX3_ok 3 (by decide)) (Nat.le_of_ble_eq_true rfl) g_txtS3 dX3_readNumber_128 (fun H locs hP hS => ?_)
        rw [← eT18] at hP
        refine lv_goto (tgt := 161) C.1 C.2.1 dX3_readNumber_131 (by decide) ?_
        refine lv_iload C.1 C.2.1 dX3_readNumber_161 (lv_at hl 6 rfl) ?_
        cases h
        exact k_iret C hP hS dX3_readNumber_163
    · have h := if_f c8 h
      exact w_X3_readNumber_b104 C G hP hS (lv_sub hl [1, 6] rfl) h
set_option maxRecDepth 100000 in
set_option maxHeartbeats 4000000 in
theorem w_X3_readNumber_b22 {res : Int32 × SL} (C : Cx p s m args meth c cX3_readNumber 7 (some .int) RX3 wsX3_readNumber) (G : Gx D cs ad s) {Ls : Nat → SL} {Hs : SL} {M : SL} {dr : Int64} {hs : Int64} {o : Int64} {od : UInt64} {K22 : SL → Int32 → Int32 → Int32 → Int32 → Int32 → Int32 → Option (Int32 × SL)} (hK22 : ∀ {T : SL} {x1 : Int32} {x2 : Int32} {x3 : Int32} {x4 : Int32} {x5 : Int32} {x6 : Int32} {H : Heap} {locs : List Loc} {ls : Array Slot}, va_P D vwCl (wA cs ad Ls Hs T M dr hs o od) H → va_S (Afr ad s.heap.size) s.heap H locs → lv_has ls 7 [(0, .ref (ad 3)), (1, .int x1), (2, .int x2), (3, .int x3), (4, .int x4), (5, .int x5), (6, .int x6)] → K22 T x1 x2 x3 x4 x5 x6 = some res → W p l e rmX3_readNumber s m args below meth c H locs 0 0 (MQ below (va_Qi (fun r' (_ : Unit) => r' = res.1) (fun _ t => va_P D vwCl (wA cs ad Ls Hs res.2 M dr hs o od) t.heap) (Afr ad s.heap.size)) args s 0 0 (Afr ad s.heap.size)) (F0 m 22 ls [])) {T : SL} {x1 : Int32} {x2 : Int32} {x3 : Int32} {x4 : Int32} {x5 : Int32} {x6 : Int32} {H : Heap} {locs : List Loc} {ls : Array Slot} (hP : va_P D vwCl (wA cs ad Ls Hs T M dr hs o od) H) (hS : va_S (Afr ad s.heap.size) s.heap H locs) (hl : lv_has ls 7 [(0, .ref (ad 3)), (1, .int x1), (2, .int x2), (3, .int x3), (4, .int x4), (5, .int x5), (6, .int x6)]) (h : f_X3_readNumber_b22 K22 T x1 x2 x3 x4 x5 x6 = some res) : W p l e rmX3_readNumber s m args below meth c H locs 0 0 (MQ below (va_Qi (fun r' (_ : Unit) => r' = res.1) (fun _ t => va_P D vwCl (wA cs ad Ls Hs res.2 M dr hs o od) t.heap) (Afr ad s.heap.size)) args s 0 0 (Afr ad s.heap.size)) (F0 m 22 ls []) := by
  unfold f_X3_readNumber_b22 at h
  refine lv_iload C.1 C.2.1 dX3_readNumber_22 (lv_at hl 6 rfl) ?_
  refine lv_iconst (v := 2) C.1 C.2.1 dX3_readNumber_24 (by decide) ?_
  refine lv_icmp_ge (tgt := 77) C.1 C.2.1 dX3_readNumber_25 (by decide) (fun c1 => ?_) (fun c1 => ?_)
  · have h := if_t c1 h
    exact w_X3_readNumber_b77 C G hP hS (lv_sub hl [0, 1, 2, 3, 4, 5] rfl) h
  · have h := if_f c1 h
    refine lv_aload_n C.1 C.2.1 dX3_readNumber_28 rfl (lv_at hl 0 rfl) ?_
    refine lv_aload_n C.1 C.2.1 dX3_readNumber_29 rfl (lv_at hl 0 rfl) ?_
    obtain ⟨v2, ev2, h⟩ := lt_out h
    refine k_geti C G hP g_txt rfl 2 (by decide) n_X3_readNumber_X3 q_X3_readNumber_1 rfl ev2 dX3_readNumber_30 ?_
    obtain ⟨r3, c4, h⟩ := bd_out h
    refine k_callVi C G hP hS (m_X3_byteAt l G.2.1 _  c4) g_txt rfl (cwV 1 C.2.2.2.2.2.1 gX3_readNumber_X3_byteAt rfl rfl rfl (by decide +kernel) ⟨Nat.le_of_ble_eq_true rfl, Nat.le_of_ble_eq_true rfl⟩) (As := [.int v2]) rfl hl.1 rfl (Nat.le_of_ble_eq_true rfl) dX3_readNumber_33 ⟨Nat.le_of_ble_eq_true rfl, Nat.le_of_ble_eq_true rfl⟩ (fun H locs hP hS => ?_)
    obtain ⟨r5, c6, h⟩ := bd_out h
    refine k_callSi C G hP hS (m_X3_isDigit l G.2.1 _  c6) (va_cwS 1 C.2.2.2.2.2.1 gX3_readNumber_X3_isDigit rfl rfl rfl (by decide +kernel) ⟨Nat.le_of_ble_eq_true rfl, Nat.le_of_ble_eq_true rfl⟩) (As := [.int r3]) rfl hl.1 rfl (Nat.le_of_ble_eq_true rfl) dX3_readNumber_36 ⟨Nat.le_of_ble_eq_true rfl, Nat.le_of_ble_eq_true rfl⟩ (fun H locs hP hS => ?_)
    refine lv_if_eq (tgt := 77) C.1 C.2.1 dX3_readNumber_39 (by decide) (fun c7 => ?_) (fun c7 => ?_)
    · have h := if_t c7 h
      exact w_X3_readNumber_b77 C G hP hS (lv_sub hl [0, 1, 2, 3, 4, 5] rfl) h
    · have h := if_f c7 h
      refine lv_bipush (v := 10) C.1 C.2.1 dX3_readNumber_42 (by decide) ?_
      refine lv_iload C.1 C.2.1 dX3_readNumber_44 (lv_at hl 5 rfl) ?_
      obtain ⟨v8, ev8, h⟩ := lt_out h
      refine k_imul C ev8 dX3_readNumber_46 ?_
      refine lv_aload_n C.1 C.2.1 dX3_readNumber_47 rfl (lv_at hl 0 rfl) ?_
      refine lv_aload_n C.1 C.2.1 dX3_readNumber_48 rfl (lv_at hl 0 rfl) ?_
      obtain ⟨v9, ev9, h⟩ := lt_out h
      refine k_geti C G hP g_txt rfl 2 (by decide) n_X3_readNumber_X3 q_X3_readNumber_1 rfl ev9 dX3_readNumber_49 ?_
      obtain ⟨r10, c11, h⟩ := bd_out h
      refine k_callVi C G hP hS (m_X3_byteAt l G.2.1 _  c11) g_txt rfl (cwV 1 C.2.2.2.2.2.1 gX3_readNumber_X3_byteAt rfl rfl rfl (by decide +kernel) ⟨Nat.le_of_ble_eq_true rfl, Nat.le_of_ble_eq_true rfl⟩) (As := [.int v9]) rfl hl.1 rfl (Nat.le_of_ble_eq_true rfl) dX3_readNumber_52 ⟨Nat.le_of_ble_eq_true rfl, Nat.le_of_ble_eq_true rfl⟩ (fun H locs hP hS => ?_)
      obtain ⟨v12, ev12, h⟩ := lt_out h
      refine k_iadd C ev12 dX3_readNumber_55 ?_
      refine lv_bipush (v := 48) C.1 C.2.1 dX3_readNumber_56 (by decide) ?_
      obtain ⟨v13, ev13, h⟩ := lt_out h
      refine k_isub C ev13 dX3_readNumber_58 ?_
      refine lv_istore (lv' := [(5, .int v13), (0, .ref (ad 3)), (1, .int x1), (2, .int x2), (3, .int x3), (4, .int x4), (6, .int x6)]) C.1 C.2.1 dX3_readNumber_59 hl (by decide) rfl (fun ls hl => ?_)
      refine lv_aload_n C.1 C.2.1 dX3_readNumber_61 rfl (lv_at hl 1 rfl) ?_
      refine lv_dup C.1 C.2.1 dX3_readNumber_62 rfl ?_
      obtain ⟨v14, ev14, h⟩ := lt_out h
      refine k_geti C G hP g_txt rfl 2 (by decide) n_X3_readNumber_X3 q_X3_readNumber_1 rfl ev14 dX3_readNumber_63 ?_
      refine lv_iconst (v := 1) C.1 C.2.1 dX3_readNumber_66 (by decide) ?_
      obtain ⟨v15, ev15, h⟩ := lt_out h
      refine k_iadd C ev15 dX3_readNumber_67 ?_
      obtain ⟨T16, eT16, h⟩ := lt_out h
      refine k_puti C G hP hS g_txt rfl 2 (by decide) n_X3_readNumber_X3 q_X3_readNumber_1 tyX3_ok nmX3 rfl (tyX3_ok 2 (by decide)) (Nat.le_of_ble_eq_true rfl) g_txtS2 dX3_readNumber_68 (fun H locs hP hS => ?_)
      rw [← eT16] at hP
      obtain ⟨z17, ez17, h⟩ := lt_out h
      refine lv_iinc (v := z17) (lv' := [(6, .int z17), (5, .int v13), (0, .ref (ad 3)), (1, .int x1), (2, .int x2), (3, .int x3), (4, .int x4)]) C.1 C.2.1 dX3_readNumber_71 hl (k := 6) rfl (by rw [ez17]; rfl) (by decide) rfl (fun ls hl => ?_)
      refine lv_goto (tgt := 22) C.1 C.2.1 dX3_readNumber_74 (by decide) ?_
      exact hK22 hP hS (lv_sub hl [2, 3, 4, 5, 6, 1, 0] rfl)  h
set_option maxRecDepth 100000 in
set_option maxHeartbeats 4000000 in
theorem w_X3_readNumber_h22 {res : Int32 × SL} (C : Cx p s m args meth c cX3_readNumber 7 (some .int) RX3 wsX3_readNumber) (G : Gx D cs ad s) {Ls : Nat → SL} {Hs : SL} {M : SL} {dr : Int64} {hs : Int64} {o : Int64} {od : UInt64} : ∀ (n : Nat) {T : SL} {x1 : Int32} {x2 : Int32} {x3 : Int32} {x4 : Int32} {x5 : Int32} {x6 : Int32} {H : Heap} {locs : List Loc} {ls : Array Slot}, va_P D vwCl (wA cs ad Ls Hs T M dr hs o od) H → va_S (Afr ad s.heap.size) s.heap H locs → lv_has ls 7 [(0, .ref (ad 3)), (1, .int x1), (2, .int x2), (3, .int x3), (4, .int x4), (5, .int x5), (6, .int x6)] → f_X3_readNumber_h22 n T x1 x2 x3 x4 x5 x6 = some res → W p l e rmX3_readNumber s m args below meth c H locs 0 0 (MQ below (va_Qi (fun r' (_ : Unit) => r' = res.1) (fun _ t => va_P D vwCl (wA cs ad Ls Hs res.2 M dr hs o od) t.heap) (Afr ad s.heap.size)) args s 0 0 (Afr ad s.heap.size)) (F0 m 22 ls []) := by
  intro n
  induction n with
  | zero => intro T x1 x2 x3 x4 x5 x6 H locs ls hP hS hl  h; cases h
  | succ n ih => intro T x1 x2 x3 x4 x5 x6 H locs ls hP hS hl  h; exact w_X3_readNumber_b22 C G    ih hP hS hl  h
set_option maxRecDepth 100000 in
set_option maxHeartbeats 4000000 in
theorem w_X3_readNumber_e {res : Int32 × SL} (C : Cx p s m args meth c cX3_readNumber 7 (some .int) RX3 wsX3_readNumber) (G : Gx D cs ad s) {Ls : Nat → SL} {Hs : SL} {M : SL} {dr : Int64} {hs : Int64} {o : Int64} {od : UInt64} {T : SL} {x1 : Int32} {x2 : Int32} {x3 : Int32} {H : Heap} {locs : List Loc} {ls : Array Slot} (hP : va_P D vwCl (wA cs ad Ls Hs T M dr hs o od) H) (hS : va_S (Afr ad s.heap.size) s.heap H locs) (hl : lv_has ls 7 [(0, .ref (ad 3)), (1, .int x1), (2, .int x2), (3, .int x3)]) (h : f_X3_readNumber T x1 x2 x3 = some res) : W p l e rmX3_readNumber s m args below meth c H locs 0 0 (MQ below (va_Qi (fun r' (_ : Unit) => r' = res.1) (fun _ t => va_P D vwCl (wA cs ad Ls Hs res.2 M dr hs o od) t.heap) (Afr ad s.heap.size)) args s 0 0 (Afr ad s.heap.size)) (F0 m 0 ls []) := by
  unfold f_X3_readNumber at h
  refine lv_aload_n C.1 C.2.1 dX3_readNumber_0 rfl (lv_at hl 0 rfl) ?_
  obtain ⟨v1, ev1, h⟩ := lt_out h
  refine k_geti C G hP g_txt rfl 3 (by decide) n_X3_readNumber_X3 q_X3_readNumber_0 rfl ev1 dX3_readNumber_1 ?_
  refine lv_iconst (v := (-1)) C.1 C.2.1 dX3_readNumber_4 (by decide) ?_
  refine lv_icmp_eq (tgt := 10) C.1 C.2.1 dX3_readNumber_5 (by decide) (fun c2 => ?_) (fun c2 => ?_)
  · have h := if_t c2 h
    refine lv_aload_n C.1 C.2.1 dX3_readNumber_10 rfl (lv_at hl 0 rfl) ?_
    obtain ⟨v3, ev3, h⟩ := lt_out h
    refine k_geti C G hP g_txt rfl 2 (by decide) n_X3_readNumber_X3 q_X3_readNumber_1 rfl ev3 dX3_readNumber_11 ?_
    refine lv_istore (lv' := [(4, .int v3), (0, .ref (ad 3)), (1, .int x1), (2, .int x2), (3, .int x3)]) C.1 C.2.1 dX3_readNumber_14 hl (by decide) rfl (fun ls hl => ?_)
    refine lv_iconst (v := 0) C.1 C.2.1 dX3_readNumber_16 (by decide) ?_
    refine lv_istore (lv' := [(5, .int 0), (4, .int v3), (0, .ref (ad 3)), (1, .int x1), (2, .int x2), (3, .int x3)]) C.1 C.2.1 dX3_readNumber_17 hl (by decide) rfl (fun ls hl => ?_)
    refine lv_iconst (v := 0) C.1 C.2.1 dX3_readNumber_19 (by decide) ?_
    refine lv_istore (lv' := [(6, .int 0), (5, .int 0), (4, .int v3), (0, .ref (ad 3)), (1, .int x1), (2, .int x2), (3, .int x3)]) C.1 C.2.1 dX3_readNumber_20 hl (by decide) rfl (fun ls hl => ?_)
    exact w_X3_readNumber_h22 C G fuel hP hS (lv_sub hl [3, 4, 5, 6, 2, 1, 0] rfl) h
  · have h := if_f c2 h
    refine lv_iconst (v := (-1)) C.1 C.2.1 dX3_readNumber_8 (by decide) ?_
    cases h
    exact k_iret C hP hS dX3_readNumber_9
set_option maxRecDepth 100000 in
set_option maxHeartbeats 4000000 in
theorem m_X3_readNumber (l : Launch) {D : va_G} {cs : Nat → ClassId} {ad : Nat → Nat} (hAd : adOK ad) (sz : Nat) {Ls : Nat → SL} {Hs : SL} {T : SL} {M : SL} {dr : Int64} {hs : Int64} {o : Int64} {od : UInt64} {x1 : Int32} {x2 : Int32} {x3 : Int32} {res : Int32 × SL} (h : f_X3_readNumber T x1 x2 x3 = some res) : Met l yX3_readNumber wsX3_readNumber rmX3_readNumber (PA D cs sz (wA cs ad Ls Hs T M dr hs o od) [.ref (ad 3), .int x1, .int x2, .int x3]) (va_Qi (fun r' (_ : Unit) => r' = res.1) (fun _ t => va_P D vwCl (wA cs ad Ls Hs res.2 M dr hs o od) t.heap) (Afr ad sz)) 0 0 (Afr ad sz) :=
  k_met (by decide) rfl (Nat.le_of_ble_eq_true rfl) hAd (fun p e s m below meth c ls C G hP hsz hl hS => by
    subst hsz
    exact w_X3_readNumber_e C G  hP hS hl  h)
/-! X3 readMachine -/
abbrev rmX3_readMachine : Room := { frames := 3, cells := 0, slots := 0, locals := 68 }
theorem q_X3_readMachine_0 : Cond.fieldLink RX3 22 "LineBuffers$LineText" "error" "I" ∈ wsX3_readMachine := List.mem_of_getElem? (i := 1) rfl
theorem n_X3_readMachine_X3 : ∀ x ∈ u_ws RX3 TX3 4, x ∈ wsX3_readMachine := fun x h => List.mem_cons_of_mem _ (List.mem_append_left _ (List.mem_append_right _ h))
set_option maxRecDepth 100000 in
set_option maxHeartbeats 4000000 in
theorem w_X3_readMachine_e {res : SL × SL} (C : Cx p s m args meth c cX3_readMachine 5 none RX3 wsX3_readMachine) (G : Gx D cs ad s) {i : Nat} (hi : i < 6) {Ls : Nat → SL} {Hs : SL} {M : SL} {dr : Int64} {hs : Int64} {o : Int64} {od : UInt64} {L : SL} {T : SL} {H : Heap} {locs : List Loc} {ls : Array Slot} (hP : va_P D vwCl (wA cs ad (va_up Ls i L) Hs T M dr hs o od) H) (hS : va_S (Afr ad s.heap.size) s.heap H locs) (hl : lv_has ls 5 [(0, .ref (ad 3)), (1, .ref (ad (5 + 14 * i + 0)))]) (h : f_X3_readMachine L T = some res) : W p l e rmX3_readMachine s m args below meth c H locs 0 0 (MQ below (va_Qv (fun (_ : Unit) => True) (fun _ t => va_P D vwCl (wA cs ad (va_up Ls i res.1) Hs res.2 M dr hs o od) t.heap) (Afr ad s.heap.size)) args s 0 0 (Afr ad s.heap.size)) (F0 m 0 ls []) := by
  unfold f_X3_readMachine at h
  refine lv_aload_n C.1 C.2.1 dX3_readMachine_0 rfl (lv_at hl 0 rfl) ?_
  refine lv_iconst (v := 1) C.1 C.2.1 dX3_readMachine_1 (by decide) ?_
  refine lv_bipush (v := 20) C.1 C.2.1 dX3_readMachine_2 (by decide) ?_
  refine lv_bipush (v := 44) C.1 C.2.1 dX3_readMachine_4 (by decide) ?_
  obtain ⟨r1, T2, c3, h⟩ := bd2_out h
  refine k_callVi C G hP hS (m_X3_readNumber l G.2.1 _  c3) g_txt rfl (cwV 3 C.2.2.2.2.2.1 gX3_readMachine_X3_readNumber rfl rfl rfl (by decide +kernel) ⟨Nat.le_of_ble_eq_true rfl, Nat.le_of_ble_eq_true rfl⟩) (As := [.int 1, .int 20, .int 44]) rfl hl.1 rfl (Nat.le_of_ble_eq_true rfl) dX3_readMachine_6 ⟨Nat.le_of_ble_eq_true rfl, Nat.le_of_ble_eq_true rfl⟩ (fun H locs hP hS => ?_)
  refine lv_istore_n (lv' := [(2, .int r1), (0, .ref (ad 3)), (1, .ref (ad (5 + 14 * i + 0)))]) C.1 C.2.1 dX3_readMachine_9 rfl hl (by decide) rfl (fun ls hl => ?_)
  refine lv_aload_n C.1 C.2.1 dX3_readMachine_10 rfl (lv_at hl 1 rfl) ?_
  refine lv_iconst (v := 1) C.1 C.2.1 dX3_readMachine_11 (by decide) ?_
  refine lv_iload_n C.1 C.2.1 dX3_readMachine_12 rfl (lv_at hl 0 rfl) ?_
  refine lv_bipush (v := 44) C.1 C.2.1 dX3_readMachine_13 (by decide) ?_
  obtain ⟨r4, T5, c6, h⟩ := bd2_out h
  refine k_callVi C G hP hS (m_X3_readNumber l G.2.1 _  c6) g_txt rfl (cwV 3 C.2.2.2.2.2.1 gX3_readMachine_X3_readNumber rfl rfl rfl (by decide +kernel) ⟨Nat.le_of_ble_eq_true rfl, Nat.le_of_ble_eq_true rfl⟩) (As := [.int 1, .int r1, .int 44]) rfl hl.1 rfl (Nat.le_of_ble_eq_true rfl) dX3_readMachine_15 ⟨Nat.le_of_ble_eq_true rfl, Nat.le_of_ble_eq_true rfl⟩ (fun H locs hP hS => ?_)
  refine lv_istore_n (lv' := [(3, .int r4), (2, .int r1), (0, .ref (ad 3)), (1, .ref (ad (5 + 14 * i + 0)))]) C.1 C.2.1 dX3_readMachine_18 rfl hl (by decide) rfl (fun ls hl => ?_)
  refine lv_aload_n C.1 C.2.1 dX3_readMachine_19 rfl (lv_at hl 2 rfl) ?_
  refine lv_iconst (v := 0) C.1 C.2.1 dX3_readMachine_20 (by decide) ?_
  refine lv_bipush (v := 40) C.1 C.2.1 dX3_readMachine_21 (by decide) ?_
  refine lv_bipush (v := 59) C.1 C.2.1 dX3_readMachine_23 (by decide) ?_
  obtain ⟨r7, T8, c9, h⟩ := bd2_out h
  refine k_callVi C G hP hS (m_X3_readNumber l G.2.1 _  c9) g_txt rfl (cwV 3 C.2.2.2.2.2.1 gX3_readMachine_X3_readNumber rfl rfl rfl (by decide +kernel) ⟨Nat.le_of_ble_eq_true rfl, Nat.le_of_ble_eq_true rfl⟩) (As := [.int 0, .int 40, .int 59]) rfl hl.1 rfl (Nat.le_of_ble_eq_true rfl) dX3_readMachine_25 ⟨Nat.le_of_ble_eq_true rfl, Nat.le_of_ble_eq_true rfl⟩ (fun H locs hP hS => ?_)
  refine lv_istore (lv' := [(4, .int r7), (3, .int r4), (2, .int r1), (0, .ref (ad 3)), (1, .ref (ad (5 + 14 * i + 0)))]) C.1 C.2.1 dX3_readMachine_28 hl (by decide) rfl (fun ls hl => ?_)
  refine lv_aload_n C.1 C.2.1 dX3_readMachine_30 rfl (lv_at hl 3 rfl) ?_
  obtain ⟨v10, ev10, h⟩ := lt_out h
  refine k_geti C G hP g_txt rfl 3 (by decide) n_X3_readMachine_X3 q_X3_readMachine_0 rfl ev10 dX3_readMachine_31 ?_
  refine lv_iconst (v := (-1)) C.1 C.2.1 dX3_readMachine_34 (by decide) ?_
  refine lv_icmp_ne (tgt := 47) C.1 C.2.1 dX3_readMachine_35 (by decide) (fun c11 => ?_) (fun c11 => ?_)
  · have h := if_t c11 h
    cases h
    exact k_vret C hP hS dX3_readMachine_47
  · have h := if_n c11 h
    refine lv_aload_n C.1 C.2.1 dX3_readMachine_38 rfl (lv_at hl 4 rfl) ?_
    refine lv_iload_n C.1 C.2.1 dX3_readMachine_39 rfl (lv_at hl 2 rfl) ?_
    refine lv_iload_n C.1 C.2.1 dX3_readMachine_40 rfl (lv_at hl 1 rfl) ?_
    refine lv_iload C.1 C.2.1 dX3_readMachine_41 (lv_at hl 0 rfl) ?_
    obtain ⟨r12, L13, c14, h⟩ := bd2_out h
    refine k_callVi C G hP hS (m_X2_join l G.2.1 _ hi c14) (v_obj hi) rfl (cwV 3 C.2.2.2.2.2.1 gX3_readMachine_X2_join rfl rfl rfl (by decide +kernel) ⟨Nat.le_of_ble_eq_true rfl, Nat.le_of_ble_eq_true rfl⟩) (As := [.int r1, .int r4, .int r7]) rfl hl.1 rfl (Nat.le_of_ble_eq_true rfl) dX3_readMachine_43 ⟨Nat.le_of_ble_eq_true rfl, Nat.le_of_ble_eq_true rfl⟩ (fun H locs hP hS => ?_)
    refine lv_pop C.1 C.2.1 dX3_readMachine_46 rfl ?_
    cases h
    exact k_vret C hP hS dX3_readMachine_47
set_option maxRecDepth 100000 in
set_option maxHeartbeats 4000000 in
theorem m_X3_readMachine (l : Launch) {D : va_G} {cs : Nat → ClassId} {ad : Nat → Nat} (hAd : adOK ad) (sz : Nat) {i : Nat} (hi : i < 6) {Ls : Nat → SL} {Hs : SL} {T : SL} {M : SL} {dr : Int64} {hs : Int64} {o : Int64} {od : UInt64} {L : SL} {res : SL × SL} (h : f_X3_readMachine L T = some res) : Met l yX3_readMachine wsX3_readMachine rmX3_readMachine (PA D cs sz (wA cs ad (va_up Ls i L) Hs T M dr hs o od) [.ref (ad 3), .ref (ad (5 + 14 * i + 0))]) (va_Qv (fun (_ : Unit) => True) (fun _ t => va_P D vwCl (wA cs ad (va_up Ls i res.1) Hs res.2 M dr hs o od) t.heap) (Afr ad sz)) 0 0 (Afr ad sz) :=
  k_met (by decide) rfl (Nat.le_of_ble_eq_true rfl) hAd (fun p e s m below meth c ls C G hP hsz hl hS => by
    subst hsz
    exact w_X3_readMachine_e C G hi hP hS hl  h)
/-! X3 readMarks -/
abbrev rmX3_readMarks : Room := { frames := 3, cells := 0, slots := 0, locals := 68 }
theorem q_X3_readMarks_0 : Cond.fieldLink RX3 22 "LineBuffers$LineText" "error" "I" ∈ wsX3_readMarks := List.mem_of_getElem? (i := 1) rfl
theorem n_X3_readMarks_X2 : ∀ x ∈ u_ws RX2 TX2 4, x ∈ wsX3_readMarks := fun x h => List.mem_cons_of_mem _ (List.mem_append_left _ (List.mem_append_right _ h))
theorem n_X3_readMarks_X3 : ∀ x ∈ u_ws RX3 TX3 4, x ∈ wsX3_readMarks := fun x h => List.mem_cons_of_mem _ (List.mem_append_right _ h)
set_option maxRecDepth 100000 in
set_option maxHeartbeats 4000000 in
theorem w_X3_readMarks_e {res : SL × SL} (C : Cx p s m args meth c cX3_readMarks 5 none RX3 wsX3_readMarks) (G : Gx D cs ad s) {i : Nat} (hi : i < 6) {Ls : Nat → SL} {Hs : SL} {M : SL} {dr : Int64} {hs : Int64} {o : Int64} {od : UInt64} {L : SL} {T : SL} {H : Heap} {locs : List Loc} {ls : Array Slot} (hP : va_P D vwCl (wA cs ad (va_up Ls i L) Hs T M dr hs o od) H) (hS : va_S (Afr ad s.heap.size) s.heap H locs) (hl : lv_has ls 5 [(0, .ref (ad 3)), (1, .ref (ad (5 + 14 * i + 0)))]) (h : f_X3_readMarks L T = some res) : W p l e rmX3_readMarks s m args below meth c H locs 0 0 (MQ below (va_Qv (fun (_ : Unit) => True) (fun _ t => va_P D vwCl (wA cs ad (va_up Ls i res.1) Hs res.2 M dr hs o od) t.heap) (Afr ad s.heap.size)) args s 0 0 (Afr ad s.heap.size)) (F0 m 0 ls []) := by
  unfold f_X3_readMarks at h
  refine lv_aload_n C.1 C.2.1 dX3_readMarks_0 rfl (lv_at hl 0 rfl) ?_
  refine lv_iconst (v := 0) C.1 C.2.1 dX3_readMarks_1 (by decide) ?_
  refine lv_aload_n C.1 C.2.1 dX3_readMarks_2 rfl (lv_at hl 1 rfl) ?_
  obtain ⟨v1, ev1, h⟩ := lt_out h
  refine k_getiN C G hP (v_obj hi) rfl 2 (by decide) n_X3_readMarks_X2 (List.mem_of_getElem? (i := 5) rfl) rfl ev1 dX3_readMarks_3 ?_
  refine lv_iconst (v := 1) C.1 C.2.1 dX3_readMarks_6 (by decide) ?_
  obtain ⟨v2, ev2, h⟩ := lt_out h
  refine k_isub C ev2 dX3_readMarks_7 ?_
  refine lv_bipush (v := 44) C.1 C.2.1 dX3_readMarks_8 (by decide) ?_
  obtain ⟨r3, T4, c5, h⟩ := bd2_out h
  refine k_callVi C G hP hS (m_X3_readNumber l G.2.1 _  c5) g_txt rfl (cwV 3 C.2.2.2.2.2.1 gX3_readMarks_X3_readNumber rfl rfl rfl (by decide +kernel) ⟨Nat.le_of_ble_eq_true rfl, Nat.le_of_ble_eq_true rfl⟩) (As := [.int 0, .int v2, .int 44]) rfl hl.1 rfl (Nat.le_of_ble_eq_true rfl) dX3_readMarks_10 ⟨Nat.le_of_ble_eq_true rfl, Nat.le_of_ble_eq_true rfl⟩ (fun H locs hP hS => ?_)
  refine lv_istore_n (lv' := [(2, .int r3), (0, .ref (ad 3)), (1, .ref (ad (5 + 14 * i + 0)))]) C.1 C.2.1 dX3_readMarks_13 rfl hl (by decide) rfl (fun ls hl => ?_)
  refine lv_aload_n C.1 C.2.1 dX3_readMarks_14 rfl (lv_at hl 1 rfl) ?_
  refine lv_iconst (v := 0) C.1 C.2.1 dX3_readMarks_15 (by decide) ?_
  refine lv_bipush (v := 40) C.1 C.2.1 dX3_readMarks_16 (by decide) ?_
  refine lv_bipush (v := 44) C.1 C.2.1 dX3_readMarks_18 (by decide) ?_
  obtain ⟨r6, T7, c8, h⟩ := bd2_out h
  refine k_callVi C G hP hS (m_X3_readNumber l G.2.1 _  c8) g_txt rfl (cwV 3 C.2.2.2.2.2.1 gX3_readMarks_X3_readNumber rfl rfl rfl (by decide +kernel) ⟨Nat.le_of_ble_eq_true rfl, Nat.le_of_ble_eq_true rfl⟩) (As := [.int 0, .int 40, .int 44]) rfl hl.1 rfl (Nat.le_of_ble_eq_true rfl) dX3_readMarks_20 ⟨Nat.le_of_ble_eq_true rfl, Nat.le_of_ble_eq_true rfl⟩ (fun H locs hP hS => ?_)
  refine lv_istore_n (lv' := [(3, .int r6), (2, .int r3), (0, .ref (ad 3)), (1, .ref (ad (5 + 14 * i + 0)))]) C.1 C.2.1 dX3_readMarks_23 rfl hl (by decide) rfl (fun ls hl => ?_)
  refine lv_aload_n C.1 C.2.1 dX3_readMarks_24 rfl (lv_at hl 2 rfl) ?_
  refine lv_iload_n C.1 C.2.1 dX3_readMarks_25 rfl (lv_at hl 0 rfl) ?_
  refine lv_bipush (v := 40) C.1 C.2.1 dX3_readMarks_26 (by decide) ?_
  refine lv_bipush (v := 59) C.1 C.2.1 dX3_readMarks_28 (by decide) ?_
  obtain ⟨r9, T10, c11, h⟩ := bd2_out h
  refine k_callVi C G hP hS (m_X3_readNumber l G.2.1 _  c11) g_txt rfl (cwV 3 C.2.2.2.2.2.1 gX3_readMarks_X3_readNumber rfl rfl rfl (by decide +kernel) ⟨Nat.le_of_ble_eq_true rfl, Nat.le_of_ble_eq_true rfl⟩) (As := [.int r6, .int 40, .int 59]) rfl hl.1 rfl (Nat.le_of_ble_eq_true rfl) dX3_readMarks_30 ⟨Nat.le_of_ble_eq_true rfl, Nat.le_of_ble_eq_true rfl⟩ (fun H locs hP hS => ?_)
  refine lv_istore (lv' := [(4, .int r9), (3, .int r6), (2, .int r3), (0, .ref (ad 3)), (1, .ref (ad (5 + 14 * i + 0)))]) C.1 C.2.1 dX3_readMarks_33 hl (by decide) rfl (fun ls hl => ?_)
  refine lv_aload_n C.1 C.2.1 dX3_readMarks_35 rfl (lv_at hl 3 rfl) ?_
  obtain ⟨v12, ev12, h⟩ := lt_out h
  refine k_geti C G hP g_txt rfl 3 (by decide) n_X3_readMarks_X3 q_X3_readMarks_0 rfl ev12 dX3_readMarks_36 ?_
  refine lv_iconst (v := (-1)) C.1 C.2.1 dX3_readMarks_39 (by decide) ?_
  refine lv_icmp_ne (tgt := 51) C.1 C.2.1 dX3_readMarks_40 (by decide) (fun c13 => ?_) (fun c13 => ?_)
  · have h := if_t c13 h
    cases h
    exact k_vret C hP hS dX3_readMarks_51
  · have h := if_n c13 h
    refine lv_aload_n C.1 C.2.1 dX3_readMarks_43 rfl (lv_at hl 4 rfl) ?_
    refine lv_iload_n C.1 C.2.1 dX3_readMarks_44 rfl (lv_at hl 2 rfl) ?_
    refine lv_iload_n C.1 C.2.1 dX3_readMarks_45 rfl (lv_at hl 1 rfl) ?_
    refine lv_iload C.1 C.2.1 dX3_readMarks_46 (lv_at hl 0 rfl) ?_
    obtain ⟨L14, c15, h⟩ := bd_out h
    refine k_callVv C G hP hS (m_X2_mark l G.2.1 _ hi c15) (v_obj hi) rfl (cwV 3 C.2.2.2.2.2.1 gX3_readMarks_X2_mark rfl rfl rfl (by decide +kernel) ⟨Nat.le_of_ble_eq_true rfl, Nat.le_of_ble_eq_true rfl⟩) (As := [.int r3, .int r6, .int r9]) rfl hl.1 rfl (Nat.le_of_ble_eq_true rfl) dX3_readMarks_48 ⟨Nat.le_of_ble_eq_true rfl, Nat.le_of_ble_eq_true rfl⟩ (fun H locs hP hS => ?_)
    cases h
    exact k_vret C hP hS dX3_readMarks_51
set_option maxRecDepth 100000 in
set_option maxHeartbeats 4000000 in
theorem m_X3_readMarks (l : Launch) {D : va_G} {cs : Nat → ClassId} {ad : Nat → Nat} (hAd : adOK ad) (sz : Nat) {i : Nat} (hi : i < 6) {Ls : Nat → SL} {Hs : SL} {T : SL} {M : SL} {dr : Int64} {hs : Int64} {o : Int64} {od : UInt64} {L : SL} {res : SL × SL} (h : f_X3_readMarks L T = some res) : Met l yX3_readMarks wsX3_readMarks rmX3_readMarks (PA D cs sz (wA cs ad (va_up Ls i L) Hs T M dr hs o od) [.ref (ad 3), .ref (ad (5 + 14 * i + 0))]) (va_Qv (fun (_ : Unit) => True) (fun _ t => va_P D vwCl (wA cs ad (va_up Ls i res.1) Hs res.2 M dr hs o od) t.heap) (Afr ad sz)) 0 0 (Afr ad sz) :=
  k_met (by decide) rfl (Nat.le_of_ble_eq_true rfl) hAd (fun p e s m below meth c ls C G hP hsz hl hS => by
    subst hsz
    exact w_X3_readMarks_e C G hi hP hS hl  h)
/-! X3 readItem -/
abbrev rmX3_readItem : Room := { frames := 4, cells := 0, slots := 0, locals := 92 }
theorem q_X3_readItem_0 : Cond.fieldLink RX3 19 "LineBuffers$LineText" "at" "I" ∈ wsX3_readItem := List.mem_of_getElem? (i := 1) rfl
theorem q_X3_readItem_1 : Cond.fieldLink RX3 22 "LineBuffers$LineText" "error" "I" ∈ wsX3_readItem := List.mem_of_getElem? (i := 2) rfl
theorem n_X3_readItem_X3 : ∀ x ∈ u_ws RX3 TX3 4, x ∈ wsX3_readItem := fun x h => List.mem_cons_of_mem _ (List.mem_append_left _ (List.mem_append_right _ h))
theorem n_X3_readItem_X2 : ∀ x ∈ u_ws RX2 TX2 4, x ∈ wsX3_readItem := fun x h => List.mem_cons_of_mem _ (List.mem_append_right _ h)
set_option maxRecDepth 100000 in
set_option maxHeartbeats 4000000 in
theorem w_X3_readItem_b42 {res : SL × SL} (C : Cx p s m args meth c cX3_readItem 3 none RX3 wsX3_readItem) (G : Gx D cs ad s) {i : Nat} (hi : i < 6) {Ls : Nat → SL} {Hs : SL} {M : SL} {dr : Int64} {hs : Int64} {o : Int64} {od : UInt64} {L : SL} {T : SL} {x2 : Int32} {H : Heap} {locs : List Loc} {ls : Array Slot} (hP : va_P D vwCl (wA cs ad (va_up Ls i L) Hs T M dr hs o od) H) (hS : va_S (Afr ad s.heap.size) s.heap H locs) (hl : lv_has ls 3 [(0, .ref (ad 3)), (1, .ref (ad (5 + 14 * i + 0))), (2, .int x2)]) (h : f_X3_readItem_b42 L T x2 = some res) : W p l e rmX3_readItem s m args below meth c H locs 0 0 (MQ below (va_Qv (fun (_ : Unit) => True) (fun _ t => va_P D vwCl (wA cs ad (va_up Ls i res.1) Hs res.2 M dr hs o od) t.heap) (Afr ad s.heap.size)) args s 0 0 (Afr ad s.heap.size)) (F0 m 42 ls []) := by
  unfold f_X3_readItem_b42 at h
  refine lv_iload_n C.1 C.2.1 dX3_readItem_42 rfl (lv_at hl 2 rfl) ?_
  refine lv_bipush (v := 104) C.1 C.2.1 dX3_readItem_43 (by decide) ?_
  refine lv_icmp_ne (tgt := 66) C.1 C.2.1 dX3_readItem_45 (by decide) (fun c1 => ?_) (fun c1 => ?_)
  · have h := if_t c1 h
    refine lv_aload_n C.1 C.2.1 dX3_readItem_66 rfl (lv_at hl 0 rfl) ?_
    refine lv_aload_n C.1 C.2.1 dX3_readItem_67 rfl (lv_at hl 0 rfl) ?_
    obtain ⟨v2, ev2, h⟩ := lt_out h
    refine k_geti C G hP g_txt rfl 2 (by decide) n_X3_readItem_X3 q_X3_readItem_0 rfl ev2 dX3_readItem_68 ?_
    obtain ⟨T3, eT3, h⟩ := lt_out h
    refine k_puti C G hP hS g_txt rfl 3 (by decide) n_X3_readItem_X3 q_X3_readItem_1 tyX3_ok nmX3 rfl (tyX3_ok 3 (by decide)) (Nat.le_of_ble_eq_true rfl) g_txtS3 dX3_readItem_71 (fun H locs hP hS => ?_)
    rw [← eT3] at hP
    cases h
    exact k_vret C hP hS dX3_readItem_74
  · have h := if_n c1 h
    refine lv_aload_n C.1 C.2.1 dX3_readItem_48 rfl (lv_at hl 0 rfl) ?_
    refine lv_dup C.1 C.2.1 dX3_readItem_49 rfl ?_
    obtain ⟨v4, ev4, h⟩ := lt_out h
    refine k_geti C G hP g_txt rfl 2 (by decide) n_X3_readItem_X3 q_X3_readItem_0 rfl ev4 dX3_readItem_50 ?_
    refine lv_iconst (v := 1) C.1 C.2.1 dX3_readItem_53 (by decide) ?_
    obtain ⟨v5, ev5, h⟩ := lt_out h
    refine k_iadd C ev5 dX3_readItem_54 ?_
    obtain ⟨T6, eT6, h⟩ := lt_out h
    refine k_puti C G hP hS g_txt rfl 2 (by decide) n_X3_readItem_X3 q_X3_readItem_0 tyX3_ok nmX3 rfl (tyX3_ok 2 (by decide)) (Nat.le_of_ble_eq_true rfl) g_txtS2 dX3_readItem_55 (fun H locs hP hS => ?_)
    rw [← eT6] at hP
    refine lv_aload_n C.1 C.2.1 dX3_readItem_58 rfl (lv_at hl 0 rfl) ?_
    refine lv_aload_n C.1 C.2.1 dX3_readItem_59 rfl (lv_at hl 1 rfl) ?_
    obtain ⟨L7, T8, c9, h⟩ := bd2_out h
    refine k_callVv C G hP hS (m_X3_readMarks l G.2.1 _ hi c9) g_txt rfl (cwV 1 C.2.2.2.2.2.1 gX3_readItem_X3_readMarks rfl rfl rfl (by decide +kernel) ⟨Nat.le_of_ble_eq_true rfl, Nat.le_of_ble_eq_true rfl⟩) (As := [.ref (ad (5 + 14 * i + 0))]) rfl hl.1 rfl (Nat.le_of_ble_eq_true rfl) dX3_readItem_60 ⟨Nat.le_of_ble_eq_true rfl, Nat.le_of_ble_eq_true rfl⟩ (fun H locs hP hS => ?_)
    refine lv_goto (tgt := 74) C.1 C.2.1 dX3_readItem_63 (by decide) ?_
    cases h
    exact k_vret C hP hS dX3_readItem_74
set_option maxRecDepth 100000 in
set_option maxHeartbeats 4000000 in
theorem w_X3_readItem_e {res : SL × SL} (C : Cx p s m args meth c cX3_readItem 3 none RX3 wsX3_readItem) (G : Gx D cs ad s) {i : Nat} (hi : i < 6) {Ls : Nat → SL} {Hs : SL} {M : SL} {dr : Int64} {hs : Int64} {o : Int64} {od : UInt64} {L : SL} {T : SL} {H : Heap} {locs : List Loc} {ls : Array Slot} (hP : va_P D vwCl (wA cs ad (va_up Ls i L) Hs T M dr hs o od) H) (hS : va_S (Afr ad s.heap.size) s.heap H locs) (hl : lv_has ls 3 [(0, .ref (ad 3)), (1, .ref (ad (5 + 14 * i + 0)))]) (h : f_X3_readItem L T = some res) : W p l e rmX3_readItem s m args below meth c H locs 0 0 (MQ below (va_Qv (fun (_ : Unit) => True) (fun _ t => va_P D vwCl (wA cs ad (va_up Ls i res.1) Hs res.2 M dr hs o od) t.heap) (Afr ad s.heap.size)) args s 0 0 (Afr ad s.heap.size)) (F0 m 0 ls []) := by
  unfold f_X3_readItem at h
  refine lv_aload_n C.1 C.2.1 dX3_readItem_0 rfl (lv_at hl 0 rfl) ?_
  refine lv_aload_n C.1 C.2.1 dX3_readItem_1 rfl (lv_at hl 0 rfl) ?_
  obtain ⟨v1, ev1, h⟩ := lt_out h
  refine k_geti C G hP g_txt rfl 2 (by decide) n_X3_readItem_X3 q_X3_readItem_0 rfl ev1 dX3_readItem_2 ?_
  obtain ⟨r2, c3, h⟩ := bd_out h
  refine k_callVi C G hP hS (m_X3_byteAt l G.2.1 _  c3) g_txt rfl (cwV 1 C.2.2.2.2.2.1 gX3_readItem_X3_byteAt rfl rfl rfl (by decide +kernel) ⟨Nat.le_of_ble_eq_true rfl, Nat.le_of_ble_eq_true rfl⟩) (As := [.int v1]) rfl hl.1 rfl (Nat.le_of_ble_eq_true rfl) dX3_readItem_5 ⟨Nat.le_of_ble_eq_true rfl, Nat.le_of_ble_eq_true rfl⟩ (fun H locs hP hS => ?_)
  refine lv_istore_n (lv' := [(2, .int r2), (0, .ref (ad 3)), (1, .ref (ad (5 + 14 * i + 0)))]) C.1 C.2.1 dX3_readItem_8 rfl hl (by decide) rfl (fun ls hl => ?_)
  refine lv_iload_n C.1 C.2.1 dX3_readItem_9 rfl (lv_at hl 0 rfl) ?_
  refine lv_bipush (v := 109) C.1 C.2.1 dX3_readItem_10 (by decide) ?_
  refine lv_icmp_ne (tgt := 42) C.1 C.2.1 dX3_readItem_12 (by decide) (fun c4 => ?_) (fun c4 => ?_)
  · have h := if_t c4 h
    exact w_X3_readItem_b42 C G hi hP hS (lv_sub hl [1, 2, 0] rfl) h
  · have h := if_n c4 h
    refine lv_aload_n C.1 C.2.1 dX3_readItem_15 rfl (lv_at hl 2 rfl) ?_
    obtain ⟨v5, ev5, h⟩ := lt_out h
    refine k_getiN C G hP (v_obj hi) rfl 2 (by decide) n_X3_readItem_X2 (List.mem_of_getElem? (i := 5) rfl) rfl ev5 dX3_readItem_16 ?_
    refine lv_bipush (v := 8) C.1 C.2.1 dX3_readItem_19 (by decide) ?_
    refine lv_icmp_ge (tgt := 42) C.1 C.2.1 dX3_readItem_21 (by decide) (fun c6 => ?_) (fun c6 => ?_)
    · have h := if_t c6 h
      exact w_X3_readItem_b42 C G hi hP hS (lv_sub hl [1, 2, 0] rfl) h
    · have h := if_f c6 h
      refine lv_aload_n C.1 C.2.1 dX3_readItem_24 rfl (lv_at hl 1 rfl) ?_
      refine lv_dup C.1 C.2.1 dX3_readItem_25 rfl ?_
      obtain ⟨v7, ev7, h⟩ := lt_out h
      refine k_geti C G hP g_txt rfl 2 (by decide) n_X3_readItem_X3 q_X3_readItem_0 rfl ev7 dX3_readItem_26 ?_
      refine lv_iconst (v := 1) C.1 C.2.1 dX3_readItem_29 (by decide) ?_
      obtain ⟨v8, ev8, h⟩ := lt_out h
      refine k_iadd C ev8 dX3_readItem_30 ?_
      obtain ⟨T9, eT9, h⟩ := lt_out h
      refine k_puti C G hP hS g_txt rfl 2 (by decide) n_X3_readItem_X3 q_X3_readItem_0 tyX3_ok nmX3 rfl (tyX3_ok 2 (by decide)) (Nat.le_of_ble_eq_true rfl) g_txtS2 dX3_readItem_31 (fun H locs hP hS => ?_)
      rw [← eT9] at hP
      refine lv_aload_n C.1 C.2.1 dX3_readItem_34 rfl (lv_at hl 1 rfl) ?_
      refine lv_aload_n C.1 C.2.1 dX3_readItem_35 rfl (lv_at hl 2 rfl) ?_
      obtain ⟨L10, T11, c12, h⟩ := bd2_out h
      refine k_callVv C G hP hS (m_X3_readMachine l G.2.1 _ hi c12) g_txt rfl (cwV 1 C.2.2.2.2.2.1 gX3_readItem_X3_readMachine rfl rfl rfl (by decide +kernel) ⟨Nat.le_of_ble_eq_true rfl, Nat.le_of_ble_eq_true rfl⟩) (As := [.ref (ad (5 + 14 * i + 0))]) rfl hl.1 rfl (Nat.le_of_ble_eq_true rfl) dX3_readItem_36 ⟨Nat.le_of_ble_eq_true rfl, Nat.le_of_ble_eq_true rfl⟩ (fun H locs hP hS => ?_)
      refine lv_goto (tgt := 74) C.1 C.2.1 dX3_readItem_39 (by decide) ?_
      cases h
      exact k_vret C hP hS dX3_readItem_74
set_option maxRecDepth 100000 in
set_option maxHeartbeats 4000000 in
theorem m_X3_readItem (l : Launch) {D : va_G} {cs : Nat → ClassId} {ad : Nat → Nat} (hAd : adOK ad) (sz : Nat) {i : Nat} (hi : i < 6) {Ls : Nat → SL} {Hs : SL} {T : SL} {M : SL} {dr : Int64} {hs : Int64} {o : Int64} {od : UInt64} {L : SL} {res : SL × SL} (h : f_X3_readItem L T = some res) : Met l yX3_readItem wsX3_readItem rmX3_readItem (PA D cs sz (wA cs ad (va_up Ls i L) Hs T M dr hs o od) [.ref (ad 3), .ref (ad (5 + 14 * i + 0))]) (va_Qv (fun (_ : Unit) => True) (fun _ t => va_P D vwCl (wA cs ad (va_up Ls i res.1) Hs res.2 M dr hs o od) t.heap) (Afr ad sz)) 0 0 (Afr ad sz) :=
  k_met (by decide) rfl (Nat.le_of_ble_eq_true rfl) hAd (fun p e s m below meth c ls C G hP hsz hl hS => by
    subst hsz
    exact w_X3_readItem_e C G hi hP hS hl  h)
/-! X3 readInto -/
abbrev rmX3_readInto : Room := { frames := 5, cells := 0, slots := 0, locals := 114 }
theorem q_X3_readInto_0 : Cond.fieldLink RX3 19 "LineBuffers$LineText" "at" "I" ∈ wsX3_readInto := List.mem_of_getElem? (i := 1) rfl
theorem q_X3_readInto_1 : Cond.fieldLink RX3 22 "LineBuffers$LineText" "error" "I" ∈ wsX3_readInto := List.mem_of_getElem? (i := 2) rfl
theorem q_X3_readInto_2 : Cond.fieldLink RX3 15 "LineBuffers$LineText" "length" "I" ∈ wsX3_readInto := List.mem_of_getElem? (i := 3) rfl
theorem n_X3_readInto_X3 : ∀ x ∈ u_ws RX3 TX3 4, x ∈ wsX3_readInto := fun x h => List.mem_cons_of_mem _ (List.mem_append_left _ (List.mem_append_left _ (List.mem_append_right _ h)))
set_option maxRecDepth 100000 in
set_option maxHeartbeats 4000000 in
theorem w_X3_readInto_b16 {res : Int32 × SL × SL} (C : Cx p s m args meth c cX3_readInto 3 (some .int) RX3 wsX3_readInto) (G : Gx D cs ad s) {i : Nat} (hi : i < 6) {Ls : Nat → SL} {Hs : SL} {M : SL} {dr : Int64} {hs : Int64} {o : Int64} {od : UInt64} {K16 : SL → SL → Int32 → Option (Int32 × SL × SL)} (hK16 : ∀ {L : SL} {T : SL} {x2 : Int32} {H : Heap} {locs : List Loc} {ls : Array Slot}, va_P D vwCl (wA cs ad (va_up Ls i L) Hs T M dr hs o od) H → va_S (Afr ad s.heap.size) s.heap H locs → lv_has ls 3 [(0, .ref (ad 3)), (1, .ref (ad (5 + 14 * i + 0))), (2, .int x2)] → K16 L T x2 = some res → W p l e rmX3_readInto s m args below meth c H locs 0 0 (MQ below (va_Qi (fun r' (_ : Unit) => r' = res.1) (fun _ t => va_P D vwCl (wA cs ad (va_up Ls i res.2.1) Hs res.2.2 M dr hs o od) t.heap) (Afr ad s.heap.size)) args s 0 0 (Afr ad s.heap.size)) (F0 m 16 ls [])) {L : SL} {T : SL} {x2 : Int32} {H : Heap} {locs : List Loc} {ls : Array Slot} (hP : va_P D vwCl (wA cs ad (va_up Ls i L) Hs T M dr hs o od) H) (hS : va_S (Afr ad s.heap.size) s.heap H locs) (hl : lv_has ls 3 [(0, .ref (ad 3)), (1, .ref (ad (5 + 14 * i + 0))), (2, .int x2)]) (h : f_X3_readInto_b16 K16 L T x2 = some res) : W p l e rmX3_readInto s m args below meth c H locs 0 0 (MQ below (va_Qi (fun r' (_ : Unit) => r' = res.1) (fun _ t => va_P D vwCl (wA cs ad (va_up Ls i res.2.1) Hs res.2.2 M dr hs o od) t.heap) (Afr ad s.heap.size)) args s 0 0 (Afr ad s.heap.size)) (F0 m 16 ls []) := by
  unfold f_X3_readInto_b16 at h
  refine lv_iload_n C.1 C.2.1 dX3_readInto_16 rfl (lv_at hl 2 rfl) ?_
  refine lv_bipush (v := 120) C.1 C.2.1 dX3_readInto_17 (by decide) ?_
  refine lv_icmp_ge (tgt := 52) C.1 C.2.1 dX3_readInto_19 (by decide) (fun c1 => ?_) (fun c1 => ?_)
  · have h := if_t c1 h
    refine lv_aload_n C.1 C.2.1 dX3_readInto_52 rfl (lv_at hl 0 rfl) ?_
    obtain ⟨v2, ev2, h⟩ := lt_out h
    refine k_geti C G hP g_txt rfl 3 (by decide) n_X3_readInto_X3 q_X3_readInto_1 rfl ev2 dX3_readInto_53 ?_
    cases h
    exact k_iret C hP hS dX3_readInto_56
  · have h := if_f c1 h
    refine lv_aload_n C.1 C.2.1 dX3_readInto_22 rfl (lv_at hl 0 rfl) ?_
    obtain ⟨v3, ev3, h⟩ := lt_out h
    refine k_geti C G hP g_txt rfl 2 (by decide) n_X3_readInto_X3 q_X3_readInto_0 rfl ev3 dX3_readInto_23 ?_
    refine lv_aload_n C.1 C.2.1 dX3_readInto_26 rfl (lv_at hl 0 rfl) ?_
    obtain ⟨v4, ev4, h⟩ := lt_out h
    refine k_geti C G hP g_txt rfl 1 (by decide) n_X3_readInto_X3 q_X3_readInto_2 rfl ev4 dX3_readInto_27 ?_
    refine lv_icmp_ge (tgt := 52) C.1 C.2.1 dX3_readInto_30 (by decide) (fun c5 => ?_) (fun c5 => ?_)
    · have h := if_t c5 h
      refine lv_aload_n C.1 C.2.1 dX3_readInto_52 rfl (lv_at hl 0 rfl) ?_
      obtain ⟨v6, ev6, h⟩ := lt_out h
      refine k_geti C G hP g_txt rfl 3 (by decide) n_X3_readInto_X3 q_X3_readInto_1 rfl ev6 dX3_readInto_53 ?_
      cases h
      exact k_iret C hP hS dX3_readInto_56
    · have h := if_f c5 h
      refine lv_aload_n C.1 C.2.1 dX3_readInto_33 rfl (lv_at hl 0 rfl) ?_
      obtain ⟨v7, ev7, h⟩ := lt_out h
      refine k_geti C G hP g_txt rfl 3 (by decide) n_X3_readInto_X3 q_X3_readInto_1 rfl ev7 dX3_readInto_34 ?_
      refine lv_iconst (v := (-1)) C.1 C.2.1 dX3_readInto_37 (by decide) ?_
      refine lv_icmp_ne (tgt := 52) C.1 C.2.1 dX3_readInto_38 (by decide) (fun c8 => ?_) (fun c8 => ?_)
      · have h := if_t c8 h
        refine lv_aload_n C.1 C.2.1 dX3_readInto_52 rfl (lv_at hl 0 rfl) ?_
        obtain ⟨v9, ev9, h⟩ := lt_out h
        refine k_geti C G hP g_txt rfl 3 (by decide) n_X3_readInto_X3 q_X3_readInto_1 rfl ev9 dX3_readInto_53 ?_
        cases h
        exact k_iret C hP hS dX3_readInto_56
      · have h := if_n c8 h
        refine lv_aload_n C.1 C.2.1 dX3_readInto_41 rfl (lv_at hl 0 rfl) ?_
        refine lv_aload_n C.1 C.2.1 dX3_readInto_42 rfl (lv_at hl 1 rfl) ?_
        obtain ⟨L10, T11, c12, h⟩ := bd2_out h
        refine k_callVv C G hP hS (m_X3_readItem l G.2.1 _ hi c12) g_txt rfl (cwV 1 C.2.2.2.2.2.1 gX3_readInto_X3_readItem rfl rfl rfl (by decide +kernel) ⟨Nat.le_of_ble_eq_true rfl, Nat.le_of_ble_eq_true rfl⟩) (As := [.ref (ad (5 + 14 * i + 0))]) rfl hl.1 rfl (Nat.le_of_ble_eq_true rfl) dX3_readInto_43 ⟨Nat.le_of_ble_eq_true rfl, Nat.le_of_ble_eq_true rfl⟩ (fun H locs hP hS => ?_)
        obtain ⟨z13, ez13, h⟩ := lt_out h
        refine lv_iinc (v := z13) (lv' := [(2, .int z13), (0, .ref (ad 3)), (1, .ref (ad (5 + 14 * i + 0)))]) C.1 C.2.1 dX3_readInto_46 hl (k := 2) rfl (by rw [ez13]; rfl) (by decide) rfl (fun ls hl => ?_)
        refine lv_goto (tgt := 16) C.1 C.2.1 dX3_readInto_49 (by decide) ?_
        exact hK16 hP hS (lv_sub hl [1, 2, 0] rfl)  h
set_option maxRecDepth 100000 in
set_option maxHeartbeats 4000000 in
theorem w_X3_readInto_h16 {res : Int32 × SL × SL} (C : Cx p s m args meth c cX3_readInto 3 (some .int) RX3 wsX3_readInto) (G : Gx D cs ad s) {i : Nat} (hi : i < 6) {Ls : Nat → SL} {Hs : SL} {M : SL} {dr : Int64} {hs : Int64} {o : Int64} {od : UInt64} : ∀ (n : Nat) {L : SL} {T : SL} {x2 : Int32} {H : Heap} {locs : List Loc} {ls : Array Slot}, va_P D vwCl (wA cs ad (va_up Ls i L) Hs T M dr hs o od) H → va_S (Afr ad s.heap.size) s.heap H locs → lv_has ls 3 [(0, .ref (ad 3)), (1, .ref (ad (5 + 14 * i + 0))), (2, .int x2)] → f_X3_readInto_h16 n L T x2 = some res → W p l e rmX3_readInto s m args below meth c H locs 0 0 (MQ below (va_Qi (fun r' (_ : Unit) => r' = res.1) (fun _ t => va_P D vwCl (wA cs ad (va_up Ls i res.2.1) Hs res.2.2 M dr hs o od) t.heap) (Afr ad s.heap.size)) args s 0 0 (Afr ad s.heap.size)) (F0 m 16 ls []) := by
  intro n
  induction n with
  | zero => intro L T x2 H locs ls hP hS hl  h; cases h
  | succ n ih => intro L T x2 H locs ls hP hS hl  h; exact w_X3_readInto_b16 C G  hi  ih hP hS hl  h
set_option maxRecDepth 100000 in
set_option maxHeartbeats 4000000 in
theorem w_X3_readInto_e {res : Int32 × SL × SL} (C : Cx p s m args meth c cX3_readInto 3 (some .int) RX3 wsX3_readInto) (G : Gx D cs ad s) {i : Nat} (hi : i < 6) {Ls : Nat → SL} {Hs : SL} {M : SL} {dr : Int64} {hs : Int64} {o : Int64} {od : UInt64} {L : SL} {T : SL} {H : Heap} {locs : List Loc} {ls : Array Slot} (hP : va_P D vwCl (wA cs ad (va_up Ls i L) Hs T M dr hs o od) H) (hS : va_S (Afr ad s.heap.size) s.heap H locs) (hl : lv_has ls 3 [(0, .ref (ad 3)), (1, .ref (ad (5 + 14 * i + 0)))]) (h : f_X3_readInto L T = some res) : W p l e rmX3_readInto s m args below meth c H locs 0 0 (MQ below (va_Qi (fun r' (_ : Unit) => r' = res.1) (fun _ t => va_P D vwCl (wA cs ad (va_up Ls i res.2.1) Hs res.2.2 M dr hs o od) t.heap) (Afr ad s.heap.size)) args s 0 0 (Afr ad s.heap.size)) (F0 m 0 ls []) := by
  unfold f_X3_readInto at h
  refine lv_aload_n C.1 C.2.1 dX3_readInto_0 rfl (lv_at hl 0 rfl) ?_
  refine lv_iconst (v := 0) C.1 C.2.1 dX3_readInto_1 (by decide) ?_
  obtain ⟨T1, eT1, h⟩ := lt_out h
  refine k_puti C G hP hS g_txt rfl 2 (by decide) n_X3_readInto_X3 q_X3_readInto_0 tyX3_ok nmX3 rfl (tyX3_ok 2 (by decide)) (Nat.le_of_ble_eq_true rfl) g_txtS2 dX3_readInto_2 (fun H locs hP hS => ?_)
  rw [← eT1] at hP
  refine lv_aload_n C.1 C.2.1 dX3_readInto_5 rfl (lv_at hl 0 rfl) ?_
  refine lv_iconst (v := (-1)) C.1 C.2.1 dX3_readInto_6 (by decide) ?_
  obtain ⟨T2, eT2, h⟩ := lt_out h
  refine k_puti C G hP hS g_txt rfl 3 (by decide) n_X3_readInto_X3 q_X3_readInto_1 tyX3_ok nmX3 rfl (tyX3_ok 3 (by decide)) (Nat.le_of_ble_eq_true rfl) g_txtS3 dX3_readInto_7 (fun H locs hP hS => ?_)
  rw [← eT2] at hP
  refine lv_aload_n C.1 C.2.1 dX3_readInto_10 rfl (lv_at hl 1 rfl) ?_
  obtain ⟨L3, c4, h⟩ := bd_out h
  refine k_callVv C G hP hS (m_X2_takeApart l G.2.1 _ hi c4) (v_obj hi) rfl (cwV 0 C.2.2.2.2.2.1 gX3_readInto_X2_takeApart rfl rfl rfl (by decide +kernel) ⟨Nat.le_of_ble_eq_true rfl, Nat.le_of_ble_eq_true rfl⟩) (As := []) rfl hl.1 rfl (Nat.le_of_ble_eq_true rfl) dX3_readInto_11 ⟨Nat.le_of_ble_eq_true rfl, Nat.le_of_ble_eq_true rfl⟩ (fun H locs hP hS => ?_)
  refine lv_iconst (v := 0) C.1 C.2.1 dX3_readInto_14 (by decide) ?_
  refine lv_istore_n (lv' := [(2, .int 0), (0, .ref (ad 3)), (1, .ref (ad (5 + 14 * i + 0)))]) C.1 C.2.1 dX3_readInto_15 rfl hl (by decide) rfl (fun ls hl => ?_)
  exact w_X3_readInto_h16 C G hi fuel hP hS (lv_sub hl [1, 2, 0] rfl) h
set_option maxRecDepth 100000 in
set_option maxHeartbeats 4000000 in
theorem m_X3_readInto (l : Launch) {D : va_G} {cs : Nat → ClassId} {ad : Nat → Nat} (hAd : adOK ad) (sz : Nat) {i : Nat} (hi : i < 6) {Ls : Nat → SL} {Hs : SL} {T : SL} {M : SL} {dr : Int64} {hs : Int64} {o : Int64} {od : UInt64} {L : SL} {res : Int32 × SL × SL} (h : f_X3_readInto L T = some res) : Met l yX3_readInto wsX3_readInto rmX3_readInto (PA D cs sz (wA cs ad (va_up Ls i L) Hs T M dr hs o od) [.ref (ad 3), .ref (ad (5 + 14 * i + 0))]) (va_Qi (fun r' (_ : Unit) => r' = res.1) (fun _ t => va_P D vwCl (wA cs ad (va_up Ls i res.2.1) Hs res.2.2 M dr hs o od) t.heap) (Afr ad sz)) 0 0 (Afr ad sz) :=
  k_met (by decide) rfl (Nat.le_of_ble_eq_true rfl) hAd (fun p e s m below meth c ls C G hP hsz hl hS => by
    subst hsz
    exact w_X3_readInto_e C G hi hP hS hl  h)
end GEN
