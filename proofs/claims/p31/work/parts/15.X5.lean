section GEN
variable {p : Program} {l : Launch} {e : Env} {s : State} {m : MethodId} {args : Array Value} {below : List Frame} {meth : Method} {c : Code} {D : va_G} {cs : Nat → ClassId} {ad : Nat → Nat}
/-! X5 isIn -/
abbrev rmX5_isIn : Room := { frames := 0, cells := 0, slots := 0, locals := 0 }
set_option maxRecDepth 100000 in
set_option maxHeartbeats 4000000 in
theorem w_X5_isIn_b14 {res : Int32} (C : Cx p s m args meth c cX5_isIn 3 (some .boolean) RX5 wsX5_isIn) (G : Gx D cs ad s) {Ls : Nat → SL} {Hs : SL} {T : SL} {H : Heap} {locs : List Loc} {ls : Array Slot} (hP : va_P D vwCl (wA cs ad Ls Hs T) H) (hS : va_S (Afr ad s.heap.size) s.heap H locs) (hl : lv_has ls 3 []) (h : f_X5_isIn_b14 = some res) : W p l e rmX5_isIn s m args below meth c H locs 0 0 (MQ below (va_Qi (fun r' (_ : Unit) => r' = res) (fun _ t => va_P D vwCl (wA cs ad Ls Hs T) t.heap) (Afr ad s.heap.size)) args s 0 0 (Afr ad s.heap.size)) (F0 m 14 ls []) := by
  unfold f_X5_isIn_b14 at h
  refine lv_iconst (v := 0) C.1 C.2.1 dX5_isIn_14 (by decide) ?_
  cases h
  exact k_zret C hP hS nar_0 dX5_isIn_15
set_option maxRecDepth 100000 in
set_option maxHeartbeats 4000000 in
theorem w_X5_isIn_e {res : Int32} (C : Cx p s m args meth c cX5_isIn 3 (some .boolean) RX5 wsX5_isIn) (G : Gx D cs ad s) {Ls : Nat → SL} {Hs : SL} {T : SL} {x0 : Int32} {x1 : Int32} {x2 : Int32} {H : Heap} {locs : List Loc} {ls : Array Slot} (hP : va_P D vwCl (wA cs ad Ls Hs T) H) (hS : va_S (Afr ad s.heap.size) s.heap H locs) (hl : lv_has ls 3 [(0, .int x0), (1, .int x1), (2, .int x2)]) (h : f_X5_isIn x0 x1 x2 = some res) : W p l e rmX5_isIn s m args below meth c H locs 0 0 (MQ below (va_Qi (fun r' (_ : Unit) => r' = res) (fun _ t => va_P D vwCl (wA cs ad Ls Hs T) t.heap) (Afr ad s.heap.size)) args s 0 0 (Afr ad s.heap.size)) (F0 m 0 ls []) := by
  unfold f_X5_isIn at h
  refine lv_iload_n C.1 C.2.1 dX5_isIn_0 rfl (lv_at hl 0 rfl) ?_
  refine lv_iload_n C.1 C.2.1 dX5_isIn_1 rfl (lv_at hl 1 rfl) ?_
  refine lv_icmp_lt (tgt := 14) C.1 C.2.1 dX5_isIn_2 (by decide) (fun c1 => ?_) (fun c1 => ?_)
  · have h := if_t c1 h
    exact w_X5_isIn_b14 C G hP hS (lv_sub hl [] rfl) h
  · have h := if_f c1 h
    refine lv_iload_n C.1 C.2.1 dX5_isIn_5 rfl (lv_at hl 0 rfl) ?_
    refine lv_iload_n C.1 C.2.1 dX5_isIn_6 rfl (lv_at hl 2 rfl) ?_
    refine lv_icmp_gt (tgt := 14) C.1 C.2.1 dX5_isIn_7 (by decide) (fun c2 => ?_) (fun c2 => ?_)
    · have h := if_t c2 h
      exact w_X5_isIn_b14 C G hP hS (lv_sub hl [] rfl) h
    · have h := if_f c2 h
      refine lv_iconst (v := 1) C.1 C.2.1 dX5_isIn_10 (by decide) ?_
      refine lv_goto (tgt := 15) C.1 C.2.1 dX5_isIn_11 (by decide) ?_
      cases h
      exact k_zret C hP hS nar_1 dX5_isIn_15
set_option maxRecDepth 100000 in
set_option maxHeartbeats 4000000 in
theorem m_X5_isIn (l : Launch) {D : va_G} {cs : Nat → ClassId} {ad : Nat → Nat} (hAd : adOK ad) (sz : Nat) {Ls : Nat → SL} {Hs : SL} {T : SL} {x0 : Int32} {x1 : Int32} {x2 : Int32} {res : Int32} (h : f_X5_isIn x0 x1 x2 = some res) : Met l yX5_isIn wsX5_isIn rmX5_isIn (PA D cs sz (wA cs ad Ls Hs T) [.int x0, .int x1, .int x2]) (va_Qi (fun r' (_ : Unit) => r' = res) (fun _ t => va_P D vwCl (wA cs ad Ls Hs T) t.heap) (Afr ad sz)) 0 0 (Afr ad sz) :=
  k_met (by decide) rfl (Nat.le_of_ble_eq_true rfl) hAd (fun p e s m below meth c ls C G hP hsz hl hS => by
    subst hsz
    exact w_X5_isIn_e C G  hP hS hl  h)
/-! X5 areCycles -/
abbrev rmX5_areCycles : Room := { frames := 1, cells := 0, slots := 0, locals := 22 }
set_option maxRecDepth 100000 in
set_option maxHeartbeats 4000000 in
theorem w_X5_areCycles_b23 {res : Int32} (C : Cx p s m args meth c cX5_areCycles 2 (some .boolean) RX5 wsX5_areCycles) (G : Gx D cs ad s) {Ls : Nat → SL} {Hs : SL} {T : SL} {H : Heap} {locs : List Loc} {ls : Array Slot} (hP : va_P D vwCl (wA cs ad Ls Hs T) H) (hS : va_S (Afr ad s.heap.size) s.heap H locs) (hl : lv_has ls 2 []) (h : f_X5_areCycles_b23 = some res) : W p l e rmX5_areCycles s m args below meth c H locs 0 0 (MQ below (va_Qi (fun r' (_ : Unit) => r' = res) (fun _ t => va_P D vwCl (wA cs ad Ls Hs T) t.heap) (Afr ad s.heap.size)) args s 0 0 (Afr ad s.heap.size)) (F0 m 23 ls []) := by
  unfold f_X5_areCycles_b23 at h
  refine lv_iconst (v := 0) C.1 C.2.1 dX5_areCycles_23 (by decide) ?_
  cases h
  exact k_zret C hP hS nar_0 dX5_areCycles_24
set_option maxRecDepth 100000 in
set_option maxHeartbeats 4000000 in
theorem w_X5_areCycles_e {res : Int32} (C : Cx p s m args meth c cX5_areCycles 2 (some .boolean) RX5 wsX5_areCycles) (G : Gx D cs ad s) {Ls : Nat → SL} {Hs : SL} {T : SL} {x0 : Int32} {x1 : Int32} {H : Heap} {locs : List Loc} {ls : Array Slot} (hP : va_P D vwCl (wA cs ad Ls Hs T) H) (hS : va_S (Afr ad s.heap.size) s.heap H locs) (hl : lv_has ls 2 [(0, .int x0), (1, .int x1)]) (h : f_X5_areCycles x0 x1 = some res) : W p l e rmX5_areCycles s m args below meth c H locs 0 0 (MQ below (va_Qi (fun r' (_ : Unit) => r' = res) (fun _ t => va_P D vwCl (wA cs ad Ls Hs T) t.heap) (Afr ad s.heap.size)) args s 0 0 (Afr ad s.heap.size)) (F0 m 0 ls []) := by
  unfold f_X5_areCycles at h
  refine lv_iload_n C.1 C.2.1 dX5_areCycles_0 rfl (lv_at hl 0 rfl) ?_
  refine lv_iconst (v := 1) C.1 C.2.1 dX5_areCycles_1 (by decide) ?_
  refine lv_bipush (v := 20) C.1 C.2.1 dX5_areCycles_2 (by decide) ?_
  obtain ⟨r1, c2, h⟩ := bd_out h
  refine k_callSi C G hP hS (m_X5_isIn l G.2.1 _  c2) (va_cwS 3 C.2.2.2.2.2.1 gX5_areCycles_X5_isIn rfl rfl rfl (by decide +kernel) ⟨Nat.le_of_ble_eq_true rfl, Nat.le_of_ble_eq_true rfl⟩) (As := [.int x0, .int 1, .int 20]) rfl hl.1 rfl (Nat.le_of_ble_eq_true rfl) dX5_areCycles_4 ⟨Nat.le_of_ble_eq_true rfl, Nat.le_of_ble_eq_true rfl⟩ (fun H locs hP hS => ?_)
  refine lv_if_eq (tgt := 23) C.1 C.2.1 dX5_areCycles_7 (by decide) (fun c3 => ?_) (fun c3 => ?_)
  · have h := if_t c3 h
    exact w_X5_areCycles_b23 C G hP hS (lv_sub hl [] rfl) h
  · have h := if_f c3 h
    refine lv_iload_n C.1 C.2.1 dX5_areCycles_10 rfl (lv_at hl 1 rfl) ?_
    refine lv_iconst (v := 1) C.1 C.2.1 dX5_areCycles_11 (by decide) ?_
    refine lv_iload_n C.1 C.2.1 dX5_areCycles_12 rfl (lv_at hl 0 rfl) ?_
    obtain ⟨r4, c5, h⟩ := bd_out h
    refine k_callSi C G hP hS (m_X5_isIn l G.2.1 _  c5) (va_cwS 3 C.2.2.2.2.2.1 gX5_areCycles_X5_isIn rfl rfl rfl (by decide +kernel) ⟨Nat.le_of_ble_eq_true rfl, Nat.le_of_ble_eq_true rfl⟩) (As := [.int x1, .int 1, .int x0]) rfl hl.1 rfl (Nat.le_of_ble_eq_true rfl) dX5_areCycles_13 ⟨Nat.le_of_ble_eq_true rfl, Nat.le_of_ble_eq_true rfl⟩ (fun H locs hP hS => ?_)
    refine lv_if_eq (tgt := 23) C.1 C.2.1 dX5_areCycles_16 (by decide) (fun c6 => ?_) (fun c6 => ?_)
    · have h := if_t c6 h
      exact w_X5_areCycles_b23 C G hP hS (lv_sub hl [] rfl) h
    · have h := if_f c6 h
      refine lv_iconst (v := 1) C.1 C.2.1 dX5_areCycles_19 (by decide) ?_
      refine lv_goto (tgt := 24) C.1 C.2.1 dX5_areCycles_20 (by decide) ?_
      cases h
      exact k_zret C hP hS nar_1 dX5_areCycles_24
set_option maxRecDepth 100000 in
set_option maxHeartbeats 4000000 in
theorem m_X5_areCycles (l : Launch) {D : va_G} {cs : Nat → ClassId} {ad : Nat → Nat} (hAd : adOK ad) (sz : Nat) {Ls : Nat → SL} {Hs : SL} {T : SL} {x0 : Int32} {x1 : Int32} {res : Int32} (h : f_X5_areCycles x0 x1 = some res) : Met l yX5_areCycles wsX5_areCycles rmX5_areCycles (PA D cs sz (wA cs ad Ls Hs T) [.int x0, .int x1]) (va_Qi (fun r' (_ : Unit) => r' = res) (fun _ t => va_P D vwCl (wA cs ad Ls Hs T) t.heap) (Afr ad sz)) 0 0 (Afr ad sz) :=
  k_met (by decide) rfl (Nat.le_of_ble_eq_true rfl) hAd (fun p e s m below meth c ls C G hP hsz hl hS => by
    subst hsz
    exact w_X5_areCycles_e C G  hP hS hl  h)
/-! X5 addMachine -/
abbrev rmX5_addMachine : Room := { frames := 6, cells := 1, slots := 6, locals := 113 }
theorem q_X5_addMachine_0 : Cond.fieldLink RX5 10 "LineBuffers" "line" "LLineBuffers$Line;" ∈ wsX5_addMachine := List.mem_of_getElem? (i := 5) rfl
theorem q_X5_addMachine_1 : Cond.fieldLink RX5 22 "LineBuffers" "history" "LLineBuffers$History;" ∈ wsX5_addMachine := List.mem_of_getElem? (i := 6) rfl
theorem q_X5_addMachine_2 : Cond.classLink RX5 41 "java/lang/IllegalArgumentException" ∈ wsX5_addMachine := List.mem_of_getElem? (i := 1) rfl
theorem q_X5_addMachine_3 : Cond.initialized "java/lang/IllegalArgumentException" ∈ wsX5_addMachine := List.mem_of_getElem? (i := 2) rfl
theorem q_X5_addMachine_4 : Cond.classLink RX5 55 "java/lang/IllegalStateException" ∈ wsX5_addMachine := List.mem_of_getElem? (i := 3) rfl
theorem q_X5_addMachine_5 : Cond.initialized "java/lang/IllegalStateException" ∈ wsX5_addMachine := List.mem_of_getElem? (i := 4) rfl
theorem n_X5_addMachine_X5 : ∀ x ∈ u_ws RX5 TX5 4, x ∈ wsX5_addMachine := fun x h => List.mem_cons_of_mem _ (List.mem_append_left _ (List.mem_append_left _ (List.mem_append_left _ (List.mem_append_left _ (List.mem_append_left _ (List.mem_append_right _ h))))))
theorem n_X5_addMachine_X2 : ∀ x ∈ u_ws RX2 TX2 4, x ∈ wsX5_addMachine := fun x h => List.mem_cons_of_mem _ (List.mem_append_left _ (List.mem_append_left _ (List.mem_append_left _ (List.mem_append_left _ (List.mem_append_right _ h)))))
set_option maxRecDepth 100000 in
set_option maxHeartbeats 4000000 in
theorem w_X5_addMachine_b18 {res : Sum (Int32 × (Nat → SL) × SL) Nat} (C : Cx p s m args meth c cX5_addMachine 4 (some .int) RX5 wsX5_addMachine) (G : Gx D cs ad s) (X : Tx l c ad s) {T : SL} {Ls : Nat → SL} {Hs : SL} {H : Heap} {locs : List Loc} {ls : Array Slot} (hP : va_P D vwCl (wA cs ad Ls Hs T) H) (hS : va_S (Afr ad s.heap.size) s.heap H locs) (hl : lv_has ls 4 []) (h : f_X5_addMachine_b18 Ls Hs = some res) : W p l e rmX5_addMachine s m args below meth c H locs 0 0 (vx_MQ below (va_Qi (fun r' (u : Int32 × (Nat → SL) × SL) => res = Sum.inl u ∧ r' = u.1) (fun (u : Int32 × (Nat → SL) × SL) t => va_P D vwCl (wA cs ad u.2.1 u.2.2 T) t.heap) (Afr ad s.heap.size)) (vx_X (fun k : Nat => res = Sum.inr k) (fun E k t => E = exN k ∧ va_P D vwCl (wA cs ad Ls Hs T) t.heap) (Afr ad s.heap.size)) args s 1 6 (Afr ad s.heap.size)) (F0 m 18 ls []) := by
  unfold f_X5_addMachine_b18 at h
  cases h
  exact k_throw (k := 1) (text := "a cycle or the capacity is out of range") C X hP hS rfl (by decide) q_X5_addMachine_2 q_X5_addMachine_3 (List.mem_of_getElem? (i := 0) rfl) (fun w h => List.mem_cons_of_mem _ (List.mem_append_left _ (List.mem_append_right _ h))) tw_45 tg_45 hl.1 dX5_addMachine_18 dX5_addMachine_21 dX5_addMachine_22 dX5_addMachine_24 dX5_addMachine_27 (Nat.le_of_ble_eq_true rfl) (Nat.le_of_ble_eq_true rfl) (Nat.le_of_ble_eq_true rfl) (Nat.le_of_ble_eq_true rfl) (by omega) (by omega)
set_option maxRecDepth 100000 in
set_option maxHeartbeats 4000000 in
theorem w_X5_addMachine_b50 {res : Sum (Int32 × (Nat → SL) × SL) Nat} (C : Cx p s m args meth c cX5_addMachine 4 (some .int) RX5 wsX5_addMachine) (G : Gx D cs ad s) (X : Tx l c ad s) {T : SL} {Ls : Nat → SL} {Hs : SL} {H : Heap} {locs : List Loc} {ls : Array Slot} (hP : va_P D vwCl (wA cs ad Ls Hs T) H) (hS : va_S (Afr ad s.heap.size) s.heap H locs) (hl : lv_has ls 4 []) (h : f_X5_addMachine_b50 Ls Hs = some res) : W p l e rmX5_addMachine s m args below meth c H locs 0 0 (vx_MQ below (va_Qi (fun r' (u : Int32 × (Nat → SL) × SL) => res = Sum.inl u ∧ r' = u.1) (fun (u : Int32 × (Nat → SL) × SL) t => va_P D vwCl (wA cs ad u.2.1 u.2.2 T) t.heap) (Afr ad s.heap.size)) (vx_X (fun k : Nat => res = Sum.inr k) (fun E k t => E = exN k ∧ va_P D vwCl (wA cs ad Ls Hs T) t.heap) (Afr ad s.heap.size)) args s 1 6 (Afr ad s.heap.size)) (F0 m 50 ls []) := by
  unfold f_X5_addMachine_b50 at h
  cases h
  exact k_throw (k := 2) (text := "no machine can be added now") C X hP hS rfl (by decide) q_X5_addMachine_4 q_X5_addMachine_5 (List.mem_of_getElem? (i := 1) rfl) (fun w h => List.mem_cons_of_mem _ (List.mem_append_right _ h)) tw_59 tg_59 hl.1 dX5_addMachine_50 dX5_addMachine_53 dX5_addMachine_54 dX5_addMachine_56 dX5_addMachine_59 (Nat.le_of_ble_eq_true rfl) (Nat.le_of_ble_eq_true rfl) (Nat.le_of_ble_eq_true rfl) (Nat.le_of_ble_eq_true rfl) (by omega) (by omega)
set_option maxRecDepth 100000 in
set_option maxHeartbeats 4000000 in
theorem w_X5_addMachine_e {res : Sum (Int32 × (Nat → SL) × SL) Nat} (C : Cx p s m args meth c cX5_addMachine 4 (some .int) RX5 wsX5_addMachine) (G : Gx D cs ad s) (X : Tx l c ad s) {T : SL} {Ls : Nat → SL} {Hs : SL} {x1 : Int32} {x2 : Int32} {x3 : Int32} {H : Heap} {locs : List Loc} {ls : Array Slot} (hP : va_P D vwCl (wA cs ad Ls Hs T) H) (hS : va_S (Afr ad s.heap.size) s.heap H locs) (hl : lv_has ls 4 [(0, .ref (ad 0)), (1, .int x1), (2, .int x2), (3, .int x3)]) (h : f_X5_addMachine Ls Hs x1 x2 x3 = some res) : W p l e rmX5_addMachine s m args below meth c H locs 0 0 (vx_MQ below (va_Qi (fun r' (u : Int32 × (Nat → SL) × SL) => res = Sum.inl u ∧ r' = u.1) (fun (u : Int32 × (Nat → SL) × SL) t => va_P D vwCl (wA cs ad u.2.1 u.2.2 T) t.heap) (Afr ad s.heap.size)) (vx_X (fun k : Nat => res = Sum.inr k) (fun E k t => E = exN k ∧ va_P D vwCl (wA cs ad Ls Hs T) t.heap) (Afr ad s.heap.size)) args s 1 6 (Afr ad s.heap.size)) (F0 m 0 ls []) := by
  unfold f_X5_addMachine at h
  refine lv_iload_n C.1 C.2.1 dX5_addMachine_0 rfl (lv_at hl 1 rfl) ?_
  refine lv_iload_n C.1 C.2.1 dX5_addMachine_1 rfl (lv_at hl 2 rfl) ?_
  obtain ⟨r1, c2, h⟩ := bd_out h
  refine k_callSi C G hP hS (m_X5_areCycles l G.2.1 _  c2) (va_cwS 2 C.2.2.2.2.2.1 gX5_addMachine_X5_areCycles rfl rfl rfl (by decide +kernel) ⟨Nat.le_of_ble_eq_true rfl, Nat.le_of_ble_eq_true rfl⟩) (As := [.int x1, .int x2]) rfl hl.1 rfl (Nat.le_of_ble_eq_true rfl) dX5_addMachine_2 ⟨Nat.le_of_ble_eq_true rfl, Nat.le_of_ble_eq_true rfl⟩ (fun H locs hP hS => ?_)
  refine lv_if_eq (tgt := 18) C.1 C.2.1 dX5_addMachine_5 (by decide) (fun c3 => ?_) (fun c3 => ?_)
  · have h := if_t c3 h
    refine W.widen (k := 0) (n := 0) (by omega) (by omega) ?_
    exact w_X5_addMachine_b18 C G X hP hS (lv_sub hl [] rfl) h
  · have h := if_f c3 h
    refine lv_iload_n C.1 C.2.1 dX5_addMachine_8 rfl (lv_at hl 3 rfl) ?_
    refine lv_iconst (v := 0) C.1 C.2.1 dX5_addMachine_9 (by decide) ?_
    refine lv_bipush (v := 40) C.1 C.2.1 dX5_addMachine_10 (by decide) ?_
    obtain ⟨r4, c5, h⟩ := bd_out h
    refine k_callSi C G hP hS (m_X5_isIn l G.2.1 _  c5) (va_cwS 3 C.2.2.2.2.2.1 gX5_addMachine_X5_isIn rfl rfl rfl (by decide +kernel) ⟨Nat.le_of_ble_eq_true rfl, Nat.le_of_ble_eq_true rfl⟩) (As := [.int x3, .int 0, .int 40]) rfl hl.1 rfl (Nat.le_of_ble_eq_true rfl) dX5_addMachine_12 ⟨Nat.le_of_ble_eq_true rfl, Nat.le_of_ble_eq_true rfl⟩ (fun H locs hP hS => ?_)
    refine lv_if_ne (tgt := 28) C.1 C.2.1 dX5_addMachine_15 (by decide) (fun c6 => ?_) (fun c6 => ?_)
    · have h := if_t c6 h
      refine lv_aload_n C.1 C.2.1 dX5_addMachine_28 rfl (lv_at hl 0 rfl) ?_
      refine k_getf C G hP g_obj rfl 0 (by decide) n_X5_addMachine_X5 q_X5_addMachine_0 (v := .ref (ad (5 + 14 * 0 + 0))) rfl dX5_addMachine_29 ?_
      obtain ⟨v7, ev7, h⟩ := lt_out h
      refine k_getiN C G hP (c_obj (i := 0) (by decide)) rfl 2 (by decide) n_X5_addMachine_X2 (List.mem_of_getElem? (i := 3) rfl) rfl ev7 dX5_addMachine_32 ?_
      refine lv_bipush (v := 8) C.1 C.2.1 dX5_addMachine_35 (by decide) ?_
      refine lv_icmp_ge (tgt := 50) C.1 C.2.1 dX5_addMachine_37 (by decide) (fun c8 => ?_) (fun c8 => ?_)
      · have h := if_t c8 h
        refine W.widen (k := 0) (n := 0) (by omega) (by omega) ?_
        exact w_X5_addMachine_b50 C G X hP hS (lv_sub hl [] rfl) h
      · have h := if_f c8 h
        refine lv_aload_n C.1 C.2.1 dX5_addMachine_40 rfl (lv_at hl 0 rfl) ?_
        refine k_getf C G hP g_obj rfl 0 (by decide) n_X5_addMachine_X5 q_X5_addMachine_0 (v := .ref (ad (5 + 14 * 0 + 0))) rfl dX5_addMachine_41 ?_
        obtain ⟨v9, ev9, h⟩ := lt_out h
        refine k_getiN C G hP (c_obj (i := 0) (by decide)) rfl 3 (by decide) n_X5_addMachine_X2 (List.mem_of_getElem? (i := 4) rfl) rfl ev9 dX5_addMachine_44 ?_
        refine lv_if_eq (tgt := 60) C.1 C.2.1 dX5_addMachine_47 (by decide) (fun c10 => ?_) (fun c10 => ?_)
        · have h := if_t c10 h
          refine lv_aload_n C.1 C.2.1 dX5_addMachine_60 rfl (lv_at hl 0 rfl) ?_
          refine k_getf C G hP g_obj rfl 2 (by decide) n_X5_addMachine_X5 q_X5_addMachine_1 (v := .ref (ad 1)) rfl dX5_addMachine_61 ?_
          refine lv_aload_n C.1 C.2.1 dX5_addMachine_64 rfl (lv_at hl 0 rfl) ?_
          refine k_getf C G hP g_obj rfl 0 (by decide) n_X5_addMachine_X5 q_X5_addMachine_0 (v := .ref (ad (5 + 14 * 0 + 0))) rfl dX5_addMachine_65 ?_
          obtain ⟨Ls11, Hs12, c13, h⟩ := bd2_out h
          refine k_callVv C G hP hS (m_X1_keep l G.2.1 _ (i := 0) (by decide) c13) g_his rfl (cwV 1 C.2.2.2.2.2.1 gX5_addMachine_X1_keep rfl rfl rfl (by decide +kernel) ⟨Nat.le_of_ble_eq_true rfl, Nat.le_of_ble_eq_true rfl⟩) (As := [.ref (ad (5 + 14 * 0 + 0))]) rfl hl.1 rfl (Nat.le_of_ble_eq_true rfl) dX5_addMachine_68 ⟨Nat.le_of_ble_eq_true rfl, Nat.le_of_ble_eq_true rfl⟩ (fun H locs hP hS => ?_)
          refine lv_aload_n C.1 C.2.1 dX5_addMachine_71 rfl (lv_at hl 0 rfl) ?_
          refine k_getf C G hP g_obj rfl 0 (by decide) n_X5_addMachine_X5 q_X5_addMachine_0 (v := .ref (ad (5 + 14 * 0 + 0))) rfl dX5_addMachine_72 ?_
          refine lv_iload_n C.1 C.2.1 dX5_addMachine_75 rfl (lv_at hl 1 rfl) ?_
          refine lv_iload_n C.1 C.2.1 dX5_addMachine_76 rfl (lv_at hl 2 rfl) ?_
          refine lv_iload_n C.1 C.2.1 dX5_addMachine_77 rfl (lv_at hl 3 rfl) ?_
          obtain ⟨r14, L15, c16, h⟩ := bd2_out h
          have hP := up_in (i := 0) hP
          refine k_callVi C G hP hS (m_X2_join l G.2.1 _ (i := 0) (by decide) c16) (v_obj (i := 0) (by decide)) rfl (cwV 3 C.2.2.2.2.2.1 gX5_addMachine_X2_join rfl rfl rfl (by decide +kernel) ⟨Nat.le_of_ble_eq_true rfl, Nat.le_of_ble_eq_true rfl⟩) (As := [.int x1, .int x2, .int x3]) rfl hl.1 rfl (Nat.le_of_ble_eq_true rfl) dX5_addMachine_78 ⟨Nat.le_of_ble_eq_true rfl, Nat.le_of_ble_eq_true rfl⟩ (fun H locs hP hS => ?_)
          obtain ⟨Ls17, eLs17, h⟩ := lt_out h
          rw [← eLs17] at hP
          cases h
          refine W.widen (k := 1) (n := 6) (by omega) (by omega) ?_
          exact k_iretX C hP hS rfl rfl rfl dX5_addMachine_81
        · have h := if_f c10 h
          refine W.widen (k := 0) (n := 0) (by omega) (by omega) ?_
          exact w_X5_addMachine_b50 C G X hP hS (lv_sub hl [] rfl) h
    · have h := if_n c6 h
      refine W.widen (k := 0) (n := 0) (by omega) (by omega) ?_
      exact w_X5_addMachine_b18 C G X hP hS (lv_sub hl [] rfl) h
set_option maxRecDepth 100000 in
set_option maxHeartbeats 4000000 in
theorem m_X5_addMachine (l : Launch) (hfl : l.stackTraces = false) {D : va_G} {cs : Nat → ClassId} {ad : Nat → Nat} (hAd : adOK ad) (sz : Nat) {Ls : Nat → SL} {Hs : SL} {T : SL} {x1 : Int32} {x2 : Int32} {x3 : Int32} {res : Sum (Int32 × (Nat → SL) × SL) Nat} (h : f_X5_addMachine Ls Hs x1 x2 x3 = some res) : vx_Met l yX5_addMachine wsX5_addMachine rmX5_addMachine (PX D cs ad sz (wA cs ad Ls Hs T) [.ref (ad 0), .int x1, .int x2, .int x3]) (va_Qi (fun r' (u : Int32 × (Nat → SL) × SL) => res = Sum.inl u ∧ r' = u.1) (fun (u : Int32 × (Nat → SL) × SL) t => va_P D vwCl (wA cs ad u.2.1 u.2.2 T) t.heap) (Afr ad sz)) (vx_X (fun k : Nat => res = Sum.inr k) (fun E k t => E = exN k ∧ va_P D vwCl (wA cs ad Ls Hs T) t.heap) (Afr ad sz)) 1 6 (Afr ad sz) :=
  k_metX hfl (by decide) rfl (Nat.le_of_ble_eq_true rfl) hAd (fun p e s m below meth c ls C G X hP hsz hl hS => by
    subst hsz
    exact w_X5_addMachine_e C G X  hP hS hl  h)
/-! X5 needMachine -/
abbrev rmX5_needMachine : Room := { frames := 6, cells := 1, slots := 6, locals := 96 }
theorem q_X5_needMachine_0 : Cond.fieldLink RX5 10 "LineBuffers" "line" "LLineBuffers$Line;" ∈ wsX5_needMachine := List.mem_of_getElem? (i := 3) rfl
theorem q_X5_needMachine_1 : Cond.classLink RX5 116 "java/lang/IndexOutOfBoundsException" ∈ wsX5_needMachine := List.mem_of_getElem? (i := 1) rfl
theorem q_X5_needMachine_2 : Cond.initialized "java/lang/IndexOutOfBoundsException" ∈ wsX5_needMachine := List.mem_of_getElem? (i := 2) rfl
theorem n_X5_needMachine_X5 : ∀ x ∈ u_ws RX5 TX5 4, x ∈ wsX5_needMachine := fun x h => List.mem_cons_of_mem _ (List.mem_append_left _ (List.mem_append_left _ (List.mem_append_right _ h)))
theorem n_X5_needMachine_X2 : ∀ x ∈ u_ws RX2 TX2 4, x ∈ wsX5_needMachine := fun x h => List.mem_cons_of_mem _ (List.mem_append_left _ (List.mem_append_right _ h))
set_option maxRecDepth 100000 in
set_option maxHeartbeats 4000000 in
theorem w_X5_needMachine_b15 {res : Sum (Unit) Nat} (C : Cx p s m args meth c cX5_needMachine 2 none RX5 wsX5_needMachine) (G : Gx D cs ad s) (X : Tx l c ad s) {Hs : SL} {T : SL} {Ls : Nat → SL} {H : Heap} {locs : List Loc} {ls : Array Slot} (hP : va_P D vwCl (wA cs ad Ls Hs T) H) (hS : va_S (Afr ad s.heap.size) s.heap H locs) (hl : lv_has ls 2 []) (h : f_X5_needMachine_b15 Ls = some res) : W p l e rmX5_needMachine s m args below meth c H locs 0 0 (vx_MQ below (va_Qv (fun (u : Unit) => res = Sum.inl u) (fun (u : Unit) t => va_P D vwCl (wA cs ad Ls Hs T) t.heap) (Afr ad s.heap.size)) (vx_X (fun k : Nat => res = Sum.inr k) (fun E k t => E = exN k ∧ va_P D vwCl (wA cs ad Ls Hs T) t.heap) (Afr ad s.heap.size)) args s 1 6 (Afr ad s.heap.size)) (F0 m 15 ls []) := by
  unfold f_X5_needMachine_b15 at h
  cases h
  exact k_throw (k := 3) (text := "there is no such machine") C X hP hS rfl (by decide) q_X5_needMachine_1 q_X5_needMachine_2 (List.mem_of_getElem? (i := 16) rfl) (fun w h => List.mem_cons_of_mem _ (List.mem_append_right _ h)) tw_120 tg_120 hl.1 dX5_needMachine_15 dX5_needMachine_18 dX5_needMachine_19 dX5_needMachine_21 dX5_needMachine_24 (Nat.le_of_ble_eq_true rfl) (Nat.le_of_ble_eq_true rfl) (Nat.le_of_ble_eq_true rfl) (Nat.le_of_ble_eq_true rfl) (by omega) (by omega)
set_option maxRecDepth 100000 in
set_option maxHeartbeats 4000000 in
theorem w_X5_needMachine_e {res : Sum (Unit) Nat} (C : Cx p s m args meth c cX5_needMachine 2 none RX5 wsX5_needMachine) (G : Gx D cs ad s) (X : Tx l c ad s) {Hs : SL} {T : SL} {Ls : Nat → SL} {x1 : Int32} {H : Heap} {locs : List Loc} {ls : Array Slot} (hP : va_P D vwCl (wA cs ad Ls Hs T) H) (hS : va_S (Afr ad s.heap.size) s.heap H locs) (hl : lv_has ls 2 [(0, .ref (ad 0)), (1, .int x1)]) (h : f_X5_needMachine Ls x1 = some res) : W p l e rmX5_needMachine s m args below meth c H locs 0 0 (vx_MQ below (va_Qv (fun (u : Unit) => res = Sum.inl u) (fun (u : Unit) t => va_P D vwCl (wA cs ad Ls Hs T) t.heap) (Afr ad s.heap.size)) (vx_X (fun k : Nat => res = Sum.inr k) (fun E k t => E = exN k ∧ va_P D vwCl (wA cs ad Ls Hs T) t.heap) (Afr ad s.heap.size)) args s 1 6 (Afr ad s.heap.size)) (F0 m 0 ls []) := by
  unfold f_X5_needMachine at h
  refine lv_iload_n C.1 C.2.1 dX5_needMachine_0 rfl (lv_at hl 1 rfl) ?_
  refine lv_if_lt (tgt := 15) C.1 C.2.1 dX5_needMachine_1 (by decide) (fun c1 => ?_) (fun c1 => ?_)
  · have h := if_t c1 h
    refine W.widen (k := 0) (n := 0) (by omega) (by omega) ?_
    exact w_X5_needMachine_b15 C G X hP hS (lv_sub hl [] rfl) h
  · have h := if_f c1 h
    refine lv_iload_n C.1 C.2.1 dX5_needMachine_4 rfl (lv_at hl 1 rfl) ?_
    refine lv_aload_n C.1 C.2.1 dX5_needMachine_5 rfl (lv_at hl 0 rfl) ?_
    refine k_getf C G hP g_obj rfl 0 (by decide) n_X5_needMachine_X5 q_X5_needMachine_0 (v := .ref (ad (5 + 14 * 0 + 0))) rfl dX5_needMachine_6 ?_
    obtain ⟨v2, ev2, h⟩ := lt_out h
    refine k_getiN C G hP (c_obj (i := 0) (by decide)) rfl 2 (by decide) n_X5_needMachine_X2 (List.mem_of_getElem? (i := 3) rfl) rfl ev2 dX5_needMachine_9 ?_
    refine lv_icmp_lt (tgt := 25) C.1 C.2.1 dX5_needMachine_12 (by decide) (fun c3 => ?_) (fun c3 => ?_)
    · have h := if_t c3 h
      cases h
      refine W.widen (k := 1) (n := 6) (by omega) (by omega) ?_
      exact k_vretX C hP hS rfl rfl dX5_needMachine_25
    · have h := if_f c3 h
      refine W.widen (k := 0) (n := 0) (by omega) (by omega) ?_
      exact w_X5_needMachine_b15 C G X hP hS (lv_sub hl [] rfl) h
set_option maxRecDepth 100000 in
set_option maxHeartbeats 4000000 in
theorem m_X5_needMachine (l : Launch) (hfl : l.stackTraces = false) {D : va_G} {cs : Nat → ClassId} {ad : Nat → Nat} (hAd : adOK ad) (sz : Nat) {Ls : Nat → SL} {Hs : SL} {T : SL} {x1 : Int32} {res : Sum (Unit) Nat} (h : f_X5_needMachine Ls x1 = some res) : vx_Met l yX5_needMachine wsX5_needMachine rmX5_needMachine (PX D cs ad sz (wA cs ad Ls Hs T) [.ref (ad 0), .int x1]) (va_Qv (fun (u : Unit) => res = Sum.inl u) (fun (u : Unit) t => va_P D vwCl (wA cs ad Ls Hs T) t.heap) (Afr ad sz)) (vx_X (fun k : Nat => res = Sum.inr k) (fun E k t => E = exN k ∧ va_P D vwCl (wA cs ad Ls Hs T) t.heap) (Afr ad sz)) 1 6 (Afr ad sz) :=
  k_metX hfl (by decide) rfl (Nat.le_of_ble_eq_true rfl) hAd (fun p e s m below meth c ls C G X hP hsz hl hS => by
    subst hsz
    exact w_X5_needMachine_e C G X  hP hS hl  h)
/-! X5 setMachine -/
abbrev rmX5_setMachine : Room := { frames := 7, cells := 2, slots := 12, locals := 117 }
theorem q_X5_setMachine_0 : Cond.fieldLink RX5 22 "LineBuffers" "history" "LLineBuffers$History;" ∈ wsX5_setMachine := List.mem_of_getElem? (i := 3) rfl
theorem q_X5_setMachine_1 : Cond.fieldLink RX5 10 "LineBuffers" "line" "LLineBuffers$Line;" ∈ wsX5_setMachine := List.mem_of_getElem? (i := 4) rfl
theorem q_X5_setMachine_2 : Cond.classLink RX5 41 "java/lang/IllegalArgumentException" ∈ wsX5_setMachine := List.mem_of_getElem? (i := 1) rfl
theorem q_X5_setMachine_3 : Cond.initialized "java/lang/IllegalArgumentException" ∈ wsX5_setMachine := List.mem_of_getElem? (i := 2) rfl
theorem n_X5_setMachine_X5 : ∀ x ∈ u_ws RX5 TX5 4, x ∈ wsX5_setMachine := fun x h => List.mem_cons_of_mem _ (List.mem_append_left _ (List.mem_append_left _ (List.mem_append_left _ (List.mem_append_left _ (List.mem_append_left _ (List.mem_append_right _ h))))))
theorem n_X5_setMachine_X2 : ∀ x ∈ u_ws RX2 TX2 4, x ∈ wsX5_setMachine := fun x h => List.mem_cons_of_mem _ (List.mem_append_left _ (List.mem_append_left _ (List.mem_append_left _ (List.mem_append_left _ (List.mem_append_right _ h)))))
set_option maxRecDepth 100000 in
set_option maxHeartbeats 4000000 in
theorem w_X5_setMachine_b35 {res : Sum (Int32 × (Nat → SL) × SL) Nat} (C : Cx p s m args meth c cX5_setMachine 7 (some .int) RX5 wsX5_setMachine) (G : Gx D cs ad s) (X : Tx l c ad s) {T : SL} {Ls : Nat → SL} {Hs : SL} {H : Heap} {locs : List Loc} {ls : Array Slot} (hP : va_P D vwCl (wA cs ad Ls Hs T) H) (hS : va_S (Afr ad s.heap.size) s.heap H locs) (hl : lv_has ls 7 []) (h : f_X5_setMachine_b35 Ls Hs = some res) : W p l e rmX5_setMachine s m args below meth c H locs 1 6 (vx_MQ below (va_Qi (fun r' (u : Int32 × (Nat → SL) × SL) => res = Sum.inl u ∧ r' = u.1) (fun (u : Int32 × (Nat → SL) × SL) t => va_P D vwCl (wA cs ad u.2.1 u.2.2 T) t.heap) (Afr ad s.heap.size)) (vx_X (fun k : Nat => res = Sum.inr k) (fun E k t => E = exN k ∧ va_P D vwCl (wA cs ad Ls Hs T) t.heap) (Afr ad s.heap.size)) args s 2 12 (Afr ad s.heap.size)) (F0 m 35 ls []) := by
  unfold f_X5_setMachine_b35 at h
  cases h
  exact k_throw (k := 1) (text := "a cycle or a mark is out of range") C X hP hS rfl (by decide) q_X5_setMachine_2 q_X5_setMachine_3 (List.mem_of_getElem? (i := 2) rfl) (fun w h => List.mem_cons_of_mem _ (List.mem_append_left _ (List.mem_append_right _ h))) tw_45 tg_45 hl.1 dX5_setMachine_35 dX5_setMachine_38 dX5_setMachine_39 dX5_setMachine_41 dX5_setMachine_44 (Nat.le_of_ble_eq_true rfl) (Nat.le_of_ble_eq_true rfl) (Nat.le_of_ble_eq_true rfl) (Nat.le_of_ble_eq_true rfl) (by omega) (by omega)
set_option maxRecDepth 100000 in
set_option maxHeartbeats 4000000 in
theorem w_X5_setMachine_e {res : Sum (Int32 × (Nat → SL) × SL) Nat} (C : Cx p s m args meth c cX5_setMachine 7 (some .int) RX5 wsX5_setMachine) (G : Gx D cs ad s) (X : Tx l c ad s) {T : SL} {Ls : Nat → SL} {Hs : SL} {x1 : Int32} {x2 : Int32} {x3 : Int32} {x4 : Int32} {x5 : Int32} {H : Heap} {locs : List Loc} {ls : Array Slot} (hP : va_P D vwCl (wA cs ad Ls Hs T) H) (hS : va_S (Afr ad s.heap.size) s.heap H locs) (hl : lv_has ls 7 [(0, .ref (ad 0)), (1, .int x1), (2, .int x2), (3, .int x3), (4, .int x4), (5, .int x5)]) (h : f_X5_setMachine Ls Hs x1 x2 x3 x4 x5 = some res) : W p l e rmX5_setMachine s m args below meth c H locs 0 0 (vx_MQ below (va_Qi (fun r' (u : Int32 × (Nat → SL) × SL) => res = Sum.inl u ∧ r' = u.1) (fun (u : Int32 × (Nat → SL) × SL) t => va_P D vwCl (wA cs ad u.2.1 u.2.2 T) t.heap) (Afr ad s.heap.size)) (vx_X (fun k : Nat => res = Sum.inr k) (fun E k t => E = exN k ∧ va_P D vwCl (wA cs ad Ls Hs T) t.heap) (Afr ad s.heap.size)) args s 2 12 (Afr ad s.heap.size)) (F0 m 0 ls []) := by
  unfold f_X5_setMachine at h
  refine lv_aload_n C.1 C.2.1 dX5_setMachine_0 rfl (lv_at hl 0 rfl) ?_
  refine lv_iload_n C.1 C.2.1 dX5_setMachine_1 rfl (lv_at hl 1 rfl) ?_
  obtain ⟨r1, c2, h⟩ := bd_out h
  refine k_callXVv C G X.2.2 hP hS (m_X5_needMachine l X.1 G.2.1 _ c2) g_obj rfl (cwV 1 C.2.2.2.2.2.1 gX5_setMachine_X5_needMachine rfl rfl rfl (by decide +kernel) ⟨Nat.le_of_ble_eq_true rfl, Nat.le_of_ble_eq_true rfl⟩) (As := [.int x1]) rfl hl.1 rfl (Nat.le_of_ble_eq_true rfl) dX5_setMachine_2 ⟨Nat.le_of_ble_eq_true rfl, Nat.le_of_ble_eq_true rfl⟩ (fun k E ce q9 H locs er hE hP hS hcell hv hcl => ?_) (fun H locs u er hP hS => ?_)
  · subst er
    have h : some (Sum.inr k) = some res := h
    cases h
    exact k_out C X hP hS rfl hE hcell hv hcl (by omega) (by omega)
  subst er
  have h := sx_l h
  refine lv_iload_n C.1 C.2.1 dX5_setMachine_5 rfl (lv_at hl 2 rfl) ?_
  refine lv_iload_n C.1 C.2.1 dX5_setMachine_6 rfl (lv_at hl 3 rfl) ?_
  obtain ⟨r3, c4, h⟩ := bd_out h
  refine k_callSi C G hP hS (m_X5_areCycles l G.2.1 _  c4) (va_cwS 2 C.2.2.2.2.2.1 gX5_setMachine_X5_areCycles rfl rfl rfl (by decide +kernel) ⟨Nat.le_of_ble_eq_true rfl, Nat.le_of_ble_eq_true rfl⟩) (As := [.int x2, .int x3]) rfl hl.1 rfl (Nat.le_of_ble_eq_true rfl) dX5_setMachine_7 ⟨Nat.le_of_ble_eq_true rfl, Nat.le_of_ble_eq_true rfl⟩ (fun H locs hP hS => ?_)
  refine lv_if_eq (tgt := 35) C.1 C.2.1 dX5_setMachine_10 (by decide) (fun c5 => ?_) (fun c5 => ?_)
  · have h := if_t c5 h
    refine W.widen (k := 1) (n := 6) (by omega) (by omega) ?_
    exact w_X5_setMachine_b35 C G X hP hS (lv_sub hl [] rfl) h
  · have h := if_f c5 h
    refine lv_iload C.1 C.2.1 dX5_setMachine_13 (lv_at hl 5 rfl) ?_
    refine lv_iconst (v := 0) C.1 C.2.1 dX5_setMachine_15 (by decide) ?_
    refine lv_bipush (v := 40) C.1 C.2.1 dX5_setMachine_16 (by decide) ?_
    obtain ⟨r6, c7, h⟩ := bd_out h
    refine k_callSi C G hP hS (m_X5_isIn l G.2.1 _  c7) (va_cwS 3 C.2.2.2.2.2.1 gX5_setMachine_X5_isIn rfl rfl rfl (by decide +kernel) ⟨Nat.le_of_ble_eq_true rfl, Nat.le_of_ble_eq_true rfl⟩) (As := [.int x5, .int 0, .int 40]) rfl hl.1 rfl (Nat.le_of_ble_eq_true rfl) dX5_setMachine_18 ⟨Nat.le_of_ble_eq_true rfl, Nat.le_of_ble_eq_true rfl⟩ (fun H locs hP hS => ?_)
    refine lv_if_eq (tgt := 35) C.1 C.2.1 dX5_setMachine_21 (by decide) (fun c8 => ?_) (fun c8 => ?_)
    · have h := if_t c8 h
      refine W.widen (k := 1) (n := 6) (by omega) (by omega) ?_
      exact w_X5_setMachine_b35 C G X hP hS (lv_sub hl [] rfl) h
    · have h := if_f c8 h
      refine lv_iload C.1 C.2.1 dX5_setMachine_24 (lv_at hl 4 rfl) ?_
      refine lv_iconst (v := 0) C.1 C.2.1 dX5_setMachine_26 (by decide) ?_
      refine lv_iload C.1 C.2.1 dX5_setMachine_27 (lv_at hl 5 rfl) ?_
      obtain ⟨r9, c10, h⟩ := bd_out h
      refine k_callSi C G hP hS (m_X5_isIn l G.2.1 _  c10) (va_cwS 3 C.2.2.2.2.2.1 gX5_setMachine_X5_isIn rfl rfl rfl (by decide +kernel) ⟨Nat.le_of_ble_eq_true rfl, Nat.le_of_ble_eq_true rfl⟩) (As := [.int x4, .int 0, .int x5]) rfl hl.1 rfl (Nat.le_of_ble_eq_true rfl) dX5_setMachine_29 ⟨Nat.le_of_ble_eq_true rfl, Nat.le_of_ble_eq_true rfl⟩ (fun H locs hP hS => ?_)
      refine lv_if_ne (tgt := 45) C.1 C.2.1 dX5_setMachine_32 (by decide) (fun c11 => ?_) (fun c11 => ?_)
      · have h := if_t c11 h
        refine lv_aload_n C.1 C.2.1 dX5_setMachine_45 rfl (lv_at hl 0 rfl) ?_
        refine k_getf C G hP g_obj rfl 2 (by decide) n_X5_setMachine_X5 q_X5_setMachine_0 (v := .ref (ad 1)) rfl dX5_setMachine_46 ?_
        refine lv_aload_n C.1 C.2.1 dX5_setMachine_49 rfl (lv_at hl 0 rfl) ?_
        refine k_getf C G hP g_obj rfl 0 (by decide) n_X5_setMachine_X5 q_X5_setMachine_1 (v := .ref (ad (5 + 14 * 0 + 0))) rfl dX5_setMachine_50 ?_
        obtain ⟨Ls12, Hs13, c14, h⟩ := bd2_out h
        refine k_callVv C G hP hS (m_X1_keep l G.2.1 _ (i := 0) (by decide) c14) g_his rfl (cwV 1 C.2.2.2.2.2.1 gX5_setMachine_X1_keep rfl rfl rfl (by decide +kernel) ⟨Nat.le_of_ble_eq_true rfl, Nat.le_of_ble_eq_true rfl⟩) (As := [.ref (ad (5 + 14 * 0 + 0))]) rfl hl.1 rfl (Nat.le_of_ble_eq_true rfl) dX5_setMachine_53 ⟨Nat.le_of_ble_eq_true rfl, Nat.le_of_ble_eq_true rfl⟩ (fun H locs hP hS => ?_)
        refine lv_aload_n C.1 C.2.1 dX5_setMachine_56 rfl (lv_at hl 0 rfl) ?_
        refine k_getf C G hP g_obj rfl 0 (by decide) n_X5_setMachine_X5 q_X5_setMachine_1 (v := .ref (ad (5 + 14 * 0 + 0))) rfl dX5_setMachine_57 ?_
        refine k_getfN C G hP (c_obj (i := 0) (by decide)) rfl 0 (by decide) n_X5_setMachine_X2 (List.mem_of_getElem? (i := 1) rfl) (v := .ref (ad (5 + 14 * 0 + 1))) rfl dX5_setMachine_60 ?_
        refine lv_iload_n C.1 C.2.1 dX5_setMachine_63 rfl (lv_at hl 1 rfl) ?_
        obtain ⟨g15, h⟩ := gd_out h
        have g15 := chk_in g15
        obtain ⟨kq16, ekq16, h⟩ := lt_out h
        have hkq16 : 2 ≤ kq16 ∧ kq16 < 10 := row_k g15 ekq16
        refine k_aaldR C G hP (c_rows (i := 0) (by decide)) g15 (b := ad (5 + 14 * 0 + kq16)) (by rw [ekq16]) dX5_setMachine_64 ?_
        refine lv_iconst (v := 1) C.1 C.2.1 dX5_setMachine_65 (by decide) ?_
        obtain ⟨v17, ev17, h⟩ := lt_out h
        refine k_iald C G hP (c_row (i := 0) (by decide) hkq16) (chk_in rfl) (j := 1) rfl ev17 dX5_setMachine_66 ?_
        refine lv_istore (lv' := [(6, .int v17), (0, .ref (ad 0)), (1, .int x1), (2, .int x2), (3, .int x3), (4, .int x4), (5, .int x5)]) C.1 C.2.1 dX5_setMachine_67 hl (by decide) rfl (fun ls hl => ?_)
        refine lv_aload_n C.1 C.2.1 dX5_setMachine_69 rfl (lv_at hl 1 rfl) ?_
        refine k_getf C G hP g_obj rfl 0 (by decide) n_X5_setMachine_X5 q_X5_setMachine_1 (v := .ref (ad (5 + 14 * 0 + 0))) rfl dX5_setMachine_70 ?_
        refine k_getfN C G hP (c_obj (i := 0) (by decide)) rfl 0 (by decide) n_X5_setMachine_X2 (List.mem_of_getElem? (i := 1) rfl) (v := .ref (ad (5 + 14 * 0 + 1))) rfl dX5_setMachine_73 ?_
        refine lv_iload_n C.1 C.2.1 dX5_setMachine_76 rfl (lv_at hl 2 rfl) ?_
        obtain ⟨kq18, ekq18, h⟩ := lt_out h
        have hkq18 : 2 ≤ kq18 ∧ kq18 < 10 := row_k g15 ekq18
        refine k_aaldR C G hP (c_rows (i := 0) (by decide)) g15 (b := ad (5 + 14 * 0 + kq18)) (by rw [ekq18]) dX5_setMachine_77 ?_
        refine lv_iconst (v := 0) C.1 C.2.1 dX5_setMachine_78 (by decide) ?_
        refine lv_iload_n C.1 C.2.1 dX5_setMachine_79 rfl (lv_at hl 3 rfl) ?_
        obtain ⟨Ls19, eLs19, h⟩ := lt_out h
        refine k_iast C G hP hS (c_row (i := 0) (by decide) hkq18) (chk_in rfl) (j := 0) rfl (c_rowS (i := 0) (by decide) hkq18) dX5_setMachine_80 (fun H locs hP hS => ?_)
        rw [← eLs19] at hP
        refine lv_aload_n C.1 C.2.1 dX5_setMachine_81 rfl (lv_at hl 1 rfl) ?_
        refine k_getf C G hP g_obj rfl 0 (by decide) n_X5_setMachine_X5 q_X5_setMachine_1 (v := .ref (ad (5 + 14 * 0 + 0))) rfl dX5_setMachine_82 ?_
        refine k_getfN C G hP (c_obj (i := 0) (by decide)) rfl 0 (by decide) n_X5_setMachine_X2 (List.mem_of_getElem? (i := 1) rfl) (v := .ref (ad (5 + 14 * 0 + 1))) rfl dX5_setMachine_85 ?_
        refine lv_iload_n C.1 C.2.1 dX5_setMachine_88 rfl (lv_at hl 2 rfl) ?_
        obtain ⟨kq20, ekq20, h⟩ := lt_out h
        have hkq20 : 2 ≤ kq20 ∧ kq20 < 10 := row_k g15 ekq20
        refine k_aaldR C G hP (c_rows (i := 0) (by decide)) g15 (b := ad (5 + 14 * 0 + kq20)) (by rw [ekq20]) dX5_setMachine_89 ?_
        refine lv_iconst (v := 1) C.1 C.2.1 dX5_setMachine_90 (by decide) ?_
        refine lv_iload_n C.1 C.2.1 dX5_setMachine_91 rfl (lv_at hl 4 rfl) ?_
        obtain ⟨Ls21, eLs21, h⟩ := lt_out h
        refine k_iast C G hP hS (c_row (i := 0) (by decide) hkq20) (chk_in rfl) (j := 1) rfl (c_rowS (i := 0) (by decide) hkq20) dX5_setMachine_92 (fun H locs hP hS => ?_)
        rw [← eLs21] at hP
        refine lv_aload_n C.1 C.2.1 dX5_setMachine_93 rfl (lv_at hl 1 rfl) ?_
        refine k_getf C G hP g_obj rfl 0 (by decide) n_X5_setMachine_X5 q_X5_setMachine_1 (v := .ref (ad (5 + 14 * 0 + 0))) rfl dX5_setMachine_94 ?_
        refine lv_iload_n C.1 C.2.1 dX5_setMachine_97 rfl (lv_at hl 2 rfl) ?_
        refine lv_iload C.1 C.2.1 dX5_setMachine_98 (lv_at hl 5 rfl) ?_
        refine lv_iload C.1 C.2.1 dX5_setMachine_100 (lv_at hl 6 rfl) ?_
        obtain ⟨L22, c23, h⟩ := bd_out h
        have hP := up_in (i := 0) hP
        refine k_callVv C G hP hS (m_X2_mark l G.2.1 _ (i := 0) (by decide) c23) (v_obj (i := 0) (by decide)) rfl (cwV 3 C.2.2.2.2.2.1 gX5_setMachine_X2_mark rfl rfl rfl (by decide +kernel) ⟨Nat.le_of_ble_eq_true rfl, Nat.le_of_ble_eq_true rfl⟩) (As := [.int x1, .int x4, .int x5]) rfl hl.1 rfl (Nat.le_of_ble_eq_true rfl) dX5_setMachine_102 ⟨Nat.le_of_ble_eq_true rfl, Nat.le_of_ble_eq_true rfl⟩ (fun H locs hP hS => ?_)
        obtain ⟨Ls24, eLs24, h⟩ := lt_out h
        rw [← eLs24] at hP
        refine lv_iload C.1 C.2.1 dX5_setMachine_105 (lv_at hl 0 rfl) ?_
        cases h
        refine W.widen (k := 2) (n := 12) (by omega) (by omega) ?_
        exact k_iretX C hP hS rfl rfl rfl dX5_setMachine_107
      · have h := if_n c11 h
        refine W.widen (k := 1) (n := 6) (by omega) (by omega) ?_
        exact w_X5_setMachine_b35 C G X hP hS (lv_sub hl [] rfl) h
set_option maxRecDepth 100000 in
set_option maxHeartbeats 4000000 in
theorem m_X5_setMachine (l : Launch) (hfl : l.stackTraces = false) {D : va_G} {cs : Nat → ClassId} {ad : Nat → Nat} (hAd : adOK ad) (sz : Nat) {Ls : Nat → SL} {Hs : SL} {T : SL} {x1 : Int32} {x2 : Int32} {x3 : Int32} {x4 : Int32} {x5 : Int32} {res : Sum (Int32 × (Nat → SL) × SL) Nat} (h : f_X5_setMachine Ls Hs x1 x2 x3 x4 x5 = some res) : vx_Met l yX5_setMachine wsX5_setMachine rmX5_setMachine (PX D cs ad sz (wA cs ad Ls Hs T) [.ref (ad 0), .int x1, .int x2, .int x3, .int x4, .int x5]) (va_Qi (fun r' (u : Int32 × (Nat → SL) × SL) => res = Sum.inl u ∧ r' = u.1) (fun (u : Int32 × (Nat → SL) × SL) t => va_P D vwCl (wA cs ad u.2.1 u.2.2 T) t.heap) (Afr ad sz)) (vx_X (fun k : Nat => res = Sum.inr k) (fun E k t => E = exN k ∧ va_P D vwCl (wA cs ad Ls Hs T) t.heap) (Afr ad sz)) 2 12 (Afr ad sz) :=
  k_metX hfl (by decide) rfl (Nat.le_of_ble_eq_true rfl) hAd (fun p e s m below meth c ls C G X hP hsz hl hS => by
    subst hsz
    exact w_X5_setMachine_e C G X  hP hS hl  h)
/-! X5 setCapacity -/
abbrev rmX5_setCapacity : Room := { frames := 7, cells := 2, slots := 12, locals := 117 }
theorem q_X5_setCapacity_0 : Cond.fieldLink RX5 22 "LineBuffers" "history" "LLineBuffers$History;" ∈ wsX5_setCapacity := List.mem_of_getElem? (i := 3) rfl
theorem q_X5_setCapacity_1 : Cond.fieldLink RX5 10 "LineBuffers" "line" "LLineBuffers$Line;" ∈ wsX5_setCapacity := List.mem_of_getElem? (i := 4) rfl
theorem q_X5_setCapacity_2 : Cond.classLink RX5 41 "java/lang/IllegalArgumentException" ∈ wsX5_setCapacity := List.mem_of_getElem? (i := 1) rfl
theorem q_X5_setCapacity_3 : Cond.initialized "java/lang/IllegalArgumentException" ∈ wsX5_setCapacity := List.mem_of_getElem? (i := 2) rfl
theorem n_X5_setCapacity_X5 : ∀ x ∈ u_ws RX5 TX5 4, x ∈ wsX5_setCapacity := fun x h => List.mem_cons_of_mem _ (List.mem_append_left _ (List.mem_append_left _ (List.mem_append_left _ (List.mem_append_left _ (List.mem_append_left _ (List.mem_append_right _ h))))))
theorem n_X5_setCapacity_X2 : ∀ x ∈ u_ws RX2 TX2 4, x ∈ wsX5_setCapacity := fun x h => List.mem_cons_of_mem _ (List.mem_append_left _ (List.mem_append_left _ (List.mem_append_left _ (List.mem_append_left _ (List.mem_append_right _ h)))))
set_option maxRecDepth 100000 in
set_option maxHeartbeats 4000000 in
theorem w_X5_setCapacity_e {res : Sum (Int32 × (Nat → SL) × SL) Nat} (C : Cx p s m args meth c cX5_setCapacity 4 (some .int) RX5 wsX5_setCapacity) (G : Gx D cs ad s) (X : Tx l c ad s) {T : SL} {Ls : Nat → SL} {Hs : SL} {x1 : Int32} {x2 : Int32} {H : Heap} {locs : List Loc} {ls : Array Slot} (hP : va_P D vwCl (wA cs ad Ls Hs T) H) (hS : va_S (Afr ad s.heap.size) s.heap H locs) (hl : lv_has ls 4 [(0, .ref (ad 0)), (1, .int x1), (2, .int x2)]) (h : f_X5_setCapacity Ls Hs x1 x2 = some res) : W p l e rmX5_setCapacity s m args below meth c H locs 0 0 (vx_MQ below (va_Qi (fun r' (u : Int32 × (Nat → SL) × SL) => res = Sum.inl u ∧ r' = u.1) (fun (u : Int32 × (Nat → SL) × SL) t => va_P D vwCl (wA cs ad u.2.1 u.2.2 T) t.heap) (Afr ad s.heap.size)) (vx_X (fun k : Nat => res = Sum.inr k) (fun E k t => E = exN k ∧ va_P D vwCl (wA cs ad Ls Hs T) t.heap) (Afr ad s.heap.size)) args s 2 12 (Afr ad s.heap.size)) (F0 m 0 ls []) := by
  unfold f_X5_setCapacity at h
  refine lv_aload_n C.1 C.2.1 dX5_setCapacity_0 rfl (lv_at hl 0 rfl) ?_
  refine lv_iload_n C.1 C.2.1 dX5_setCapacity_1 rfl (lv_at hl 1 rfl) ?_
  obtain ⟨r1, c2, h⟩ := bd_out h
  refine k_callXVv C G X.2.2 hP hS (m_X5_needMachine l X.1 G.2.1 _ c2) g_obj rfl (cwV 1 C.2.2.2.2.2.1 gX5_setCapacity_X5_needMachine rfl rfl rfl (by decide +kernel) ⟨Nat.le_of_ble_eq_true rfl, Nat.le_of_ble_eq_true rfl⟩) (As := [.int x1]) rfl hl.1 rfl (Nat.le_of_ble_eq_true rfl) dX5_setCapacity_2 ⟨Nat.le_of_ble_eq_true rfl, Nat.le_of_ble_eq_true rfl⟩ (fun k E ce q9 H locs er hE hP hS hcell hv hcl => ?_) (fun H locs u er hP hS => ?_)
  · subst er
    have h : some (Sum.inr k) = some res := h
    cases h
    exact k_out C X hP hS rfl hE hcell hv hcl (by omega) (by omega)
  subst er
  have h := sx_l h
  refine lv_iload_n C.1 C.2.1 dX5_setCapacity_5 rfl (lv_at hl 2 rfl) ?_
  refine lv_iconst (v := 0) C.1 C.2.1 dX5_setCapacity_6 (by decide) ?_
  refine lv_bipush (v := 40) C.1 C.2.1 dX5_setCapacity_7 (by decide) ?_
  obtain ⟨r3, c4, h⟩ := bd_out h
  refine k_callSi C G hP hS (m_X5_isIn l G.2.1 _  c4) (va_cwS 3 C.2.2.2.2.2.1 gX5_setCapacity_X5_isIn rfl rfl rfl (by decide +kernel) ⟨Nat.le_of_ble_eq_true rfl, Nat.le_of_ble_eq_true rfl⟩) (As := [.int x2, .int 0, .int 40]) rfl hl.1 rfl (Nat.le_of_ble_eq_true rfl) dX5_setCapacity_9 ⟨Nat.le_of_ble_eq_true rfl, Nat.le_of_ble_eq_true rfl⟩ (fun H locs hP hS => ?_)
  refine lv_if_ne (tgt := 25) C.1 C.2.1 dX5_setCapacity_12 (by decide) (fun c5 => ?_) (fun c5 => ?_)
  · have h := if_t c5 h
    refine lv_aload_n C.1 C.2.1 dX5_setCapacity_25 rfl (lv_at hl 0 rfl) ?_
    refine k_getf C G hP g_obj rfl 2 (by decide) n_X5_setCapacity_X5 q_X5_setCapacity_0 (v := .ref (ad 1)) rfl dX5_setCapacity_26 ?_
    refine lv_aload_n C.1 C.2.1 dX5_setCapacity_29 rfl (lv_at hl 0 rfl) ?_
    refine k_getf C G hP g_obj rfl 0 (by decide) n_X5_setCapacity_X5 q_X5_setCapacity_1 (v := .ref (ad (5 + 14 * 0 + 0))) rfl dX5_setCapacity_30 ?_
    obtain ⟨Ls6, Hs7, c8, h⟩ := bd2_out h
    refine k_callVv C G hP hS (m_X1_keep l G.2.1 _ (i := 0) (by decide) c8) g_his rfl (cwV 1 C.2.2.2.2.2.1 gX5_setCapacity_X1_keep rfl rfl rfl (by decide +kernel) ⟨Nat.le_of_ble_eq_true rfl, Nat.le_of_ble_eq_true rfl⟩) (As := [.ref (ad (5 + 14 * 0 + 0))]) rfl hl.1 rfl (Nat.le_of_ble_eq_true rfl) dX5_setCapacity_33 ⟨Nat.le_of_ble_eq_true rfl, Nat.le_of_ble_eq_true rfl⟩ (fun H locs hP hS => ?_)
    refine lv_aload_n C.1 C.2.1 dX5_setCapacity_36 rfl (lv_at hl 0 rfl) ?_
    refine k_getf C G hP g_obj rfl 0 (by decide) n_X5_setCapacity_X5 q_X5_setCapacity_1 (v := .ref (ad (5 + 14 * 0 + 0))) rfl dX5_setCapacity_37 ?_
    refine k_getfN C G hP (c_obj (i := 0) (by decide)) rfl 0 (by decide) n_X5_setCapacity_X2 (List.mem_of_getElem? (i := 1) rfl) (v := .ref (ad (5 + 14 * 0 + 1))) rfl dX5_setCapacity_40 ?_
    refine lv_iload_n C.1 C.2.1 dX5_setCapacity_43 rfl (lv_at hl 1 rfl) ?_
    obtain ⟨g9, h⟩ := gd_out h
    have g9 := chk_in g9
    obtain ⟨kq10, ekq10, h⟩ := lt_out h
    have hkq10 : 2 ≤ kq10 ∧ kq10 < 10 := row_k g9 ekq10
    refine k_aaldR C G hP (c_rows (i := 0) (by decide)) g9 (b := ad (5 + 14 * 0 + kq10)) (by rw [ekq10]) dX5_setCapacity_44 ?_
    refine lv_iconst (v := 4) C.1 C.2.1 dX5_setCapacity_45 (by decide) ?_
    obtain ⟨v11, ev11, h⟩ := lt_out h
    refine k_iald C G hP (c_row (i := 0) (by decide) hkq10) (chk_in rfl) (j := 4) rfl ev11 dX5_setCapacity_46 ?_
    refine lv_istore_n (lv' := [(3, .int v11), (0, .ref (ad 0)), (1, .int x1), (2, .int x2)]) C.1 C.2.1 dX5_setCapacity_47 rfl hl (by decide) rfl (fun ls hl => ?_)
    refine lv_aload_n C.1 C.2.1 dX5_setCapacity_48 rfl (lv_at hl 1 rfl) ?_
    refine k_getf C G hP g_obj rfl 0 (by decide) n_X5_setCapacity_X5 q_X5_setCapacity_1 (v := .ref (ad (5 + 14 * 0 + 0))) rfl dX5_setCapacity_49 ?_
    refine k_getfN C G hP (c_obj (i := 0) (by decide)) rfl 0 (by decide) n_X5_setCapacity_X2 (List.mem_of_getElem? (i := 1) rfl) (v := .ref (ad (5 + 14 * 0 + 1))) rfl dX5_setCapacity_52 ?_
    refine lv_iload_n C.1 C.2.1 dX5_setCapacity_55 rfl (lv_at hl 2 rfl) ?_
    obtain ⟨kq12, ekq12, h⟩ := lt_out h
    have hkq12 : 2 ≤ kq12 ∧ kq12 < 10 := row_k g9 ekq12
    refine k_aaldR C G hP (c_rows (i := 0) (by decide)) g9 (b := ad (5 + 14 * 0 + kq12)) (by rw [ekq12]) dX5_setCapacity_56 ?_
    refine lv_iconst (v := 4) C.1 C.2.1 dX5_setCapacity_57 (by decide) ?_
    refine lv_iload_n C.1 C.2.1 dX5_setCapacity_58 rfl (lv_at hl 3 rfl) ?_
    obtain ⟨Ls13, eLs13, h⟩ := lt_out h
    refine k_iast C G hP hS (c_row (i := 0) (by decide) hkq12) (chk_in rfl) (j := 4) rfl (c_rowS (i := 0) (by decide) hkq12) dX5_setCapacity_59 (fun H locs hP hS => ?_)
    rw [← eLs13] at hP
    refine lv_iload_n C.1 C.2.1 dX5_setCapacity_60 rfl (lv_at hl 0 rfl) ?_
    cases h
    refine W.widen (k := 2) (n := 12) (by omega) (by omega) ?_
    exact k_iretX C hP hS rfl rfl rfl dX5_setCapacity_61
  · have h := if_n c5 h
    cases h
    exact k_throw (k := 1) (text := "the capacity is out of range") C X hP hS rfl (by decide) q_X5_setCapacity_2 q_X5_setCapacity_3 (List.mem_of_getElem? (i := 3) rfl) (fun w h => List.mem_cons_of_mem _ (List.mem_append_left _ (List.mem_append_right _ h))) tw_45 tg_45 hl.1 dX5_setCapacity_15 dX5_setCapacity_18 dX5_setCapacity_19 dX5_setCapacity_21 dX5_setCapacity_24 (Nat.le_of_ble_eq_true rfl) (Nat.le_of_ble_eq_true rfl) (Nat.le_of_ble_eq_true rfl) (Nat.le_of_ble_eq_true rfl) (by omega) (by omega)
set_option maxRecDepth 100000 in
set_option maxHeartbeats 4000000 in
theorem m_X5_setCapacity (l : Launch) (hfl : l.stackTraces = false) {D : va_G} {cs : Nat → ClassId} {ad : Nat → Nat} (hAd : adOK ad) (sz : Nat) {Ls : Nat → SL} {Hs : SL} {T : SL} {x1 : Int32} {x2 : Int32} {res : Sum (Int32 × (Nat → SL) × SL) Nat} (h : f_X5_setCapacity Ls Hs x1 x2 = some res) : vx_Met l yX5_setCapacity wsX5_setCapacity rmX5_setCapacity (PX D cs ad sz (wA cs ad Ls Hs T) [.ref (ad 0), .int x1, .int x2]) (va_Qi (fun r' (u : Int32 × (Nat → SL) × SL) => res = Sum.inl u ∧ r' = u.1) (fun (u : Int32 × (Nat → SL) × SL) t => va_P D vwCl (wA cs ad u.2.1 u.2.2 T) t.heap) (Afr ad sz)) (vx_X (fun k : Nat => res = Sum.inr k) (fun E k t => E = exN k ∧ va_P D vwCl (wA cs ad Ls Hs T) t.heap) (Afr ad sz)) 2 12 (Afr ad sz) :=
  k_metX hfl (by decide) rfl (Nat.le_of_ble_eq_true rfl) hAd (fun p e s m below meth c ls C G X hP hsz hl hS => by
    subst hsz
    exact w_X5_setCapacity_e C G X  hP hS hl  h)
/-! X5 addStop -/
abbrev rmX5_addStop : Room := { frames := 7, cells := 2, slots := 12, locals := 117 }
theorem q_X5_addStop_0 : Cond.fieldLink RX5 10 "LineBuffers" "line" "LLineBuffers$Line;" ∈ wsX5_addStop := List.mem_of_getElem? (i := 5) rfl
theorem q_X5_addStop_1 : Cond.fieldLink RX5 22 "LineBuffers" "history" "LLineBuffers$History;" ∈ wsX5_addStop := List.mem_of_getElem? (i := 6) rfl
theorem q_X5_addStop_2 : Cond.classLink RX5 55 "java/lang/IllegalStateException" ∈ wsX5_addStop := List.mem_of_getElem? (i := 3) rfl
theorem q_X5_addStop_3 : Cond.initialized "java/lang/IllegalStateException" ∈ wsX5_addStop := List.mem_of_getElem? (i := 4) rfl
theorem q_X5_addStop_4 : Cond.classLink RX5 41 "java/lang/IllegalArgumentException" ∈ wsX5_addStop := List.mem_of_getElem? (i := 1) rfl
theorem q_X5_addStop_5 : Cond.initialized "java/lang/IllegalArgumentException" ∈ wsX5_addStop := List.mem_of_getElem? (i := 2) rfl
theorem n_X5_addStop_X5 : ∀ x ∈ u_ws RX5 TX5 4, x ∈ wsX5_addStop := fun x h => List.mem_cons_of_mem _ (List.mem_append_left _ (List.mem_append_left _ (List.mem_append_left _ (List.mem_append_left _ (List.mem_append_left _ (List.mem_append_left _ (List.mem_append_right _ h)))))))
theorem n_X5_addStop_X2 : ∀ x ∈ u_ws RX2 TX2 4, x ∈ wsX5_addStop := fun x h => List.mem_cons_of_mem _ (List.mem_append_left _ (List.mem_append_left _ (List.mem_append_left _ (List.mem_append_left _ (List.mem_append_left _ (List.mem_append_right _ h))))))
theorem n_X5_addStop_X4 : ∀ x ∈ u_ws RX4 TX4 5, x ∈ wsX5_addStop := fun x h => List.mem_cons_of_mem _ (List.mem_append_left _ (List.mem_append_left _ (List.mem_append_left _ (List.mem_append_left _ (List.mem_append_right _ h)))))
set_option maxRecDepth 100000 in
set_option maxHeartbeats 4000000 in
theorem w_X5_addStop_b34 {res : Sum (Int32 × (Nat → SL) × SL) Nat} (C : Cx p s m args meth c cX5_addStop 4 (some .int) RX5 wsX5_addStop) (G : Gx D cs ad s) (X : Tx l c ad s) {T : SL} {Ls : Nat → SL} {Hs : SL} {H : Heap} {locs : List Loc} {ls : Array Slot} (hP : va_P D vwCl (wA cs ad Ls Hs T) H) (hS : va_S (Afr ad s.heap.size) s.heap H locs) (hl : lv_has ls 4 []) (h : f_X5_addStop_b34 Ls Hs = some res) : W p l e rmX5_addStop s m args below meth c H locs 1 6 (vx_MQ below (va_Qi (fun r' (u : Int32 × (Nat → SL) × SL) => res = Sum.inl u ∧ r' = u.1) (fun (u : Int32 × (Nat → SL) × SL) t => va_P D vwCl (wA cs ad u.2.1 u.2.2 T) t.heap) (Afr ad s.heap.size)) (vx_X (fun k : Nat => res = Sum.inr k) (fun E k t => E = exN k ∧ va_P D vwCl (wA cs ad Ls Hs T) t.heap) (Afr ad s.heap.size)) args s 2 12 (Afr ad s.heap.size)) (F0 m 34 ls []) := by
  unfold f_X5_addStop_b34 at h
  cases h
  exact k_throw (k := 1) (text := "the first tick or the duration is out of range") C X hP hS rfl (by decide) q_X5_addStop_4 q_X5_addStop_5 (List.mem_of_getElem? (i := 4) rfl) (fun w h => List.mem_cons_of_mem _ (List.mem_append_left _ (List.mem_append_left _ (List.mem_append_right _ h)))) tw_45 tg_45 hl.1 dX5_addStop_34 dX5_addStop_37 dX5_addStop_38 dX5_addStop_40 dX5_addStop_43 (Nat.le_of_ble_eq_true rfl) (Nat.le_of_ble_eq_true rfl) (Nat.le_of_ble_eq_true rfl) (Nat.le_of_ble_eq_true rfl) (by omega) (by omega)
set_option maxRecDepth 100000 in
set_option maxHeartbeats 4000000 in
theorem w_X5_addStop_e {res : Sum (Int32 × (Nat → SL) × SL) Nat} (C : Cx p s m args meth c cX5_addStop 4 (some .int) RX5 wsX5_addStop) (G : Gx D cs ad s) (X : Tx l c ad s) {T : SL} {Ls : Nat → SL} {Hs : SL} {x1 : Int32} {x2 : Int32} {x3 : Int32} {H : Heap} {locs : List Loc} {ls : Array Slot} (hP : va_P D vwCl (wA cs ad Ls Hs T) H) (hS : va_S (Afr ad s.heap.size) s.heap H locs) (hl : lv_has ls 4 [(0, .ref (ad 0)), (1, .int x1), (2, .int x2), (3, .int x3)]) (h : f_X5_addStop Ls Hs x1 x2 x3 = some res) : W p l e rmX5_addStop s m args below meth c H locs 0 0 (vx_MQ below (va_Qi (fun r' (u : Int32 × (Nat → SL) × SL) => res = Sum.inl u ∧ r' = u.1) (fun (u : Int32 × (Nat → SL) × SL) t => va_P D vwCl (wA cs ad u.2.1 u.2.2 T) t.heap) (Afr ad s.heap.size)) (vx_X (fun k : Nat => res = Sum.inr k) (fun E k t => E = exN k ∧ va_P D vwCl (wA cs ad Ls Hs T) t.heap) (Afr ad s.heap.size)) args s 2 12 (Afr ad s.heap.size)) (F0 m 0 ls []) := by
  unfold f_X5_addStop at h
  refine lv_aload_n C.1 C.2.1 dX5_addStop_0 rfl (lv_at hl 0 rfl) ?_
  refine lv_iload_n C.1 C.2.1 dX5_addStop_1 rfl (lv_at hl 1 rfl) ?_
  obtain ⟨r1, c2, h⟩ := bd_out h
  refine k_callXVv C G X.2.2 hP hS (m_X5_needMachine l X.1 G.2.1 _ c2) g_obj rfl (cwV 1 C.2.2.2.2.2.1 gX5_addStop_X5_needMachine rfl rfl rfl (by decide +kernel) ⟨Nat.le_of_ble_eq_true rfl, Nat.le_of_ble_eq_true rfl⟩) (As := [.int x1]) rfl hl.1 rfl (Nat.le_of_ble_eq_true rfl) dX5_addStop_2 ⟨Nat.le_of_ble_eq_true rfl, Nat.le_of_ble_eq_true rfl⟩ (fun k E ce q9 H locs er hE hP hS hcell hv hcl => ?_) (fun H locs u er hP hS => ?_)
  · subst er
    have h : some (Sum.inr k) = some res := h
    cases h
    exact k_out C X hP hS rfl hE hcell hv hcl (by omega) (by omega)
  subst er
  have h := sx_l h
  refine lv_iload_n C.1 C.2.1 dX5_addStop_5 rfl (lv_at hl 2 rfl) ?_
  refine lv_aload_n C.1 C.2.1 dX5_addStop_6 rfl (lv_at hl 0 rfl) ?_
  refine k_getf C G hP g_obj rfl 0 (by decide) n_X5_addStop_X5 q_X5_addStop_0 (v := .ref (ad (5 + 14 * 0 + 0))) rfl dX5_addStop_7 ?_
  obtain ⟨v3, ev3, h⟩ := lt_out h
  refine k_getiN C G hP (c_obj (i := 0) (by decide)) rfl 3 (by decide) n_X5_addStop_X2 (List.mem_of_getElem? (i := 4) rfl) rfl ev3 dX5_addStop_10 ?_
  refine lv_icmp_le (tgt := 34) C.1 C.2.1 dX5_addStop_13 (by decide) (fun c4 => ?_) (fun c4 => ?_)
  · have h := if_t c4 h
    refine W.widen (k := 1) (n := 6) (by omega) (by omega) ?_
    exact w_X5_addStop_b34 C G X hP hS (lv_sub hl [] rfl) h
  · have h := if_f c4 h
    refine lv_iload_n C.1 C.2.1 dX5_addStop_16 rfl (lv_at hl 2 rfl) ?_
    refine lv_sipush (v := 10000) C.1 C.2.1 dX5_addStop_17 (by decide) ?_
    refine lv_icmp_gt (tgt := 34) C.1 C.2.1 dX5_addStop_20 (by decide) (fun c5 => ?_) (fun c5 => ?_)
    · have h := if_t c5 h
      refine W.widen (k := 1) (n := 6) (by omega) (by omega) ?_
      exact w_X5_addStop_b34 C G X hP hS (lv_sub hl [] rfl) h
    · have h := if_f c5 h
      refine lv_iload_n C.1 C.2.1 dX5_addStop_23 rfl (lv_at hl 3 rfl) ?_
      refine lv_iconst (v := 1) C.1 C.2.1 dX5_addStop_24 (by decide) ?_
      refine lv_sipush (v := 200) C.1 C.2.1 dX5_addStop_25 (by decide) ?_
      obtain ⟨r6, c7, h⟩ := bd_out h
      refine k_callSi C G hP hS (m_X5_isIn l G.2.1 _  c7) (va_cwS 3 C.2.2.2.2.2.1 gX5_addStop_X5_isIn rfl rfl rfl (by decide +kernel) ⟨Nat.le_of_ble_eq_true rfl, Nat.le_of_ble_eq_true rfl⟩) (As := [.int x3, .int 1, .int 200]) rfl hl.1 rfl (Nat.le_of_ble_eq_true rfl) dX5_addStop_28 ⟨Nat.le_of_ble_eq_true rfl, Nat.le_of_ble_eq_true rfl⟩ (fun H locs hP hS => ?_)
      refine lv_if_ne (tgt := 44) C.1 C.2.1 dX5_addStop_31 (by decide) (fun c8 => ?_) (fun c8 => ?_)
      · have h := if_t c8 h
        refine lv_aload_n C.1 C.2.1 dX5_addStop_44 rfl (lv_at hl 0 rfl) ?_
        refine k_getf C G hP g_obj rfl 0 (by decide) n_X5_addStop_X5 q_X5_addStop_0 (v := .ref (ad (5 + 14 * 0 + 0))) rfl dX5_addStop_45 ?_
        refine k_getfN C G hP (c_obj (i := 0) (by decide)) rfl 1 (by decide) n_X5_addStop_X2 (List.mem_of_getElem? (i := 2) rfl) (v := .ref (ad (5 + 14 * 0 + 10))) rfl dX5_addStop_48 ?_
        obtain ⟨v9, ev9, h⟩ := lt_out h
        refine k_getiN C G hP (c_sto (i := 0) (by decide)) rfl 3 (by decide) n_X5_addStop_X4 (List.mem_of_getElem? (i := 0) rfl) rfl ev9 dX5_addStop_51 ?_
        refine lv_bipush (v := 40) C.1 C.2.1 dX5_addStop_54 (by decide) ?_
        refine lv_icmp_lt (tgt := 69) C.1 C.2.1 dX5_addStop_56 (by decide) (fun c10 => ?_) (fun c10 => ?_)
        · have h := if_t c10 h
          refine lv_aload_n C.1 C.2.1 dX5_addStop_69 rfl (lv_at hl 0 rfl) ?_
          refine k_getf C G hP g_obj rfl 2 (by decide) n_X5_addStop_X5 q_X5_addStop_1 (v := .ref (ad 1)) rfl dX5_addStop_70 ?_
          refine lv_aload_n C.1 C.2.1 dX5_addStop_73 rfl (lv_at hl 0 rfl) ?_
          refine k_getf C G hP g_obj rfl 0 (by decide) n_X5_addStop_X5 q_X5_addStop_0 (v := .ref (ad (5 + 14 * 0 + 0))) rfl dX5_addStop_74 ?_
          obtain ⟨Ls11, Hs12, c13, h⟩ := bd2_out h
          refine k_callVv C G hP hS (m_X1_keep l G.2.1 _ (i := 0) (by decide) c13) g_his rfl (cwV 1 C.2.2.2.2.2.1 gX5_addStop_X1_keep rfl rfl rfl (by decide +kernel) ⟨Nat.le_of_ble_eq_true rfl, Nat.le_of_ble_eq_true rfl⟩) (As := [.ref (ad (5 + 14 * 0 + 0))]) rfl hl.1 rfl (Nat.le_of_ble_eq_true rfl) dX5_addStop_77 ⟨Nat.le_of_ble_eq_true rfl, Nat.le_of_ble_eq_true rfl⟩ (fun H locs hP hS => ?_)
          refine lv_aload_n C.1 C.2.1 dX5_addStop_80 rfl (lv_at hl 0 rfl) ?_
          refine k_getf C G hP g_obj rfl 0 (by decide) n_X5_addStop_X5 q_X5_addStop_0 (v := .ref (ad (5 + 14 * 0 + 0))) rfl dX5_addStop_81 ?_
          refine k_getfN C G hP (c_obj (i := 0) (by decide)) rfl 1 (by decide) n_X5_addStop_X2 (List.mem_of_getElem? (i := 2) rfl) (v := .ref (ad (5 + 14 * 0 + 10))) rfl dX5_addStop_84 ?_
          refine lv_iload_n C.1 C.2.1 dX5_addStop_87 rfl (lv_at hl 1 rfl) ?_
          refine lv_iload_n C.1 C.2.1 dX5_addStop_88 rfl (lv_at hl 2 rfl) ?_
          refine lv_iload_n C.1 C.2.1 dX5_addStop_89 rfl (lv_at hl 3 rfl) ?_
          obtain ⟨L14, c15, h⟩ := bd_out h
          have hP := up_in (i := 0) hP
          refine k_callVv C G hP hS (m_X4_plan l G.2.1 _ (i := 0) (by decide) c15) (v_sto (i := 0) (by decide)) rfl (cwV 3 C.2.2.2.2.2.1 gX5_addStop_X4_plan rfl rfl rfl (by decide +kernel) ⟨Nat.le_of_ble_eq_true rfl, Nat.le_of_ble_eq_true rfl⟩) (As := [.int x1, .int x2, .int x3]) rfl hl.1 rfl (Nat.le_of_ble_eq_true rfl) dX5_addStop_90 ⟨Nat.le_of_ble_eq_true rfl, Nat.le_of_ble_eq_true rfl⟩ (fun H locs hP hS => ?_)
          obtain ⟨Ls16, eLs16, h⟩ := lt_out h
          rw [← eLs16] at hP
          refine lv_aload_n C.1 C.2.1 dX5_addStop_93 rfl (lv_at hl 0 rfl) ?_
          refine k_getf C G hP g_obj rfl 0 (by decide) n_X5_addStop_X5 q_X5_addStop_0 (v := .ref (ad (5 + 14 * 0 + 0))) rfl dX5_addStop_94 ?_
          refine k_getfN C G hP (c_obj (i := 0) (by decide)) rfl 1 (by decide) n_X5_addStop_X2 (List.mem_of_getElem? (i := 2) rfl) (v := .ref (ad (5 + 14 * 0 + 10))) rfl dX5_addStop_97 ?_
          obtain ⟨v17, ev17, h⟩ := lt_out h
          refine k_getiN C G hP (c_sto (i := 0) (by decide)) rfl 3 (by decide) n_X5_addStop_X4 (List.mem_of_getElem? (i := 0) rfl) rfl ev17 dX5_addStop_100 ?_
          cases h
          refine W.widen (k := 2) (n := 12) (by omega) (by omega) ?_
          exact k_iretX C hP hS rfl rfl rfl dX5_addStop_103
        · have h := if_f c10 h
          cases h
          exact k_throw (k := 2) (text := "no more stops can be planned") C X hP hS rfl (by decide) q_X5_addStop_2 q_X5_addStop_3 (List.mem_of_getElem? (i := 5) rfl) (fun w h => List.mem_cons_of_mem _ (List.mem_append_left _ (List.mem_append_right _ h))) tw_59 tg_59 hl.1 dX5_addStop_59 dX5_addStop_62 dX5_addStop_63 dX5_addStop_65 dX5_addStop_68 (Nat.le_of_ble_eq_true rfl) (Nat.le_of_ble_eq_true rfl) (Nat.le_of_ble_eq_true rfl) (Nat.le_of_ble_eq_true rfl) (by omega) (by omega)
      · have h := if_n c8 h
        refine W.widen (k := 1) (n := 6) (by omega) (by omega) ?_
        exact w_X5_addStop_b34 C G X hP hS (lv_sub hl [] rfl) h
set_option maxRecDepth 100000 in
set_option maxHeartbeats 4000000 in
theorem m_X5_addStop (l : Launch) (hfl : l.stackTraces = false) {D : va_G} {cs : Nat → ClassId} {ad : Nat → Nat} (hAd : adOK ad) (sz : Nat) {Ls : Nat → SL} {Hs : SL} {T : SL} {x1 : Int32} {x2 : Int32} {x3 : Int32} {res : Sum (Int32 × (Nat → SL) × SL) Nat} (h : f_X5_addStop Ls Hs x1 x2 x3 = some res) : vx_Met l yX5_addStop wsX5_addStop rmX5_addStop (PX D cs ad sz (wA cs ad Ls Hs T) [.ref (ad 0), .int x1, .int x2, .int x3]) (va_Qi (fun r' (u : Int32 × (Nat → SL) × SL) => res = Sum.inl u ∧ r' = u.1) (fun (u : Int32 × (Nat → SL) × SL) t => va_P D vwCl (wA cs ad u.2.1 u.2.2 T) t.heap) (Afr ad sz)) (vx_X (fun k : Nat => res = Sum.inr k) (fun E k t => E = exN k ∧ va_P D vwCl (wA cs ad Ls Hs T) t.heap) (Afr ad sz)) 2 12 (Afr ad sz) :=
  k_metX hfl (by decide) rfl (Nat.le_of_ble_eq_true rfl) hAd (fun p e s m below meth c ls C G X hP hsz hl hS => by
    subst hsz
    exact w_X5_addStop_e C G X  hP hS hl  h)
/-! X5 addRandomStops -/
abbrev rmX5_addRandomStops : Room := { frames := 7, cells := 2, slots := 12, locals := 117 }
theorem q_X5_addRandomStops_0 : Cond.constant RX5 100 (999999) ∈ wsX5_addRandomStops := List.mem_of_getElem? (i := 5) rfl
theorem q_X5_addRandomStops_1 : Cond.fieldLink RX5 10 "LineBuffers" "line" "LLineBuffers$Line;" ∈ wsX5_addRandomStops := List.mem_of_getElem? (i := 6) rfl
theorem q_X5_addRandomStops_2 : Cond.fieldLink RX5 22 "LineBuffers" "history" "LLineBuffers$History;" ∈ wsX5_addRandomStops := List.mem_of_getElem? (i := 7) rfl
theorem q_X5_addRandomStops_3 : Cond.classLink RX5 105 RX0 ∈ wsX5_addRandomStops := List.mem_of_getElem? (i := 8) rfl
theorem q_X5_addRandomStops_4 : Cond.instantiable RX0 1 ∈ wsX5_addRandomStops := List.mem_of_getElem? (i := 9) rfl
theorem q_X5_addRandomStops_5 : Cond.initialized RX0 ∈ wsX5_addRandomStops := List.mem_of_getElem? (i := 10) rfl
theorem q_X5_addRandomStops_6 : Cond.methodLink RX5 107 yX0_init ∈ wsX5_addRandomStops := List.mem_of_getElem? (i := 50) rfl
theorem q_X5_addRandomStops_7 : Cond.instanceMethod yX0_init ∈ wsX5_addRandomStops := List.mem_of_getElem? (i := 51) rfl
theorem q_X5_addRandomStops_8 : Cond.classLink RX5 55 "java/lang/IllegalStateException" ∈ wsX5_addRandomStops := List.mem_of_getElem? (i := 3) rfl
theorem q_X5_addRandomStops_9 : Cond.initialized "java/lang/IllegalStateException" ∈ wsX5_addRandomStops := List.mem_of_getElem? (i := 4) rfl
theorem q_X5_addRandomStops_10 : Cond.classLink RX5 41 "java/lang/IllegalArgumentException" ∈ wsX5_addRandomStops := List.mem_of_getElem? (i := 1) rfl
theorem q_X5_addRandomStops_11 : Cond.initialized "java/lang/IllegalArgumentException" ∈ wsX5_addRandomStops := List.mem_of_getElem? (i := 2) rfl
theorem n_X5_addRandomStops_X5 : ∀ x ∈ u_ws RX5 TX5 4, x ∈ wsX5_addRandomStops := fun x h => List.mem_cons_of_mem _ (List.mem_append_left _ (List.mem_append_left _ (List.mem_append_left _ (List.mem_append_left _ (List.mem_append_left _ (List.mem_append_left _ (List.mem_append_left _ (List.mem_append_right _ h))))))))
theorem n_X5_addRandomStops_X2 : ∀ x ∈ u_ws RX2 TX2 4, x ∈ wsX5_addRandomStops := fun x h => List.mem_cons_of_mem _ (List.mem_append_left _ (List.mem_append_left _ (List.mem_append_left _ (List.mem_append_left _ (List.mem_append_left _ (List.mem_append_left _ (List.mem_append_right _ h)))))))
theorem n_X5_addRandomStops_X4 : ∀ x ∈ u_ws RX4 TX4 5, x ∈ wsX5_addRandomStops := fun x h => List.mem_cons_of_mem _ (List.mem_append_left _ (List.mem_append_left _ (List.mem_append_left _ (List.mem_append_left _ (List.mem_append_left _ (List.mem_append_right _ h))))))
theorem n_X5_addRandomStops_X0 : ∀ x ∈ u_ws RX0 TX0 1, x ∈ wsX5_addRandomStops := fun x h => List.mem_cons_of_mem _ (List.mem_append_left _ (List.mem_append_left _ (List.mem_append_left _ (List.mem_append_left _ (List.mem_append_right _ h)))))
set_option maxRecDepth 100000 in
set_option maxHeartbeats 4000000 in
theorem w_X5_addRandomStops_b48 {res : Sum (Int32 × (Nat → SL) × SL) Nat} (C : Cx p s m args meth c cX5_addRandomStops 11 (some .int) RX5 wsX5_addRandomStops) (G : Gx D cs ad s) (X : Tx l c ad s) {T : SL} {Ls : Nat → SL} {Hs : SL} {H : Heap} {locs : List Loc} {ls : Array Slot} (hP : va_P D vwCl (wA cs ad Ls Hs T) H) (hS : va_S (Afr ad s.heap.size) s.heap H locs) (hl : lv_has ls 11 []) (h : f_X5_addRandomStops_b48 Ls Hs = some res) : W p l e rmX5_addRandomStops s m args below meth c H locs 1 6 (vx_MQ below (va_Qi (fun r' (u : Int32 × (Nat → SL) × SL) => res = Sum.inl u ∧ r' = u.1) (fun (u : Int32 × (Nat → SL) × SL) t => va_P D vwCl (wA cs ad u.2.1 u.2.2 T) t.heap) (Afr ad s.heap.size)) (vx_X (fun k : Nat => res = Sum.inr k) (fun E k t => E = exN k ∧ va_P D vwCl (wA cs ad Ls Hs T) t.heap) (Afr ad s.heap.size)) args s 2 12 (Afr ad s.heap.size)) (F0 m 48 ls []) := by
  unfold f_X5_addRandomStops_b48 at h
  cases h
  exact k_throw (k := 1) (text := "seed, up, down or number is out of range") C X hP hS rfl (by decide) q_X5_addRandomStops_10 q_X5_addRandomStops_11 (List.mem_of_getElem? (i := 6) rfl) (fun w h => List.mem_cons_of_mem _ (List.mem_append_left _ (List.mem_append_left _ (List.mem_append_right _ h)))) tw_45 tg_45 hl.1 dX5_addRandomStops_48 dX5_addRandomStops_51 dX5_addRandomStops_52 dX5_addRandomStops_54 dX5_addRandomStops_57 (Nat.le_of_ble_eq_true rfl) (Nat.le_of_ble_eq_true rfl) (Nat.le_of_ble_eq_true rfl) (Nat.le_of_ble_eq_true rfl) (by omega) (by omega)
set_option maxRecDepth 100000 in
set_option maxHeartbeats 4000000 in
theorem w_X5_addRandomStops_b195 {res : Sum (Int32 × (Nat → SL) × SL) Nat} (C : Cx p s m args meth c cX5_addRandomStops 11 (some .int) RX5 wsX5_addRandomStops) (G : Gx D cs ad s) {XC : String → State → State → Prop} {T : SL} {Ls : Nat → SL} {Hs : SL} {H : Heap} {locs : List Loc} {ls : Array Slot} (hP : va_P D vwCl (wA cs ad Ls Hs T) H) (hS : va_S (Afr ad s.heap.size) s.heap H locs) (hl : lv_has ls 11 [(0, .ref (ad 0))]) (h : f_X5_addRandomStops_b195 Ls Hs = some res) : W p l e rmX5_addRandomStops s m args below meth c H locs 2 12 (vx_MQ below (va_Qi (fun r' (u : Int32 × (Nat → SL) × SL) => res = Sum.inl u ∧ r' = u.1) (fun (u : Int32 × (Nat → SL) × SL) t => va_P D vwCl (wA cs ad u.2.1 u.2.2 T) t.heap) (Afr ad s.heap.size)) XC args s 2 12 (Afr ad s.heap.size)) (F0 m 195 ls []) := by
  unfold f_X5_addRandomStops_b195 at h
  refine lv_aload_n C.1 C.2.1 dX5_addRandomStops_195 rfl (lv_at hl 0 rfl) ?_
  refine k_getf C G hP g_obj rfl 0 (by decide) n_X5_addRandomStops_X5 q_X5_addRandomStops_1 (v := .ref (ad (5 + 14 * 0 + 0))) rfl dX5_addRandomStops_196 ?_
  refine k_getfN C G hP (c_obj (i := 0) (by decide)) rfl 1 (by decide) n_X5_addRandomStops_X2 (List.mem_of_getElem? (i := 2) rfl) (v := .ref (ad (5 + 14 * 0 + 10))) rfl dX5_addRandomStops_199 ?_
  obtain ⟨v1, ev1, h⟩ := lt_out h
  refine k_getiN C G hP (c_sto (i := 0) (by decide)) rfl 3 (by decide) n_X5_addRandomStops_X4 (List.mem_of_getElem? (i := 0) rfl) rfl ev1 dX5_addRandomStops_202 ?_
  cases h
  refine W.widen (k := 2) (n := 12) (by omega) (by omega) ?_
  exact k_iretX C hP hS rfl rfl rfl dX5_addRandomStops_205
set_option maxRecDepth 100000 in
set_option maxHeartbeats 4000000 in
theorem w_X5_addRandomStops_b119 {res : Sum (Int32 × (Nat → SL) × SL) Nat} (C : Cx p s m args meth c cX5_addRandomStops 11 (some .int) RX5 wsX5_addRandomStops) (G : Gx D cs ad s) {XC : String → State → State → Prop} {T : SL} {K119 : (Nat → SL) → SL → Int32 → Int32 → Int32 → Int32 → Int32 → Int32 → Int64 → Option (Sum (Int32 × (Nat → SL) × SL) Nat)} (hK119 : ∀ {Ls : Nat → SL} {Hs : SL} {x1 : Int32} {x3 : Int32} {x4 : Int32} {x5 : Int32} {x7 : Int32} {x8 : Int32} {dw : Int64} {qd : Nat} {H : Heap} {locs : List Loc} {ls : Array Slot}, va_P D vwCl (wA cs ad Ls Hs T) H → va_S (Afr ad s.heap.size) s.heap H locs → lv_has ls 11 [(0, .ref (ad 0)), (1, .int x1), (3, .int x3), (4, .int x4), (5, .int x5), (6, .ref (qd)), (7, .int x7), (8, .int x8)] → isqd ad s.heap.size qd → va_P D vwCl (wD qd dw) H → K119 Ls Hs x1 x3 x4 x5 x7 x8 dw = some res → W p l e rmX5_addRandomStops s m args below meth c H locs 2 12 (vx_MQ below (va_Qi (fun r' (u : Int32 × (Nat → SL) × SL) => res = Sum.inl u ∧ r' = u.1) (fun (u : Int32 × (Nat → SL) × SL) t => va_P D vwCl (wA cs ad u.2.1 u.2.2 T) t.heap) (Afr ad s.heap.size)) XC args s 2 12 (Afr ad s.heap.size)) (F0 m 119 ls [])) {Ls : Nat → SL} {Hs : SL} {x1 : Int32} {x3 : Int32} {x4 : Int32} {x5 : Int32} {x7 : Int32} {x8 : Int32} {dw : Int64} {qd : Nat} {H : Heap} {locs : List Loc} {ls : Array Slot} (hP : va_P D vwCl (wA cs ad Ls Hs T) H) (hS : va_S (Afr ad s.heap.size) s.heap H locs) (hl : lv_has ls 11 [(0, .ref (ad 0)), (1, .int x1), (3, .int x3), (4, .int x4), (5, .int x5), (6, .ref (qd)), (7, .int x7), (8, .int x8)]) (hqd : isqd ad s.heap.size qd) (hQ : va_P D vwCl (wD qd dw) H) (h : f_X5_addRandomStops_b119 K119 Ls Hs x1 x3 x4 x5 x7 x8 dw = some res) : W p l e rmX5_addRandomStops s m args below meth c H locs 2 12 (vx_MQ below (va_Qi (fun r' (u : Int32 × (Nat → SL) × SL) => res = Sum.inl u ∧ r' = u.1) (fun (u : Int32 × (Nat → SL) × SL) t => va_P D vwCl (wA cs ad u.2.1 u.2.2 T) t.heap) (Afr ad s.heap.size)) XC args s 2 12 (Afr ad s.heap.size)) (F0 m 119 ls []) := by
  unfold f_X5_addRandomStops_b119 at h
  refine lv_iload C.1 C.2.1 dX5_addRandomStops_119 (lv_at hl 7 rfl) ?_
  refine lv_iload C.1 C.2.1 dX5_addRandomStops_121 (lv_at hl 4 rfl) ?_
  refine lv_icmp_ge (tgt := 195) C.1 C.2.1 dX5_addRandomStops_123 (by decide) (fun c1 => ?_) (fun c1 => ?_)
  · have h := if_t c1 h
    refine W.widen (k := 2) (n := 12) (by omega) (by omega) ?_
    exact w_X5_addRandomStops_b195 C G hP hS (lv_sub hl [0] rfl) h
  · have h := if_f c1 h
    refine lv_iload C.1 C.2.1 dX5_addRandomStops_126 (lv_at hl 6 rfl) ?_
    refine lv_iconst (v := 1) C.1 C.2.1 dX5_addRandomStops_128 (by decide) ?_
    obtain ⟨v2, ev2, h⟩ := lt_out h
    refine k_iadd C ev2 dX5_addRandomStops_129 ?_
    refine lv_aload C.1 C.2.1 dX5_addRandomStops_130 (lv_at hl 5 rfl) ?_
    refine lv_iconst (v := 2) C.1 C.2.1 dX5_addRandomStops_132 (by decide) ?_
    refine lv_iload_n C.1 C.2.1 dX5_addRandomStops_133 rfl (lv_at hl 2 rfl) ?_
    obtain ⟨v3, ev3, h⟩ := lt_out h
    refine k_imul C ev3 dX5_addRandomStops_134 ?_
    obtain ⟨r4, w5, c6, h⟩ := bd2_out h
    refine k_callD C G hP hS hqd hQ c6 gX5_addRandomStops_X0_drawBelow hl.1 (Nat.le_of_ble_eq_true rfl) ⟨Nat.le_of_ble_eq_true rfl, Nat.le_of_ble_eq_true rfl⟩ ⟨Nat.le_of_ble_eq_true rfl, Nat.le_of_ble_eq_true rfl⟩ dX5_addRandomStops_135 (fun H locs hP hQ hS => ?_)
    obtain ⟨v7, ev7, h⟩ := lt_out h
    refine k_iadd C ev7 dX5_addRandomStops_138 ?_
    refine lv_istore (lv' := [(9, .int v7), (0, .ref (ad 0)), (1, .int x1), (3, .int x3), (4, .int x4), (5, .int x5), (6, .ref (qd)), (7, .int x7), (8, .int x8)]) C.1 C.2.1 dX5_addRandomStops_139 hl (by decide) rfl (fun ls hl => ?_)
    refine lv_iconst (v := 1) C.1 C.2.1 dX5_addRandomStops_141 (by decide) ?_
    refine lv_aload C.1 C.2.1 dX5_addRandomStops_142 (lv_at hl 6 rfl) ?_
    refine lv_iconst (v := 2) C.1 C.2.1 dX5_addRandomStops_144 (by decide) ?_
    refine lv_iload C.1 C.2.1 dX5_addRandomStops_145 (lv_at hl 4 rfl) ?_
    obtain ⟨v8, ev8, h⟩ := lt_out h
    refine k_imul C ev8 dX5_addRandomStops_147 ?_
    obtain ⟨r9, w10, c11, h⟩ := bd2_out h
    refine k_callD C G hP hS hqd hQ c11 gX5_addRandomStops_X0_drawBelow hl.1 (Nat.le_of_ble_eq_true rfl) ⟨Nat.le_of_ble_eq_true rfl, Nat.le_of_ble_eq_true rfl⟩ ⟨Nat.le_of_ble_eq_true rfl, Nat.le_of_ble_eq_true rfl⟩ dX5_addRandomStops_148 (fun H locs hP hQ hS => ?_)
    obtain ⟨v12, ev12, h⟩ := lt_out h
    refine k_iadd C ev12 dX5_addRandomStops_151 ?_
    refine lv_istore (lv' := [(10, .int v12), (9, .int v7), (0, .ref (ad 0)), (1, .int x1), (3, .int x3), (4, .int x4), (5, .int x5), (6, .ref (qd)), (7, .int x7), (8, .int x8)]) C.1 C.2.1 dX5_addRandomStops_152 hl (by decide) rfl (fun ls hl => ?_)
    refine lv_iload C.1 C.2.1 dX5_addRandomStops_154 (lv_at hl 1 rfl) ?_
    refine lv_sipush (v := 10000) C.1 C.2.1 dX5_addRandomStops_156 (by decide) ?_
    refine lv_icmp_le (tgt := 165) C.1 C.2.1 dX5_addRandomStops_159 (by decide) (fun c13 => ?_) (fun c13 => ?_)
    · have h := if_t c13 h
      refine lv_aload_n C.1 C.2.1 dX5_addRandomStops_165 rfl (lv_at hl 2 rfl) ?_
      refine k_getf C G hP g_obj rfl 0 (by decide) n_X5_addRandomStops_X5 q_X5_addRandomStops_1 (v := .ref (ad (5 + 14 * 0 + 0))) rfl dX5_addRandomStops_166 ?_
      refine k_getfN C G hP (c_obj (i := 0) (by decide)) rfl 1 (by decide) n_X5_addRandomStops_X2 (List.mem_of_getElem? (i := 2) rfl) (v := .ref (ad (5 + 14 * 0 + 10))) rfl dX5_addRandomStops_169 ?_
      refine lv_iload_n C.1 C.2.1 dX5_addRandomStops_172 rfl (lv_at hl 3 rfl) ?_
      refine lv_iload C.1 C.2.1 dX5_addRandomStops_173 (lv_at hl 1 rfl) ?_
      refine lv_iload C.1 C.2.1 dX5_addRandomStops_175 (lv_at hl 0 rfl) ?_
      obtain ⟨L14, c15, h⟩ := bd_out h
      have hP := up_in (i := 0) hP
      refine k_callVvD C G hP hS hqd hQ (m_X4_plan l G.2.1 _ (i := 0) (by decide) c15) (v_sto (i := 0) (by decide)) rfl (cwV 3 C.2.2.2.2.2.1 gX5_addRandomStops_X4_plan rfl rfl rfl (by decide +kernel) ⟨Nat.le_of_ble_eq_true rfl, Nat.le_of_ble_eq_true rfl⟩) (As := [.int x1, .int v7, .int v12]) rfl hl.1 rfl (Nat.le_of_ble_eq_true rfl) dX5_addRandomStops_177 ⟨Nat.le_of_ble_eq_true rfl, Nat.le_of_ble_eq_true rfl⟩ (fun H locs hP hQ hS => ?_)
      obtain ⟨Ls16, eLs16, h⟩ := lt_out h
      rw [← eLs16] at hP
      refine lv_iload C.1 C.2.1 dX5_addRandomStops_180 (lv_at hl 1 rfl) ?_
      refine lv_iload C.1 C.2.1 dX5_addRandomStops_182 (lv_at hl 0 rfl) ?_
      obtain ⟨v17, ev17, h⟩ := lt_out h
      refine k_iadd C ev17 dX5_addRandomStops_184 ?_
      refine lv_iconst (v := 1) C.1 C.2.1 dX5_addRandomStops_185 (by decide) ?_
      obtain ⟨v18, ev18, h⟩ := lt_out h
      refine k_isub C ev18 dX5_addRandomStops_186 ?_
      refine lv_istore (lv' := [(7, .int v18), (10, .int v12), (9, .int v7), (0, .ref (ad 0)), (1, .int x1), (3, .int x3), (4, .int x4), (5, .int x5), (6, .ref (qd)), (8, .int x8)]) C.1 C.2.1 dX5_addRandomStops_187 hl (by decide) rfl (fun ls hl => ?_)
      obtain ⟨z19, ez19, h⟩ := lt_out h
      refine lv_iinc (v := z19) (lv' := [(8, .int z19), (7, .int v18), (10, .int v12), (9, .int v7), (0, .ref (ad 0)), (1, .int x1), (3, .int x3), (4, .int x4), (5, .int x5), (6, .ref (qd))]) C.1 C.2.1 dX5_addRandomStops_189 hl (k := 9) rfl (by rw [ez19]; rfl) (by decide) rfl (fun ls hl => ?_)
      refine lv_goto (tgt := 119) C.1 C.2.1 dX5_addRandomStops_192 (by decide) ?_
      refine W.widen (k := 2) (n := 12) (by omega) (by omega) ?_
      exact hK119 hP hS (lv_sub hl [4, 5, 6, 7, 8, 9, 1, 0] rfl)  hqd hQ h
    · have h := if_f c13 h
      refine lv_goto (tgt := 195) C.1 C.2.1 dX5_addRandomStops_162 (by decide) ?_
      refine W.widen (k := 2) (n := 12) (by omega) (by omega) ?_
      exact w_X5_addRandomStops_b195 C G hP hS (lv_sub hl [2] rfl) h
set_option maxRecDepth 100000 in
set_option maxHeartbeats 4000000 in
theorem w_X5_addRandomStops_h119 {res : Sum (Int32 × (Nat → SL) × SL) Nat} (C : Cx p s m args meth c cX5_addRandomStops 11 (some .int) RX5 wsX5_addRandomStops) (G : Gx D cs ad s) {XC : String → State → State → Prop} {T : SL} : ∀ (n : Nat) {Ls : Nat → SL} {Hs : SL} {x1 : Int32} {x3 : Int32} {x4 : Int32} {x5 : Int32} {x7 : Int32} {x8 : Int32} {dw : Int64} {qd : Nat} {H : Heap} {locs : List Loc} {ls : Array Slot}, va_P D vwCl (wA cs ad Ls Hs T) H → va_S (Afr ad s.heap.size) s.heap H locs → lv_has ls 11 [(0, .ref (ad 0)), (1, .int x1), (3, .int x3), (4, .int x4), (5, .int x5), (6, .ref (qd)), (7, .int x7), (8, .int x8)] → isqd ad s.heap.size qd → va_P D vwCl (wD qd dw) H → f_X5_addRandomStops_h119 n Ls Hs x1 x3 x4 x5 x7 x8 dw = some res → W p l e rmX5_addRandomStops s m args below meth c H locs 2 12 (vx_MQ below (va_Qi (fun r' (u : Int32 × (Nat → SL) × SL) => res = Sum.inl u ∧ r' = u.1) (fun (u : Int32 × (Nat → SL) × SL) t => va_P D vwCl (wA cs ad u.2.1 u.2.2 T) t.heap) (Afr ad s.heap.size)) XC args s 2 12 (Afr ad s.heap.size)) (F0 m 119 ls []) := by
  intro n
  induction n with
  | zero => intro Ls Hs x1 x3 x4 x5 x7 x8 dw qd H locs ls hP hS hl  hqd hQ h; cases h
  | succ n ih => intro Ls Hs x1 x3 x4 x5 x7 x8 dw qd H locs ls hP hS hl  hqd hQ h; exact w_X5_addRandomStops_b119 C G    ih hP hS hl  hqd hQ h
set_option maxRecDepth 100000 in
set_option maxHeartbeats 4000000 in
theorem w_X5_addRandomStops_e {res : Sum (Int32 × (Nat → SL) × SL) Nat} (C : Cx p s m args meth c cX5_addRandomStops 11 (some .int) RX5 wsX5_addRandomStops) (G : Gx D cs ad s) (X : Tx l c ad s) {T : SL} {Ls : Nat → SL} {Hs : SL} {x1 : Int32} {x2 : Int32} {x3 : Int32} {x4 : Int32} {x5 : Int32} {H : Heap} {locs : List Loc} {ls : Array Slot} (hP : va_P D vwCl (wA cs ad Ls Hs T) H) (hS : va_S (Afr ad s.heap.size) s.heap H locs) (hl : lv_has ls 11 [(0, .ref (ad 0)), (1, .int x1), (2, .int x2), (3, .int x3), (4, .int x4), (5, .int x5)]) (h : f_X5_addRandomStops Ls Hs x1 x2 x3 x4 x5 = some res) : W p l e rmX5_addRandomStops s m args below meth c H locs 0 0 (vx_MQ below (va_Qi (fun r' (u : Int32 × (Nat → SL) × SL) => res = Sum.inl u ∧ r' = u.1) (fun (u : Int32 × (Nat → SL) × SL) t => va_P D vwCl (wA cs ad u.2.1 u.2.2 T) t.heap) (Afr ad s.heap.size)) (vx_X (fun k : Nat => res = Sum.inr k) (fun E k t => E = exN k ∧ va_P D vwCl (wA cs ad Ls Hs T) t.heap) (Afr ad s.heap.size)) args s 2 12 (Afr ad s.heap.size)) (F0 m 0 ls []) := by
  unfold f_X5_addRandomStops at h
  refine lv_aload_n C.1 C.2.1 dX5_addRandomStops_0 rfl (lv_at hl 0 rfl) ?_
  refine lv_iload_n C.1 C.2.1 dX5_addRandomStops_1 rfl (lv_at hl 1 rfl) ?_
  obtain ⟨r1, c2, h⟩ := bd_out h
  refine k_callXVv C G X.2.2 hP hS (m_X5_needMachine l X.1 G.2.1 _ c2) g_obj rfl (cwV 1 C.2.2.2.2.2.1 gX5_addRandomStops_X5_needMachine rfl rfl rfl (by decide +kernel) ⟨Nat.le_of_ble_eq_true rfl, Nat.le_of_ble_eq_true rfl⟩) (As := [.int x1]) rfl hl.1 rfl (Nat.le_of_ble_eq_true rfl) dX5_addRandomStops_2 ⟨Nat.le_of_ble_eq_true rfl, Nat.le_of_ble_eq_true rfl⟩ (fun k E ce q9 H locs er hE hP hS hcell hv hcl => ?_) (fun H locs u er hP hS => ?_)
  · subst er
    have h : some (Sum.inr k) = some res := h
    cases h
    exact k_out C X hP hS rfl hE hcell hv hcl (by omega) (by omega)
  subst er
  have h := sx_l h
  refine lv_iload_n C.1 C.2.1 dX5_addRandomStops_5 rfl (lv_at hl 2 rfl) ?_
  refine lv_iconst (v := 0) C.1 C.2.1 dX5_addRandomStops_6 (by decide) ?_
  refine k_ldci C G q_X5_addRandomStops_0 dX5_addRandomStops_7 ?_
  obtain ⟨r3, c4, h⟩ := bd_out h
  refine k_callSi C G hP hS (m_X5_isIn l G.2.1 _  c4) (va_cwS 3 C.2.2.2.2.2.1 gX5_addRandomStops_X5_isIn rfl rfl rfl (by decide +kernel) ⟨Nat.le_of_ble_eq_true rfl, Nat.le_of_ble_eq_true rfl⟩) (As := [.int x2, .int 0, .int 999999]) rfl hl.1 rfl (Nat.le_of_ble_eq_true rfl) dX5_addRandomStops_9 ⟨Nat.le_of_ble_eq_true rfl, Nat.le_of_ble_eq_true rfl⟩ (fun H locs hP hS => ?_)
  refine lv_if_eq (tgt := 48) C.1 C.2.1 dX5_addRandomStops_12 (by decide) (fun c5 => ?_) (fun c5 => ?_)
  · have h := if_t c5 h
    refine W.widen (k := 1) (n := 6) (by omega) (by omega) ?_
    exact w_X5_addRandomStops_b48 C G X hP hS (lv_sub hl [] rfl) h
  · have h := if_f c5 h
    refine lv_iload_n C.1 C.2.1 dX5_addRandomStops_15 rfl (lv_at hl 3 rfl) ?_
    refine lv_iconst (v := 1) C.1 C.2.1 dX5_addRandomStops_16 (by decide) ?_
    refine lv_sipush (v := 500) C.1 C.2.1 dX5_addRandomStops_17 (by decide) ?_
    obtain ⟨r6, c7, h⟩ := bd_out h
    refine k_callSi C G hP hS (m_X5_isIn l G.2.1 _  c7) (va_cwS 3 C.2.2.2.2.2.1 gX5_addRandomStops_X5_isIn rfl rfl rfl (by decide +kernel) ⟨Nat.le_of_ble_eq_true rfl, Nat.le_of_ble_eq_true rfl⟩) (As := [.int x3, .int 1, .int 500]) rfl hl.1 rfl (Nat.le_of_ble_eq_true rfl) dX5_addRandomStops_20 ⟨Nat.le_of_ble_eq_true rfl, Nat.le_of_ble_eq_true rfl⟩ (fun H locs hP hS => ?_)
    refine lv_if_eq (tgt := 48) C.1 C.2.1 dX5_addRandomStops_23 (by decide) (fun c8 => ?_) (fun c8 => ?_)
    · have h := if_t c8 h
      refine W.widen (k := 1) (n := 6) (by omega) (by omega) ?_
      exact w_X5_addRandomStops_b48 C G X hP hS (lv_sub hl [] rfl) h
    · have h := if_f c8 h
      refine lv_iload C.1 C.2.1 dX5_addRandomStops_26 (lv_at hl 4 rfl) ?_
      refine lv_iconst (v := 1) C.1 C.2.1 dX5_addRandomStops_28 (by decide) ?_
      refine lv_bipush (v := 100) C.1 C.2.1 dX5_addRandomStops_29 (by decide) ?_
      obtain ⟨r9, c10, h⟩ := bd_out h
      refine k_callSi C G hP hS (m_X5_isIn l G.2.1 _  c10) (va_cwS 3 C.2.2.2.2.2.1 gX5_addRandomStops_X5_isIn rfl rfl rfl (by decide +kernel) ⟨Nat.le_of_ble_eq_true rfl, Nat.le_of_ble_eq_true rfl⟩) (As := [.int x4, .int 1, .int 100]) rfl hl.1 rfl (Nat.le_of_ble_eq_true rfl) dX5_addRandomStops_31 ⟨Nat.le_of_ble_eq_true rfl, Nat.le_of_ble_eq_true rfl⟩ (fun H locs hP hS => ?_)
      refine lv_if_eq (tgt := 48) C.1 C.2.1 dX5_addRandomStops_34 (by decide) (fun c11 => ?_) (fun c11 => ?_)
      · have h := if_t c11 h
        refine W.widen (k := 1) (n := 6) (by omega) (by omega) ?_
        exact w_X5_addRandomStops_b48 C G X hP hS (lv_sub hl [] rfl) h
      · have h := if_f c11 h
        refine lv_iload C.1 C.2.1 dX5_addRandomStops_37 (lv_at hl 5 rfl) ?_
        refine lv_iconst (v := 1) C.1 C.2.1 dX5_addRandomStops_39 (by decide) ?_
        refine lv_bipush (v := 40) C.1 C.2.1 dX5_addRandomStops_40 (by decide) ?_
        obtain ⟨r12, c13, h⟩ := bd_out h
        refine k_callSi C G hP hS (m_X5_isIn l G.2.1 _  c13) (va_cwS 3 C.2.2.2.2.2.1 gX5_addRandomStops_X5_isIn rfl rfl rfl (by decide +kernel) ⟨Nat.le_of_ble_eq_true rfl, Nat.le_of_ble_eq_true rfl⟩) (As := [.int x5, .int 1, .int 40]) rfl hl.1 rfl (Nat.le_of_ble_eq_true rfl) dX5_addRandomStops_42 ⟨Nat.le_of_ble_eq_true rfl, Nat.le_of_ble_eq_true rfl⟩ (fun H locs hP hS => ?_)
        refine lv_if_ne (tgt := 58) C.1 C.2.1 dX5_addRandomStops_45 (by decide) (fun c14 => ?_) (fun c14 => ?_)
        · have h := if_t c14 h
          refine lv_aload_n C.1 C.2.1 dX5_addRandomStops_58 rfl (lv_at hl 0 rfl) ?_
          refine k_getf C G hP g_obj rfl 0 (by decide) n_X5_addRandomStops_X5 q_X5_addRandomStops_1 (v := .ref (ad (5 + 14 * 0 + 0))) rfl dX5_addRandomStops_59 ?_
          refine k_getfN C G hP (c_obj (i := 0) (by decide)) rfl 1 (by decide) n_X5_addRandomStops_X2 (List.mem_of_getElem? (i := 2) rfl) (v := .ref (ad (5 + 14 * 0 + 10))) rfl dX5_addRandomStops_62 ?_
          obtain ⟨v15, ev15, h⟩ := lt_out h
          refine k_getiN C G hP (c_sto (i := 0) (by decide)) rfl 3 (by decide) n_X5_addRandomStops_X4 (List.mem_of_getElem? (i := 0) rfl) rfl ev15 dX5_addRandomStops_65 ?_
          refine lv_iload C.1 C.2.1 dX5_addRandomStops_68 (lv_at hl 5 rfl) ?_
          obtain ⟨v16, ev16, h⟩ := lt_out h
          refine k_iadd C ev16 dX5_addRandomStops_70 ?_
          refine lv_bipush (v := 40) C.1 C.2.1 dX5_addRandomStops_71 (by decide) ?_
          refine lv_icmp_le (tgt := 86) C.1 C.2.1 dX5_addRandomStops_73 (by decide) (fun c17 => ?_) (fun c17 => ?_)
          · have h := if_t c17 h
            refine lv_aload_n C.1 C.2.1 dX5_addRandomStops_86 rfl (lv_at hl 0 rfl) ?_
            refine k_getf C G hP g_obj rfl 2 (by decide) n_X5_addRandomStops_X5 q_X5_addRandomStops_2 (v := .ref (ad 1)) rfl dX5_addRandomStops_87 ?_
            refine lv_aload_n C.1 C.2.1 dX5_addRandomStops_90 rfl (lv_at hl 0 rfl) ?_
            refine k_getf C G hP g_obj rfl 0 (by decide) n_X5_addRandomStops_X5 q_X5_addRandomStops_1 (v := .ref (ad (5 + 14 * 0 + 0))) rfl dX5_addRandomStops_91 ?_
            obtain ⟨Ls18, Hs19, c20, h⟩ := bd2_out h
            refine k_callVv C G hP hS (m_X1_keep l G.2.1 _ (i := 0) (by decide) c20) g_his rfl (cwV 1 C.2.2.2.2.2.1 gX5_addRandomStops_X1_keep rfl rfl rfl (by decide +kernel) ⟨Nat.le_of_ble_eq_true rfl, Nat.le_of_ble_eq_true rfl⟩) (As := [.ref (ad (5 + 14 * 0 + 0))]) rfl hl.1 rfl (Nat.le_of_ble_eq_true rfl) dX5_addRandomStops_94 ⟨Nat.le_of_ble_eq_true rfl, Nat.le_of_ble_eq_true rfl⟩ (fun H locs hP hS => ?_)
            refine k_newD C G hP hS n_X5_addRandomStops_X0 q_X5_addRandomStops_3 q_X5_addRandomStops_4 q_X5_addRandomStops_5 (Nat.le_of_ble_eq_true rfl) (Nat.le_of_ble_eq_true rfl) dX5_addRandomStops_97 (fun qd H hqd hP hQ hS => ?_)
            refine lv_dup C.1 C.2.1 dX5_addRandomStops_100 rfl ?_
            refine lv_iload_n C.1 C.2.1 dX5_addRandomStops_101 rfl (lv_at hl 2 rfl) ?_
            obtain ⟨w21, ew21, h⟩ := lt_out h
            refine k_initD C G hP hS hqd hQ (x1 := x2) gX5_addRandomStops_X0_init q_X5_addRandomStops_5 q_X5_addRandomStops_6 q_X5_addRandomStops_7 hl.1 (Nat.le_of_ble_eq_true rfl) ⟨Nat.le_of_ble_eq_true rfl, Nat.le_of_ble_eq_true rfl⟩ ⟨Nat.le_of_ble_eq_true rfl, Nat.le_of_ble_eq_true rfl⟩ dX5_addRandomStops_102 (fun H locs hP hQ hS => ?_)
            rw [← ew21] at hQ
            refine lv_astore (lv' := [(6, .ref (qd)), (0, .ref (ad 0)), (1, .int x1), (2, .int x2), (3, .int x3), (4, .int x4), (5, .int x5)]) C.1 C.2.1 dX5_addRandomStops_105 hl (by decide) rfl (fun ls hl => ?_)
            refine lv_aload_n C.1 C.2.1 dX5_addRandomStops_107 rfl (lv_at hl 1 rfl) ?_
            refine k_getf C G hP g_obj rfl 0 (by decide) n_X5_addRandomStops_X5 q_X5_addRandomStops_1 (v := .ref (ad (5 + 14 * 0 + 0))) rfl dX5_addRandomStops_108 ?_
            obtain ⟨v22, ev22, h⟩ := lt_out h
            refine k_getiN C G hP (c_obj (i := 0) (by decide)) rfl 3 (by decide) n_X5_addRandomStops_X2 (List.mem_of_getElem? (i := 4) rfl) rfl ev22 dX5_addRandomStops_111 ?_
            refine lv_istore (lv' := [(7, .int v22), (6, .ref (qd)), (0, .ref (ad 0)), (1, .int x1), (2, .int x2), (3, .int x3), (4, .int x4), (5, .int x5)]) C.1 C.2.1 dX5_addRandomStops_114 hl (by decide) rfl (fun ls hl => ?_)
            refine lv_iconst (v := 0) C.1 C.2.1 dX5_addRandomStops_116 (by decide) ?_
            refine lv_istore (lv' := [(8, .int 0), (7, .int v22), (6, .ref (qd)), (0, .ref (ad 0)), (1, .int x1), (2, .int x2), (3, .int x3), (4, .int x4), (5, .int x5)]) C.1 C.2.1 dX5_addRandomStops_117 hl (by decide) rfl (fun ls hl => ?_)
            refine W.widen (k := 2) (n := 12) (by omega) (by omega) ?_
            exact w_X5_addRandomStops_h119 C G fuel hP hS (lv_sub hl [3, 4, 6, 7, 8, 2, 1, 0] rfl) hqd hQ h
          · have h := if_f c17 h
            cases h
            exact k_throw (k := 2) (text := "so many stops cannot be planned") C X hP hS rfl (by decide) q_X5_addRandomStops_8 q_X5_addRandomStops_9 (List.mem_of_getElem? (i := 7) rfl) (fun w h => List.mem_cons_of_mem _ (List.mem_append_left _ (List.mem_append_right _ h))) tw_59 tg_59 hl.1 dX5_addRandomStops_76 dX5_addRandomStops_79 dX5_addRandomStops_80 dX5_addRandomStops_82 dX5_addRandomStops_85 (Nat.le_of_ble_eq_true rfl) (Nat.le_of_ble_eq_true rfl) (Nat.le_of_ble_eq_true rfl) (Nat.le_of_ble_eq_true rfl) (by omega) (by omega)
        · have h := if_n c14 h
          refine W.widen (k := 1) (n := 6) (by omega) (by omega) ?_
          exact w_X5_addRandomStops_b48 C G X hP hS (lv_sub hl [] rfl) h
set_option maxRecDepth 100000 in
set_option maxHeartbeats 4000000 in
theorem m_X5_addRandomStops (l : Launch) (hfl : l.stackTraces = false) {D : va_G} {cs : Nat → ClassId} {ad : Nat → Nat} (hAd : adOK ad) (sz : Nat) {Ls : Nat → SL} {Hs : SL} {T : SL} {x1 : Int32} {x2 : Int32} {x3 : Int32} {x4 : Int32} {x5 : Int32} {res : Sum (Int32 × (Nat → SL) × SL) Nat} (h : f_X5_addRandomStops Ls Hs x1 x2 x3 x4 x5 = some res) : vx_Met l yX5_addRandomStops wsX5_addRandomStops rmX5_addRandomStops (PX D cs ad sz (wA cs ad Ls Hs T) [.ref (ad 0), .int x1, .int x2, .int x3, .int x4, .int x5]) (va_Qi (fun r' (u : Int32 × (Nat → SL) × SL) => res = Sum.inl u ∧ r' = u.1) (fun (u : Int32 × (Nat → SL) × SL) t => va_P D vwCl (wA cs ad u.2.1 u.2.2 T) t.heap) (Afr ad sz)) (vx_X (fun k : Nat => res = Sum.inr k) (fun E k t => E = exN k ∧ va_P D vwCl (wA cs ad Ls Hs T) t.heap) (Afr ad sz)) 2 12 (Afr ad sz) :=
  k_metX hfl (by decide) rfl (Nat.le_of_ble_eq_true rfl) hAd (fun p e s m below meth c ls C G X hP hsz hl hS => by
    subst hsz
    exact w_X5_addRandomStops_e C G X  hP hS hl  h)
/-! X5 clearStops -/
abbrev rmX5_clearStops : Room := { frames := 4, cells := 0, slots := 0, locals := 113 }
theorem q_X5_clearStops_0 : Cond.fieldLink RX5 22 "LineBuffers" "history" "LLineBuffers$History;" ∈ wsX5_clearStops := List.mem_of_getElem? (i := 1) rfl
theorem q_X5_clearStops_1 : Cond.fieldLink RX5 10 "LineBuffers" "line" "LLineBuffers$Line;" ∈ wsX5_clearStops := List.mem_of_getElem? (i := 2) rfl
theorem n_X5_clearStops_X5 : ∀ x ∈ u_ws RX5 TX5 4, x ∈ wsX5_clearStops := fun x h => List.mem_cons_of_mem _ (List.mem_append_left _ (List.mem_append_left _ (List.mem_append_left _ (List.mem_append_right _ h))))
theorem n_X5_clearStops_X2 : ∀ x ∈ u_ws RX2 TX2 4, x ∈ wsX5_clearStops := fun x h => List.mem_cons_of_mem _ (List.mem_append_left _ (List.mem_append_left _ (List.mem_append_right _ h)))
set_option maxRecDepth 100000 in
set_option maxHeartbeats 4000000 in
theorem w_X5_clearStops_e {res : Int32 × (Nat → SL) × SL} (C : Cx p s m args meth c cX5_clearStops 1 (some .int) RX5 wsX5_clearStops) (G : Gx D cs ad s) {T : SL} {Ls : Nat → SL} {Hs : SL} {H : Heap} {locs : List Loc} {ls : Array Slot} (hP : va_P D vwCl (wA cs ad Ls Hs T) H) (hS : va_S (Afr ad s.heap.size) s.heap H locs) (hl : lv_has ls 1 [(0, .ref (ad 0))]) (h : f_X5_clearStops Ls Hs = some res) : W p l e rmX5_clearStops s m args below meth c H locs 0 0 (MQ below (va_Qi (fun r' (_ : Unit) => r' = res.1) (fun _ t => va_P D vwCl (wA cs ad res.2.1 res.2.2 T) t.heap) (Afr ad s.heap.size)) args s 0 0 (Afr ad s.heap.size)) (F0 m 0 ls []) := by
  unfold f_X5_clearStops at h
  refine lv_aload_n C.1 C.2.1 dX5_clearStops_0 rfl (lv_at hl 0 rfl) ?_
  refine k_getf C G hP g_obj rfl 2 (by decide) n_X5_clearStops_X5 q_X5_clearStops_0 (v := .ref (ad 1)) rfl dX5_clearStops_1 ?_
  refine lv_aload_n C.1 C.2.1 dX5_clearStops_4 rfl (lv_at hl 0 rfl) ?_
  refine k_getf C G hP g_obj rfl 0 (by decide) n_X5_clearStops_X5 q_X5_clearStops_1 (v := .ref (ad (5 + 14 * 0 + 0))) rfl dX5_clearStops_5 ?_
  obtain ⟨Ls1, Hs2, c3, h⟩ := bd2_out h
  refine k_callVv C G hP hS (m_X1_keep l G.2.1 _ (i := 0) (by decide) c3) g_his rfl (cwV 1 C.2.2.2.2.2.1 gX5_clearStops_X1_keep rfl rfl rfl (by decide +kernel) ⟨Nat.le_of_ble_eq_true rfl, Nat.le_of_ble_eq_true rfl⟩) (As := [.ref (ad (5 + 14 * 0 + 0))]) rfl hl.1 rfl (Nat.le_of_ble_eq_true rfl) dX5_clearStops_8 ⟨Nat.le_of_ble_eq_true rfl, Nat.le_of_ble_eq_true rfl⟩ (fun H locs hP hS => ?_)
  refine lv_aload_n C.1 C.2.1 dX5_clearStops_11 rfl (lv_at hl 0 rfl) ?_
  refine k_getf C G hP g_obj rfl 0 (by decide) n_X5_clearStops_X5 q_X5_clearStops_1 (v := .ref (ad (5 + 14 * 0 + 0))) rfl dX5_clearStops_12 ?_
  refine k_getfN C G hP (c_obj (i := 0) (by decide)) rfl 1 (by decide) n_X5_clearStops_X2 (List.mem_of_getElem? (i := 2) rfl) (v := .ref (ad (5 + 14 * 0 + 10))) rfl dX5_clearStops_15 ?_
  refine lv_aload_n C.1 C.2.1 dX5_clearStops_18 rfl (lv_at hl 0 rfl) ?_
  refine k_getf C G hP g_obj rfl 0 (by decide) n_X5_clearStops_X5 q_X5_clearStops_1 (v := .ref (ad (5 + 14 * 0 + 0))) rfl dX5_clearStops_19 ?_
  obtain ⟨v4, ev4, h⟩ := lt_out h
  refine k_getiN C G hP (c_obj (i := 0) (by decide)) rfl 3 (by decide) n_X5_clearStops_X2 (List.mem_of_getElem? (i := 4) rfl) rfl ev4 dX5_clearStops_22 ?_
  obtain ⟨r5, L6, c7, h⟩ := bd2_out h
  have hP := up_in (i := 0) hP
  refine k_callVi C G hP hS (m_X4_dropAfter l G.2.1 _ (i := 0) (by decide) c7) (v_sto (i := 0) (by decide)) rfl (cwV 1 C.2.2.2.2.2.1 gX5_clearStops_X4_dropAfter rfl rfl rfl (by decide +kernel) ⟨Nat.le_of_ble_eq_true rfl, Nat.le_of_ble_eq_true rfl⟩) (As := [.int v4]) rfl hl.1 rfl (Nat.le_of_ble_eq_true rfl) dX5_clearStops_25 ⟨Nat.le_of_ble_eq_true rfl, Nat.le_of_ble_eq_true rfl⟩ (fun H locs hP hS => ?_)
  obtain ⟨Ls8, eLs8, h⟩ := lt_out h
  rw [← eLs8] at hP
  cases h
  exact k_iret C hP hS dX5_clearStops_28
set_option maxRecDepth 100000 in
set_option maxHeartbeats 4000000 in
theorem m_X5_clearStops (l : Launch) {D : va_G} {cs : Nat → ClassId} {ad : Nat → Nat} (hAd : adOK ad) (sz : Nat) {Ls : Nat → SL} {Hs : SL} {T : SL} {res : Int32 × (Nat → SL) × SL} (h : f_X5_clearStops Ls Hs = some res) : Met l yX5_clearStops wsX5_clearStops rmX5_clearStops (PA D cs sz (wA cs ad Ls Hs T) [.ref (ad 0)]) (va_Qi (fun r' (_ : Unit) => r' = res.1) (fun _ t => va_P D vwCl (wA cs ad res.2.1 res.2.2 T) t.heap) (Afr ad sz)) 0 0 (Afr ad sz) :=
  k_met (by decide) rfl (Nat.le_of_ble_eq_true rfl) hAd (fun p e s m below meth c ls C G hP hsz hl hS => by
    subst hsz
    exact w_X5_clearStops_e C G  hP hS hl  h)
/-! X5 size -/
abbrev rmX5_size : Room := { frames := 0, cells := 0, slots := 0, locals := 0 }
theorem q_X5_size_0 : Cond.fieldLink RX5 10 "LineBuffers" "line" "LLineBuffers$Line;" ∈ wsX5_size := List.mem_of_getElem? (i := 1) rfl
theorem n_X5_size_X5 : ∀ x ∈ u_ws RX5 TX5 4, x ∈ wsX5_size := fun x h => List.mem_cons_of_mem _ (List.mem_append_left _ (List.mem_append_left _ (List.mem_append_right _ h)))
theorem n_X5_size_X2 : ∀ x ∈ u_ws RX2 TX2 4, x ∈ wsX5_size := fun x h => List.mem_cons_of_mem _ (List.mem_append_left _ (List.mem_append_right _ h))
theorem n_X5_size_X4 : ∀ x ∈ u_ws RX4 TX4 5, x ∈ wsX5_size := fun x h => List.mem_cons_of_mem _ (List.mem_append_right _ h)
set_option maxRecDepth 100000 in
set_option maxHeartbeats 4000000 in
theorem w_X5_size_e {res : Int32} (C : Cx p s m args meth c cX5_size 2 (some .int) RX5 wsX5_size) (G : Gx D cs ad s) {Hs : SL} {T : SL} {Ls : Nat → SL} {x1 : Int32} {H : Heap} {locs : List Loc} {ls : Array Slot} (hP : va_P D vwCl (wA cs ad Ls Hs T) H) (hS : va_S (Afr ad s.heap.size) s.heap H locs) (hl : lv_has ls 2 [(0, .ref (ad 0)), (1, .int x1)]) (h : f_X5_size Ls x1 = some res) : W p l e rmX5_size s m args below meth c H locs 0 0 (MQ below (va_Qi (fun r' (_ : Unit) => r' = res) (fun _ t => va_P D vwCl (wA cs ad Ls Hs T) t.heap) (Afr ad s.heap.size)) args s 0 0 (Afr ad s.heap.size)) (F0 m 0 ls []) := by
  unfold f_X5_size at h
  refine lv_iload_n C.1 C.2.1 dX5_size_0 rfl (lv_at hl 1 rfl) ?_
  refine lv_if_eq (tgt := 17) C.1 C.2.1 dX5_size_1 (by decide) (fun c1 => ?_) (fun c1 => ?_)
  · have h := if_t c1 h
    refine lv_aload_n C.1 C.2.1 dX5_size_17 rfl (lv_at hl 0 rfl) ?_
    refine k_getf C G hP g_obj rfl 0 (by decide) n_X5_size_X5 q_X5_size_0 (v := .ref (ad (5 + 14 * 0 + 0))) rfl dX5_size_18 ?_
    obtain ⟨v2, ev2, h⟩ := lt_out h
    refine k_getiN C G hP (c_obj (i := 0) (by decide)) rfl 2 (by decide) n_X5_size_X2 (List.mem_of_getElem? (i := 3) rfl) rfl ev2 dX5_size_21 ?_
    cases h
    exact k_iret C hP hS dX5_size_24
  · have h := if_f c1 h
    refine lv_aload_n C.1 C.2.1 dX5_size_4 rfl (lv_at hl 0 rfl) ?_
    refine k_getf C G hP g_obj rfl 0 (by decide) n_X5_size_X5 q_X5_size_0 (v := .ref (ad (5 + 14 * 0 + 0))) rfl dX5_size_5 ?_
    refine k_getfN C G hP (c_obj (i := 0) (by decide)) rfl 1 (by decide) n_X5_size_X2 (List.mem_of_getElem? (i := 2) rfl) (v := .ref (ad (5 + 14 * 0 + 10))) rfl dX5_size_8 ?_
    obtain ⟨v3, ev3, h⟩ := lt_out h
    refine k_getiN C G hP (c_sto (i := 0) (by decide)) rfl 3 (by decide) n_X5_size_X4 (List.mem_of_getElem? (i := 0) rfl) rfl ev3 dX5_size_11 ?_
    refine lv_goto (tgt := 24) C.1 C.2.1 dX5_size_14 (by decide) ?_
    cases h
    exact k_iret C hP hS dX5_size_24
set_option maxRecDepth 100000 in
set_option maxHeartbeats 4000000 in
theorem m_X5_size (l : Launch) {D : va_G} {cs : Nat → ClassId} {ad : Nat → Nat} (hAd : adOK ad) (sz : Nat) {Ls : Nat → SL} {Hs : SL} {T : SL} {x1 : Int32} {res : Int32} (h : f_X5_size Ls x1 = some res) : Met l yX5_size wsX5_size rmX5_size (PA D cs sz (wA cs ad Ls Hs T) [.ref (ad 0), .int x1]) (va_Qi (fun r' (_ : Unit) => r' = res) (fun _ t => va_P D vwCl (wA cs ad Ls Hs T) t.heap) (Afr ad sz)) 0 0 (Afr ad sz) :=
  k_met (by decide) rfl (Nat.le_of_ble_eq_true rfl) hAd (fun p e s m below meth c ls C G hP hsz hl hS => by
    subst hsz
    exact w_X5_size_e C G  hP hS hl  h)
/-! X5 needWhat -/
abbrev rmX5_needWhat : Room := { frames := 6, cells := 1, slots := 6, locals := 96 }
theorem q_X5_needWhat_0 : Cond.classLink RX5 41 "java/lang/IllegalArgumentException" ∈ wsX5_needWhat := List.mem_of_getElem? (i := 1) rfl
theorem q_X5_needWhat_1 : Cond.initialized "java/lang/IllegalArgumentException" ∈ wsX5_needWhat := List.mem_of_getElem? (i := 2) rfl
set_option maxRecDepth 100000 in
set_option maxHeartbeats 4000000 in
theorem w_X5_needWhat_b9 {res : Sum (Unit) Nat} (C : Cx p s m args meth c cX5_needWhat 2 none RX5 wsX5_needWhat) (G : Gx D cs ad s) (X : Tx l c ad s) {Ls : Nat → SL} {Hs : SL} {T : SL} {H : Heap} {locs : List Loc} {ls : Array Slot} (hP : va_P D vwCl (wA cs ad Ls Hs T) H) (hS : va_S (Afr ad s.heap.size) s.heap H locs) (hl : lv_has ls 2 []) (h : f_X5_needWhat_b9 = some res) : W p l e rmX5_needWhat s m args below meth c H locs 0 0 (vx_MQ below (va_Qv (fun (u : Unit) => res = Sum.inl u) (fun (u : Unit) t => va_P D vwCl (wA cs ad Ls Hs T) t.heap) (Afr ad s.heap.size)) (vx_X (fun k : Nat => res = Sum.inr k) (fun E k t => E = exN k ∧ va_P D vwCl (wA cs ad Ls Hs T) t.heap) (Afr ad s.heap.size)) args s 1 6 (Afr ad s.heap.size)) (F0 m 9 ls []) := by
  unfold f_X5_needWhat_b9 at h
  cases h
  exact k_throw (k := 1) (text := "what is out of range") C X hP hS rfl (by decide) q_X5_needWhat_0 q_X5_needWhat_1 (List.mem_of_getElem? (i := 18) rfl) (fun w h => List.mem_cons_of_mem _ (List.mem_append_right _ h)) tw_45 tg_45 hl.1 dX5_needWhat_9 dX5_needWhat_12 dX5_needWhat_13 dX5_needWhat_15 dX5_needWhat_18 (Nat.le_of_ble_eq_true rfl) (Nat.le_of_ble_eq_true rfl) (Nat.le_of_ble_eq_true rfl) (Nat.le_of_ble_eq_true rfl) (by omega) (by omega)
set_option maxRecDepth 100000 in
set_option maxHeartbeats 4000000 in
theorem w_X5_needWhat_e {res : Sum (Unit) Nat} (C : Cx p s m args meth c cX5_needWhat 2 none RX5 wsX5_needWhat) (G : Gx D cs ad s) (X : Tx l c ad s) {Ls : Nat → SL} {Hs : SL} {T : SL} {x0 : Int32} {x1 : Int32} {H : Heap} {locs : List Loc} {ls : Array Slot} (hP : va_P D vwCl (wA cs ad Ls Hs T) H) (hS : va_S (Afr ad s.heap.size) s.heap H locs) (hl : lv_has ls 2 [(0, .int x0), (1, .int x1)]) (h : f_X5_needWhat x0 x1 = some res) : W p l e rmX5_needWhat s m args below meth c H locs 0 0 (vx_MQ below (va_Qv (fun (u : Unit) => res = Sum.inl u) (fun (u : Unit) t => va_P D vwCl (wA cs ad Ls Hs T) t.heap) (Afr ad s.heap.size)) (vx_X (fun k : Nat => res = Sum.inr k) (fun E k t => E = exN k ∧ va_P D vwCl (wA cs ad Ls Hs T) t.heap) (Afr ad s.heap.size)) args s 1 6 (Afr ad s.heap.size)) (F0 m 0 ls []) := by
  unfold f_X5_needWhat at h
  refine lv_iload_n C.1 C.2.1 dX5_needWhat_0 rfl (lv_at hl 0 rfl) ?_
  refine lv_if_lt (tgt := 9) C.1 C.2.1 dX5_needWhat_1 (by decide) (fun c1 => ?_) (fun c1 => ?_)
  · have h := if_t c1 h
    refine W.widen (k := 0) (n := 0) (by omega) (by omega) ?_
    exact w_X5_needWhat_b9 C G X hP hS (lv_sub hl [] rfl) h
  · have h := if_f c1 h
    refine lv_iload_n C.1 C.2.1 dX5_needWhat_4 rfl (lv_at hl 0 rfl) ?_
    refine lv_iload_n C.1 C.2.1 dX5_needWhat_5 rfl (lv_at hl 1 rfl) ?_
    refine lv_icmp_lt (tgt := 19) C.1 C.2.1 dX5_needWhat_6 (by decide) (fun c2 => ?_) (fun c2 => ?_)
    · have h := if_t c2 h
      cases h
      refine W.widen (k := 1) (n := 6) (by omega) (by omega) ?_
      exact k_vretX C hP hS rfl rfl dX5_needWhat_19
    · have h := if_f c2 h
      refine W.widen (k := 0) (n := 0) (by omega) (by omega) ?_
      exact w_X5_needWhat_b9 C G X hP hS (lv_sub hl [] rfl) h
set_option maxRecDepth 100000 in
set_option maxHeartbeats 4000000 in
theorem m_X5_needWhat (l : Launch) (hfl : l.stackTraces = false) {D : va_G} {cs : Nat → ClassId} {ad : Nat → Nat} (hAd : adOK ad) (sz : Nat) {Ls : Nat → SL} {Hs : SL} {T : SL} {x0 : Int32} {x1 : Int32} {res : Sum (Unit) Nat} (h : f_X5_needWhat x0 x1 = some res) : vx_Met l yX5_needWhat wsX5_needWhat rmX5_needWhat (PX D cs ad sz (wA cs ad Ls Hs T) [.int x0, .int x1]) (va_Qv (fun (u : Unit) => res = Sum.inl u) (fun (u : Unit) t => va_P D vwCl (wA cs ad Ls Hs T) t.heap) (Afr ad sz)) (vx_X (fun k : Nat => res = Sum.inr k) (fun E k t => E = exN k ∧ va_P D vwCl (wA cs ad Ls Hs T) t.heap) (Afr ad sz)) 1 6 (Afr ad sz) :=
  k_metX hfl (by decide) rfl (Nat.le_of_ble_eq_true rfl) hAd (fun p e s m below meth c ls C G X hP hsz hl hS => by
    subst hsz
    exact w_X5_needWhat_e C G X  hP hS hl  h)
/-! X5 stop -/
abbrev rmX5_stop : Room := { frames := 7, cells := 1, slots := 6, locals := 117 }
theorem q_X5_stop_0 : Cond.fieldLink RX5 10 "LineBuffers" "line" "LLineBuffers$Line;" ∈ wsX5_stop := List.mem_of_getElem? (i := 3) rfl
theorem q_X5_stop_1 : Cond.classLink RX5 116 "java/lang/IndexOutOfBoundsException" ∈ wsX5_stop := List.mem_of_getElem? (i := 1) rfl
theorem q_X5_stop_2 : Cond.initialized "java/lang/IndexOutOfBoundsException" ∈ wsX5_stop := List.mem_of_getElem? (i := 2) rfl
theorem n_X5_stop_X5 : ∀ x ∈ u_ws RX5 TX5 4, x ∈ wsX5_stop := fun x h => List.mem_cons_of_mem _ (List.mem_append_left _ (List.mem_append_left _ (List.mem_append_left _ (List.mem_append_left _ (List.mem_append_right _ h)))))
theorem n_X5_stop_X2 : ∀ x ∈ u_ws RX2 TX2 4, x ∈ wsX5_stop := fun x h => List.mem_cons_of_mem _ (List.mem_append_left _ (List.mem_append_left _ (List.mem_append_left _ (List.mem_append_right _ h))))
theorem n_X5_stop_X4 : ∀ x ∈ u_ws RX4 TX4 5, x ∈ wsX5_stop := fun x h => List.mem_cons_of_mem _ (List.mem_append_left _ (List.mem_append_left _ (List.mem_append_right _ h)))
set_option maxRecDepth 100000 in
set_option maxHeartbeats 4000000 in
theorem w_X5_stop_b18 {res : Sum (Int32) Nat} (C : Cx p s m args meth c cX5_stop 3 (some .int) RX5 wsX5_stop) (G : Gx D cs ad s) (X : Tx l c ad s) {Hs : SL} {T : SL} {Ls : Nat → SL} {H : Heap} {locs : List Loc} {ls : Array Slot} (hP : va_P D vwCl (wA cs ad Ls Hs T) H) (hS : va_S (Afr ad s.heap.size) s.heap H locs) (hl : lv_has ls 3 []) (h : f_X5_stop_b18 Ls = some res) : W p l e rmX5_stop s m args below meth c H locs 0 0 (vx_MQ below (va_Qi (fun r' (u : Int32) => res = Sum.inl u ∧ r' = u) (fun (u : Int32) t => va_P D vwCl (wA cs ad Ls Hs T) t.heap) (Afr ad s.heap.size)) (vx_X (fun k : Nat => res = Sum.inr k) (fun E k t => E = exN k ∧ va_P D vwCl (wA cs ad Ls Hs T) t.heap) (Afr ad s.heap.size)) args s 1 6 (Afr ad s.heap.size)) (F0 m 18 ls []) := by
  unfold f_X5_stop_b18 at h
  cases h
  exact k_throw (k := 3) (text := "there is no such stop") C X hP hS rfl (by decide) q_X5_stop_1 q_X5_stop_2 (List.mem_of_getElem? (i := 8) rfl) (fun w h => List.mem_cons_of_mem _ (List.mem_append_left _ (List.mem_append_right _ h))) tw_120 tg_120 hl.1 dX5_stop_18 dX5_stop_21 dX5_stop_22 dX5_stop_24 dX5_stop_27 (Nat.le_of_ble_eq_true rfl) (Nat.le_of_ble_eq_true rfl) (Nat.le_of_ble_eq_true rfl) (Nat.le_of_ble_eq_true rfl) (by omega) (by omega)
set_option maxRecDepth 100000 in
set_option maxHeartbeats 4000000 in
theorem w_X5_stop_e {res : Sum (Int32) Nat} (C : Cx p s m args meth c cX5_stop 3 (some .int) RX5 wsX5_stop) (G : Gx D cs ad s) (X : Tx l c ad s) {Hs : SL} {T : SL} {Ls : Nat → SL} {x1 : Int32} {x2 : Int32} {H : Heap} {locs : List Loc} {ls : Array Slot} (hP : va_P D vwCl (wA cs ad Ls Hs T) H) (hS : va_S (Afr ad s.heap.size) s.heap H locs) (hl : lv_has ls 3 [(0, .ref (ad 0)), (1, .int x1), (2, .int x2)]) (h : f_X5_stop Ls x1 x2 = some res) : W p l e rmX5_stop s m args below meth c H locs 0 0 (vx_MQ below (va_Qi (fun r' (u : Int32) => res = Sum.inl u ∧ r' = u) (fun (u : Int32) t => va_P D vwCl (wA cs ad Ls Hs T) t.heap) (Afr ad s.heap.size)) (vx_X (fun k : Nat => res = Sum.inr k) (fun E k t => E = exN k ∧ va_P D vwCl (wA cs ad Ls Hs T) t.heap) (Afr ad s.heap.size)) args s 1 6 (Afr ad s.heap.size)) (F0 m 0 ls []) := by
  unfold f_X5_stop at h
  refine lv_iload_n C.1 C.2.1 dX5_stop_0 rfl (lv_at hl 1 rfl) ?_
  refine lv_if_lt (tgt := 18) C.1 C.2.1 dX5_stop_1 (by decide) (fun c1 => ?_) (fun c1 => ?_)
  · have h := if_t c1 h
    refine W.widen (k := 0) (n := 0) (by omega) (by omega) ?_
    exact w_X5_stop_b18 C G X hP hS (lv_sub hl [] rfl) h
  · have h := if_f c1 h
    refine lv_iload_n C.1 C.2.1 dX5_stop_4 rfl (lv_at hl 1 rfl) ?_
    refine lv_aload_n C.1 C.2.1 dX5_stop_5 rfl (lv_at hl 0 rfl) ?_
    refine k_getf C G hP g_obj rfl 0 (by decide) n_X5_stop_X5 q_X5_stop_0 (v := .ref (ad (5 + 14 * 0 + 0))) rfl dX5_stop_6 ?_
    refine k_getfN C G hP (c_obj (i := 0) (by decide)) rfl 1 (by decide) n_X5_stop_X2 (List.mem_of_getElem? (i := 2) rfl) (v := .ref (ad (5 + 14 * 0 + 10))) rfl dX5_stop_9 ?_
    obtain ⟨v2, ev2, h⟩ := lt_out h
    refine k_getiN C G hP (c_sto (i := 0) (by decide)) rfl 3 (by decide) n_X5_stop_X4 (List.mem_of_getElem? (i := 0) rfl) rfl ev2 dX5_stop_12 ?_
    refine lv_icmp_lt (tgt := 28) C.1 C.2.1 dX5_stop_15 (by decide) (fun c3 => ?_) (fun c3 => ?_)
    · have h := if_t c3 h
      refine lv_iload_n C.1 C.2.1 dX5_stop_28 rfl (lv_at hl 2 rfl) ?_
      refine lv_iconst (v := 3) C.1 C.2.1 dX5_stop_29 (by decide) ?_
      obtain ⟨r4, c5, h⟩ := bd_out h
      refine k_callXSv C G X.2.2 hP hS (m_X5_needWhat l X.1 G.2.1 _ c5) (va_cwS 2 C.2.2.2.2.2.1 gX5_stop_X5_needWhat rfl rfl rfl (by decide +kernel) ⟨Nat.le_of_ble_eq_true rfl, Nat.le_of_ble_eq_true rfl⟩) (As := [.int x2, .int 3]) rfl hl.1 rfl (Nat.le_of_ble_eq_true rfl) dX5_stop_30 ⟨Nat.le_of_ble_eq_true rfl, Nat.le_of_ble_eq_true rfl⟩ (fun k E ce q9 H locs er hE hP hS hcell hv hcl => ?_) (fun H locs u er hP hS => ?_)
      · subst er
        have h : some (Sum.inr k) = some res := h
        cases h
        exact k_out C X hP hS rfl hE hcell hv hcl (by omega) (by omega)
      subst er
      have h := sx_l h
      refine lv_aload_n C.1 C.2.1 dX5_stop_33 rfl (lv_at hl 0 rfl) ?_
      refine k_getf C G hP g_obj rfl 0 (by decide) n_X5_stop_X5 q_X5_stop_0 (v := .ref (ad (5 + 14 * 0 + 0))) rfl dX5_stop_34 ?_
      refine k_getfN C G hP (c_obj (i := 0) (by decide)) rfl 1 (by decide) n_X5_stop_X2 (List.mem_of_getElem? (i := 2) rfl) (v := .ref (ad (5 + 14 * 0 + 10))) rfl dX5_stop_37 ?_
      refine lv_iload_n C.1 C.2.1 dX5_stop_40 rfl (lv_at hl 1 rfl) ?_
      refine lv_iload_n C.1 C.2.1 dX5_stop_41 rfl (lv_at hl 2 rfl) ?_
      obtain ⟨r6, c7, h⟩ := bd_out h
      have hP := up_in (i := 0) hP
      refine k_callVi C G hP hS (m_X4_value l G.2.1 _ (i := 0) (by decide) c7) (v_sto (i := 0) (by decide)) rfl (cwV 2 C.2.2.2.2.2.1 gX5_stop_X4_value rfl rfl rfl (by decide +kernel) ⟨Nat.le_of_ble_eq_true rfl, Nat.le_of_ble_eq_true rfl⟩) (As := [.int x1, .int x2]) rfl hl.1 rfl (Nat.le_of_ble_eq_true rfl) dX5_stop_42 ⟨Nat.le_of_ble_eq_true rfl, Nat.le_of_ble_eq_true rfl⟩ (fun H locs hP hS => ?_)
      have hP := up_ou hP
      cases h
      refine W.widen (k := 1) (n := 6) (by omega) (by omega) ?_
      exact k_iretX C hP hS rfl rfl rfl dX5_stop_45
    · have h := if_f c3 h
      refine W.widen (k := 0) (n := 0) (by omega) (by omega) ?_
      exact w_X5_stop_b18 C G X hP hS (lv_sub hl [] rfl) h
set_option maxRecDepth 100000 in
set_option maxHeartbeats 4000000 in
theorem m_X5_stop (l : Launch) (hfl : l.stackTraces = false) {D : va_G} {cs : Nat → ClassId} {ad : Nat → Nat} (hAd : adOK ad) (sz : Nat) {Ls : Nat → SL} {Hs : SL} {T : SL} {x1 : Int32} {x2 : Int32} {res : Sum (Int32) Nat} (h : f_X5_stop Ls x1 x2 = some res) : vx_Met l yX5_stop wsX5_stop rmX5_stop (PX D cs ad sz (wA cs ad Ls Hs T) [.ref (ad 0), .int x1, .int x2]) (va_Qi (fun r' (u : Int32) => res = Sum.inl u ∧ r' = u) (fun (u : Int32) t => va_P D vwCl (wA cs ad Ls Hs T) t.heap) (Afr ad sz)) (vx_X (fun k : Nat => res = Sum.inr k) (fun E k t => E = exN k ∧ va_P D vwCl (wA cs ad Ls Hs T) t.heap) (Afr ad sz)) 1 6 (Afr ad sz) :=
  k_metX hfl (by decide) rfl (Nat.le_of_ble_eq_true rfl) hAd (fun p e s m below meth c ls C G X hP hsz hl hS => by
    subst hsz
    exact w_X5_stop_e C G X  hP hS hl  h)
/-! X5 needMachines -/
abbrev rmX5_needMachines : Room := { frames := 6, cells := 1, slots := 6, locals := 96 }
theorem q_X5_needMachines_0 : Cond.fieldLink RX5 10 "LineBuffers" "line" "LLineBuffers$Line;" ∈ wsX5_needMachines := List.mem_of_getElem? (i := 3) rfl
theorem q_X5_needMachines_1 : Cond.classLink RX5 55 "java/lang/IllegalStateException" ∈ wsX5_needMachines := List.mem_of_getElem? (i := 1) rfl
theorem q_X5_needMachines_2 : Cond.initialized "java/lang/IllegalStateException" ∈ wsX5_needMachines := List.mem_of_getElem? (i := 2) rfl
theorem n_X5_needMachines_X5 : ∀ x ∈ u_ws RX5 TX5 4, x ∈ wsX5_needMachines := fun x h => List.mem_cons_of_mem _ (List.mem_append_left _ (List.mem_append_left _ (List.mem_append_right _ h)))
theorem n_X5_needMachines_X2 : ∀ x ∈ u_ws RX2 TX2 4, x ∈ wsX5_needMachines := fun x h => List.mem_cons_of_mem _ (List.mem_append_left _ (List.mem_append_right _ h))
set_option maxRecDepth 100000 in
set_option maxHeartbeats 4000000 in
theorem w_X5_needMachines_e {res : Sum (Unit) Nat} (C : Cx p s m args meth c cX5_needMachines 2 none RX5 wsX5_needMachines) (G : Gx D cs ad s) (X : Tx l c ad s) {Hs : SL} {T : SL} {Ls : Nat → SL} {x1 : Int32} {H : Heap} {locs : List Loc} {ls : Array Slot} (hP : va_P D vwCl (wA cs ad Ls Hs T) H) (hS : va_S (Afr ad s.heap.size) s.heap H locs) (hl : lv_has ls 2 [(0, .ref (ad 0)), (1, .int x1)]) (h : f_X5_needMachines Ls x1 = some res) : W p l e rmX5_needMachines s m args below meth c H locs 0 0 (vx_MQ below (va_Qv (fun (u : Unit) => res = Sum.inl u) (fun (u : Unit) t => va_P D vwCl (wA cs ad Ls Hs T) t.heap) (Afr ad s.heap.size)) (vx_X (fun k : Nat => res = Sum.inr k) (fun E k t => E = exN k ∧ va_P D vwCl (wA cs ad Ls Hs T) t.heap) (Afr ad s.heap.size)) args s 1 6 (Afr ad s.heap.size)) (F0 m 0 ls []) := by
  unfold f_X5_needMachines at h
  refine lv_aload_n C.1 C.2.1 dX5_needMachines_0 rfl (lv_at hl 0 rfl) ?_
  refine k_getf C G hP g_obj rfl 0 (by decide) n_X5_needMachines_X5 q_X5_needMachines_0 (v := .ref (ad (5 + 14 * 0 + 0))) rfl dX5_needMachines_1 ?_
  obtain ⟨v1, ev1, h⟩ := lt_out h
  refine k_getiN C G hP (c_obj (i := 0) (by decide)) rfl 2 (by decide) n_X5_needMachines_X2 (List.mem_of_getElem? (i := 3) rfl) rfl ev1 dX5_needMachines_4 ?_
  refine lv_iload_n C.1 C.2.1 dX5_needMachines_7 rfl (lv_at hl 1 rfl) ?_
  refine lv_icmp_ge (tgt := 21) C.1 C.2.1 dX5_needMachines_8 (by decide) (fun c2 => ?_) (fun c2 => ?_)
  · have h := if_t c2 h
    cases h
    refine W.widen (k := 1) (n := 6) (by omega) (by omega) ?_
    exact k_vretX C hP hS rfl rfl dX5_needMachines_21
  · have h := if_f c2 h
    cases h
    exact k_throw (k := 2) (text := "there are too few machines") C X hP hS rfl (by decide) q_X5_needMachines_1 q_X5_needMachines_2 (List.mem_of_getElem? (i := 17) rfl) (fun w h => List.mem_cons_of_mem _ (List.mem_append_right _ h)) tw_59 tg_59 hl.1 dX5_needMachines_11 dX5_needMachines_14 dX5_needMachines_15 dX5_needMachines_17 dX5_needMachines_20 (Nat.le_of_ble_eq_true rfl) (Nat.le_of_ble_eq_true rfl) (Nat.le_of_ble_eq_true rfl) (Nat.le_of_ble_eq_true rfl) (by omega) (by omega)
set_option maxRecDepth 100000 in
set_option maxHeartbeats 4000000 in
theorem m_X5_needMachines (l : Launch) (hfl : l.stackTraces = false) {D : va_G} {cs : Nat → ClassId} {ad : Nat → Nat} (hAd : adOK ad) (sz : Nat) {Ls : Nat → SL} {Hs : SL} {T : SL} {x1 : Int32} {res : Sum (Unit) Nat} (h : f_X5_needMachines Ls x1 = some res) : vx_Met l yX5_needMachines wsX5_needMachines rmX5_needMachines (PX D cs ad sz (wA cs ad Ls Hs T) [.ref (ad 0), .int x1]) (va_Qv (fun (u : Unit) => res = Sum.inl u) (fun (u : Unit) t => va_P D vwCl (wA cs ad Ls Hs T) t.heap) (Afr ad sz)) (vx_X (fun k : Nat => res = Sum.inr k) (fun E k t => E = exN k ∧ va_P D vwCl (wA cs ad Ls Hs T) t.heap) (Afr ad sz)) 1 6 (Afr ad sz) :=
  k_metX hfl (by decide) rfl (Nat.le_of_ble_eq_true rfl) hAd (fun p e s m below meth c ls C G X hP hsz hl hS => by
    subst hsz
    exact w_X5_needMachines_e C G X  hP hS hl  h)
/-! X5 run -/
abbrev rmX5_run : Room := { frames := 7, cells := 2, slots := 12, locals := 117 }
theorem q_X5_run_0 : Cond.fieldLink RX5 10 "LineBuffers" "line" "LLineBuffers$Line;" ∈ wsX5_run := List.mem_of_getElem? (i := 5) rfl
theorem q_X5_run_1 : Cond.fieldLink RX5 22 "LineBuffers" "history" "LLineBuffers$History;" ∈ wsX5_run := List.mem_of_getElem? (i := 6) rfl
theorem q_X5_run_2 : Cond.classLink RX5 55 "java/lang/IllegalStateException" ∈ wsX5_run := List.mem_of_getElem? (i := 3) rfl
theorem q_X5_run_3 : Cond.initialized "java/lang/IllegalStateException" ∈ wsX5_run := List.mem_of_getElem? (i := 4) rfl
theorem q_X5_run_4 : Cond.classLink RX5 41 "java/lang/IllegalArgumentException" ∈ wsX5_run := List.mem_of_getElem? (i := 1) rfl
theorem q_X5_run_5 : Cond.initialized "java/lang/IllegalArgumentException" ∈ wsX5_run := List.mem_of_getElem? (i := 2) rfl
theorem n_X5_run_X5 : ∀ x ∈ u_ws RX5 TX5 4, x ∈ wsX5_run := fun x h => List.mem_cons_of_mem _ (List.mem_append_left _ (List.mem_append_left _ (List.mem_append_left _ (List.mem_append_left _ (List.mem_append_left _ (List.mem_append_right _ h))))))
theorem n_X5_run_X2 : ∀ x ∈ u_ws RX2 TX2 4, x ∈ wsX5_run := fun x h => List.mem_cons_of_mem _ (List.mem_append_left _ (List.mem_append_left _ (List.mem_append_left _ (List.mem_append_left _ (List.mem_append_right _ h)))))
set_option maxRecDepth 100000 in
set_option maxHeartbeats 4000000 in
theorem w_X5_run_e {res : Sum (Int32 × (Nat → SL) × SL) Nat} (C : Cx p s m args meth c cX5_run 3 (some .int) RX5 wsX5_run) (G : Gx D cs ad s) (X : Tx l c ad s) {T : SL} {Ls : Nat → SL} {Hs : SL} {x1 : Int32} {H : Heap} {locs : List Loc} {ls : Array Slot} (hP : va_P D vwCl (wA cs ad Ls Hs T) H) (hS : va_S (Afr ad s.heap.size) s.heap H locs) (hl : lv_has ls 3 [(0, .ref (ad 0)), (1, .int x1)]) (h : f_X5_run Ls Hs x1 = some res) : W p l e rmX5_run s m args below meth c H locs 0 0 (vx_MQ below (va_Qi (fun r' (u : Int32 × (Nat → SL) × SL) => res = Sum.inl u ∧ r' = u.1) (fun (u : Int32 × (Nat → SL) × SL) t => va_P D vwCl (wA cs ad u.2.1 u.2.2 T) t.heap) (Afr ad s.heap.size)) (vx_X (fun k : Nat => res = Sum.inr k) (fun E k t => E = exN k ∧ va_P D vwCl (wA cs ad Ls Hs T) t.heap) (Afr ad s.heap.size)) args s 2 12 (Afr ad s.heap.size)) (F0 m 0 ls []) := by
  unfold f_X5_run at h
  refine lv_iload_n C.1 C.2.1 dX5_run_0 rfl (lv_at hl 1 rfl) ?_
  refine lv_iconst (v := 0) C.1 C.2.1 dX5_run_1 (by decide) ?_
  refine lv_sipush (v := 2000) C.1 C.2.1 dX5_run_2 (by decide) ?_
  obtain ⟨r1, c2, h⟩ := bd_out h
  refine k_callSi C G hP hS (m_X5_isIn l G.2.1 _  c2) (va_cwS 3 C.2.2.2.2.2.1 gX5_run_X5_isIn rfl rfl rfl (by decide +kernel) ⟨Nat.le_of_ble_eq_true rfl, Nat.le_of_ble_eq_true rfl⟩) (As := [.int x1, .int 0, .int 2000]) rfl hl.1 rfl (Nat.le_of_ble_eq_true rfl) dX5_run_5 ⟨Nat.le_of_ble_eq_true rfl, Nat.le_of_ble_eq_true rfl⟩ (fun H locs hP hS => ?_)
  refine lv_if_ne (tgt := 21) C.1 C.2.1 dX5_run_8 (by decide) (fun c3 => ?_) (fun c3 => ?_)
  · have h := if_t c3 h
    refine lv_aload_n C.1 C.2.1 dX5_run_21 rfl (lv_at hl 0 rfl) ?_
    refine lv_iconst (v := 1) C.1 C.2.1 dX5_run_22 (by decide) ?_
    obtain ⟨r4, c5, h⟩ := bd_out h
    refine k_callXVv C G X.2.2 hP hS (m_X5_needMachines l X.1 G.2.1 _ c5) g_obj rfl (cwV 1 C.2.2.2.2.2.1 gX5_run_X5_needMachines rfl rfl rfl (by decide +kernel) ⟨Nat.le_of_ble_eq_true rfl, Nat.le_of_ble_eq_true rfl⟩) (As := [.int 1]) rfl hl.1 rfl (Nat.le_of_ble_eq_true rfl) dX5_run_23 ⟨Nat.le_of_ble_eq_true rfl, Nat.le_of_ble_eq_true rfl⟩ (fun k E ce q9 H locs er hE hP hS hcell hv hcl => ?_) (fun H locs u er hP hS => ?_)
    · subst er
      have h : some (Sum.inr k) = some res := h
      cases h
      exact k_out C X hP hS rfl hE hcell hv hcl (by omega) (by omega)
    subst er
    have h := sx_l h
    refine lv_aload_n C.1 C.2.1 dX5_run_26 rfl (lv_at hl 0 rfl) ?_
    refine k_getf C G hP g_obj rfl 0 (by decide) n_X5_run_X5 q_X5_run_0 (v := .ref (ad (5 + 14 * 0 + 0))) rfl dX5_run_27 ?_
    obtain ⟨v6, ev6, h⟩ := lt_out h
    refine k_getiN C G hP (c_obj (i := 0) (by decide)) rfl 3 (by decide) n_X5_run_X2 (List.mem_of_getElem? (i := 4) rfl) rfl ev6 dX5_run_30 ?_
    refine lv_iload_n C.1 C.2.1 dX5_run_33 rfl (lv_at hl 1 rfl) ?_
    obtain ⟨v7, ev7, h⟩ := lt_out h
    refine k_iadd C ev7 dX5_run_34 ?_
    refine lv_sipush (v := 10000) C.1 C.2.1 dX5_run_35 (by decide) ?_
    refine lv_icmp_le (tgt := 51) C.1 C.2.1 dX5_run_38 (by decide) (fun c8 => ?_) (fun c8 => ?_)
    · have h := if_t c8 h
      refine lv_aload_n C.1 C.2.1 dX5_run_51 rfl (lv_at hl 0 rfl) ?_
      refine k_getf C G hP g_obj rfl 2 (by decide) n_X5_run_X5 q_X5_run_1 (v := .ref (ad 1)) rfl dX5_run_52 ?_
      refine lv_aload_n C.1 C.2.1 dX5_run_55 rfl (lv_at hl 0 rfl) ?_
      refine k_getf C G hP g_obj rfl 0 (by decide) n_X5_run_X5 q_X5_run_0 (v := .ref (ad (5 + 14 * 0 + 0))) rfl dX5_run_56 ?_
      obtain ⟨Ls9, Hs10, c11, h⟩ := bd2_out h
      refine k_callVv C G hP hS (m_X1_keep l G.2.1 _ (i := 0) (by decide) c11) g_his rfl (cwV 1 C.2.2.2.2.2.1 gX5_run_X1_keep rfl rfl rfl (by decide +kernel) ⟨Nat.le_of_ble_eq_true rfl, Nat.le_of_ble_eq_true rfl⟩) (As := [.ref (ad (5 + 14 * 0 + 0))]) rfl hl.1 rfl (Nat.le_of_ble_eq_true rfl) dX5_run_59 ⟨Nat.le_of_ble_eq_true rfl, Nat.le_of_ble_eq_true rfl⟩ (fun H locs hP hS => ?_)
      refine lv_aload_n C.1 C.2.1 dX5_run_62 rfl (lv_at hl 0 rfl) ?_
      refine k_getf C G hP g_obj rfl 0 (by decide) n_X5_run_X5 q_X5_run_0 (v := .ref (ad (5 + 14 * 0 + 0))) rfl dX5_run_63 ?_
      obtain ⟨r12, c13, h⟩ := bd_out h
      have hP := up_in (i := 0) hP
      refine k_callVi C G hP hS (m_X2_bottlesOut l G.2.1 _ (i := 0) (by decide) c13) (v_obj (i := 0) (by decide)) rfl (cwV 0 C.2.2.2.2.2.1 gX5_run_X2_bottlesOut rfl rfl rfl (by decide +kernel) ⟨Nat.le_of_ble_eq_true rfl, Nat.le_of_ble_eq_true rfl⟩) (As := []) rfl hl.1 rfl (Nat.le_of_ble_eq_true rfl) dX5_run_66 ⟨Nat.le_of_ble_eq_true rfl, Nat.le_of_ble_eq_true rfl⟩ (fun H locs hP hS => ?_)
      have hP := up_ou hP
      refine lv_istore_n (lv' := [(2, .int r12), (0, .ref (ad 0)), (1, .int x1)]) C.1 C.2.1 dX5_run_69 rfl hl (by decide) rfl (fun ls hl => ?_)
      refine lv_aload_n C.1 C.2.1 dX5_run_70 rfl (lv_at hl 1 rfl) ?_
      refine k_getf C G hP g_obj rfl 0 (by decide) n_X5_run_X5 q_X5_run_0 (v := .ref (ad (5 + 14 * 0 + 0))) rfl dX5_run_71 ?_
      refine lv_iload_n C.1 C.2.1 dX5_run_74 rfl (lv_at hl 2 rfl) ?_
      obtain ⟨L14, c15, h⟩ := bd_out h
      have hP := up_in (i := 0) hP
      refine k_callVv C G hP hS (m_X2_pass l G.2.1 _ (i := 0) (by decide) c15) (v_obj (i := 0) (by decide)) rfl (cwV 1 C.2.2.2.2.2.1 gX5_run_X2_pass rfl rfl rfl (by decide +kernel) ⟨Nat.le_of_ble_eq_true rfl, Nat.le_of_ble_eq_true rfl⟩) (As := [.int x1]) rfl hl.1 rfl (Nat.le_of_ble_eq_true rfl) dX5_run_75 ⟨Nat.le_of_ble_eq_true rfl, Nat.le_of_ble_eq_true rfl⟩ (fun H locs hP hS => ?_)
      obtain ⟨Ls16, eLs16, h⟩ := lt_out h
      rw [← eLs16] at hP
      refine lv_aload_n C.1 C.2.1 dX5_run_78 rfl (lv_at hl 1 rfl) ?_
      refine k_getf C G hP g_obj rfl 0 (by decide) n_X5_run_X5 q_X5_run_0 (v := .ref (ad (5 + 14 * 0 + 0))) rfl dX5_run_79 ?_
      obtain ⟨r17, c18, h⟩ := bd_out h
      have hP := up_in (i := 0) hP
      refine k_callVi C G hP hS (m_X2_bottlesOut l G.2.1 _ (i := 0) (by decide) c18) (v_obj (i := 0) (by decide)) rfl (cwV 0 C.2.2.2.2.2.1 gX5_run_X2_bottlesOut rfl rfl rfl (by decide +kernel) ⟨Nat.le_of_ble_eq_true rfl, Nat.le_of_ble_eq_true rfl⟩) (As := []) rfl hl.1 rfl (Nat.le_of_ble_eq_true rfl) dX5_run_82 ⟨Nat.le_of_ble_eq_true rfl, Nat.le_of_ble_eq_true rfl⟩ (fun H locs hP hS => ?_)
      have hP := up_ou hP
      refine lv_iload_n C.1 C.2.1 dX5_run_85 rfl (lv_at hl 0 rfl) ?_
      obtain ⟨v19, ev19, h⟩ := lt_out h
      refine k_isub C ev19 dX5_run_86 ?_
      cases h
      refine W.widen (k := 2) (n := 12) (by omega) (by omega) ?_
      exact k_iretX C hP hS rfl rfl rfl dX5_run_87
    · have h := if_f c8 h
      cases h
      exact k_throw (k := 2) (text := "the present tick would be too high") C X hP hS rfl (by decide) q_X5_run_2 q_X5_run_3 (List.mem_of_getElem? (i := 10) rfl) (fun w h => List.mem_cons_of_mem _ (List.mem_append_right _ h)) tw_59 tg_59 hl.1 dX5_run_41 dX5_run_44 dX5_run_45 dX5_run_47 dX5_run_50 (Nat.le_of_ble_eq_true rfl) (Nat.le_of_ble_eq_true rfl) (Nat.le_of_ble_eq_true rfl) (Nat.le_of_ble_eq_true rfl) (by omega) (by omega)
  · have h := if_n c3 h
    cases h
    exact k_throw (k := 1) (text := "ticks is out of range") C X hP hS rfl (by decide) q_X5_run_4 q_X5_run_5 (List.mem_of_getElem? (i := 9) rfl) (fun w h => List.mem_cons_of_mem _ (List.mem_append_left _ (List.mem_append_right _ h))) tw_45 tg_45 hl.1 dX5_run_11 dX5_run_14 dX5_run_15 dX5_run_17 dX5_run_20 (Nat.le_of_ble_eq_true rfl) (Nat.le_of_ble_eq_true rfl) (Nat.le_of_ble_eq_true rfl) (Nat.le_of_ble_eq_true rfl) (by omega) (by omega)
set_option maxRecDepth 100000 in
set_option maxHeartbeats 4000000 in
theorem m_X5_run (l : Launch) (hfl : l.stackTraces = false) {D : va_G} {cs : Nat → ClassId} {ad : Nat → Nat} (hAd : adOK ad) (sz : Nat) {Ls : Nat → SL} {Hs : SL} {T : SL} {x1 : Int32} {res : Sum (Int32 × (Nat → SL) × SL) Nat} (h : f_X5_run Ls Hs x1 = some res) : vx_Met l yX5_run wsX5_run rmX5_run (PX D cs ad sz (wA cs ad Ls Hs T) [.ref (ad 0), .int x1]) (va_Qi (fun r' (u : Int32 × (Nat → SL) × SL) => res = Sum.inl u ∧ r' = u.1) (fun (u : Int32 × (Nat → SL) × SL) t => va_P D vwCl (wA cs ad u.2.1 u.2.2 T) t.heap) (Afr ad sz)) (vx_X (fun k : Nat => res = Sum.inr k) (fun E k t => E = exN k ∧ va_P D vwCl (wA cs ad Ls Hs T) t.heap) (Afr ad sz)) 2 12 (Afr ad sz) :=
  k_metX hfl (by decide) rfl (Nat.le_of_ble_eq_true rfl) hAd (fun p e s m below meth c ls C G X hP hsz hl hS => by
    subst hsz
    exact w_X5_run_e C G X  hP hS hl  h)
/-! X5 restart -/
abbrev rmX5_restart : Room := { frames := 4, cells := 0, slots := 0, locals := 113 }
theorem q_X5_restart_0 : Cond.fieldLink RX5 22 "LineBuffers" "history" "LLineBuffers$History;" ∈ wsX5_restart := List.mem_of_getElem? (i := 1) rfl
theorem q_X5_restart_1 : Cond.fieldLink RX5 10 "LineBuffers" "line" "LLineBuffers$Line;" ∈ wsX5_restart := List.mem_of_getElem? (i := 2) rfl
theorem n_X5_restart_X5 : ∀ x ∈ u_ws RX5 TX5 4, x ∈ wsX5_restart := fun x h => List.mem_cons_of_mem _ (List.mem_append_left _ (List.mem_append_left _ (List.mem_append_left _ (List.mem_append_right _ h))))
theorem n_X5_restart_X2 : ∀ x ∈ u_ws RX2 TX2 4, x ∈ wsX5_restart := fun x h => List.mem_cons_of_mem _ (List.mem_append_left _ (List.mem_append_left _ (List.mem_append_right _ h)))
set_option maxRecDepth 100000 in
set_option maxHeartbeats 4000000 in
theorem w_X5_restart_e {res : Int32 × (Nat → SL) × SL} (C : Cx p s m args meth c cX5_restart 2 (some .int) RX5 wsX5_restart) (G : Gx D cs ad s) {T : SL} {Ls : Nat → SL} {Hs : SL} {H : Heap} {locs : List Loc} {ls : Array Slot} (hP : va_P D vwCl (wA cs ad Ls Hs T) H) (hS : va_S (Afr ad s.heap.size) s.heap H locs) (hl : lv_has ls 2 [(0, .ref (ad 0))]) (h : f_X5_restart Ls Hs = some res) : W p l e rmX5_restart s m args below meth c H locs 0 0 (MQ below (va_Qi (fun r' (_ : Unit) => r' = res.1) (fun _ t => va_P D vwCl (wA cs ad res.2.1 res.2.2 T) t.heap) (Afr ad s.heap.size)) args s 0 0 (Afr ad s.heap.size)) (F0 m 0 ls []) := by
  unfold f_X5_restart at h
  refine lv_aload_n C.1 C.2.1 dX5_restart_0 rfl (lv_at hl 0 rfl) ?_
  refine k_getf C G hP g_obj rfl 2 (by decide) n_X5_restart_X5 q_X5_restart_0 (v := .ref (ad 1)) rfl dX5_restart_1 ?_
  refine lv_aload_n C.1 C.2.1 dX5_restart_4 rfl (lv_at hl 0 rfl) ?_
  refine k_getf C G hP g_obj rfl 0 (by decide) n_X5_restart_X5 q_X5_restart_1 (v := .ref (ad (5 + 14 * 0 + 0))) rfl dX5_restart_5 ?_
  obtain ⟨Ls1, Hs2, c3, h⟩ := bd2_out h
  refine k_callVv C G hP hS (m_X1_keep l G.2.1 _ (i := 0) (by decide) c3) g_his rfl (cwV 1 C.2.2.2.2.2.1 gX5_restart_X1_keep rfl rfl rfl (by decide +kernel) ⟨Nat.le_of_ble_eq_true rfl, Nat.le_of_ble_eq_true rfl⟩) (As := [.ref (ad (5 + 14 * 0 + 0))]) rfl hl.1 rfl (Nat.le_of_ble_eq_true rfl) dX5_restart_8 ⟨Nat.le_of_ble_eq_true rfl, Nat.le_of_ble_eq_true rfl⟩ (fun H locs hP hS => ?_)
  refine lv_aload_n C.1 C.2.1 dX5_restart_11 rfl (lv_at hl 0 rfl) ?_
  refine k_getf C G hP g_obj rfl 0 (by decide) n_X5_restart_X5 q_X5_restart_1 (v := .ref (ad (5 + 14 * 0 + 0))) rfl dX5_restart_12 ?_
  obtain ⟨v4, ev4, h⟩ := lt_out h
  refine k_getiN C G hP (c_obj (i := 0) (by decide)) rfl 3 (by decide) n_X5_restart_X2 (List.mem_of_getElem? (i := 4) rfl) rfl ev4 dX5_restart_15 ?_
  refine lv_istore_n (lv' := [(1, .int v4), (0, .ref (ad 0))]) C.1 C.2.1 dX5_restart_18 rfl hl (by decide) rfl (fun ls hl => ?_)
  refine lv_aload_n C.1 C.2.1 dX5_restart_19 rfl (lv_at hl 1 rfl) ?_
  refine k_getf C G hP g_obj rfl 0 (by decide) n_X5_restart_X5 q_X5_restart_1 (v := .ref (ad (5 + 14 * 0 + 0))) rfl dX5_restart_20 ?_
  obtain ⟨L5, c6, h⟩ := bd_out h
  have hP := up_in (i := 0) hP
  refine k_callVv C G hP hS (m_X2_beginAnew l G.2.1 _ (i := 0) (by decide) c6) (v_obj (i := 0) (by decide)) rfl (cwV 0 C.2.2.2.2.2.1 gX5_restart_X2_beginAnew rfl rfl rfl (by decide +kernel) ⟨Nat.le_of_ble_eq_true rfl, Nat.le_of_ble_eq_true rfl⟩) (As := []) rfl hl.1 rfl (Nat.le_of_ble_eq_true rfl) dX5_restart_23 ⟨Nat.le_of_ble_eq_true rfl, Nat.le_of_ble_eq_true rfl⟩ (fun H locs hP hS => ?_)
  obtain ⟨Ls7, eLs7, h⟩ := lt_out h
  rw [← eLs7] at hP
  refine lv_iload_n C.1 C.2.1 dX5_restart_26 rfl (lv_at hl 0 rfl) ?_
  cases h
  exact k_iret C hP hS dX5_restart_27
set_option maxRecDepth 100000 in
set_option maxHeartbeats 4000000 in
theorem m_X5_restart (l : Launch) {D : va_G} {cs : Nat → ClassId} {ad : Nat → Nat} (hAd : adOK ad) (sz : Nat) {Ls : Nat → SL} {Hs : SL} {T : SL} {res : Int32 × (Nat → SL) × SL} (h : f_X5_restart Ls Hs = some res) : Met l yX5_restart wsX5_restart rmX5_restart (PA D cs sz (wA cs ad Ls Hs T) [.ref (ad 0)]) (va_Qi (fun r' (_ : Unit) => r' = res.1) (fun _ t => va_P D vwCl (wA cs ad res.2.1 res.2.2 T) t.heap) (Afr ad sz)) 0 0 (Afr ad sz) :=
  k_met (by decide) rfl (Nat.le_of_ble_eq_true rfl) hAd (fun p e s m below meth c ls C G hP hsz hl hS => by
    subst hsz
    exact w_X5_restart_e C G  hP hS hl  h)
/-! X5 now -/
abbrev rmX5_now : Room := { frames := 0, cells := 0, slots := 0, locals := 0 }
theorem q_X5_now_0 : Cond.fieldLink RX5 10 "LineBuffers" "line" "LLineBuffers$Line;" ∈ wsX5_now := List.mem_of_getElem? (i := 1) rfl
theorem n_X5_now_X5 : ∀ x ∈ u_ws RX5 TX5 4, x ∈ wsX5_now := fun x h => List.mem_cons_of_mem _ (List.mem_append_left _ (List.mem_append_right _ h))
theorem n_X5_now_X2 : ∀ x ∈ u_ws RX2 TX2 4, x ∈ wsX5_now := fun x h => List.mem_cons_of_mem _ (List.mem_append_right _ h)
set_option maxRecDepth 100000 in
set_option maxHeartbeats 4000000 in
theorem w_X5_now_e {res : Int32} (C : Cx p s m args meth c cX5_now 1 (some .int) RX5 wsX5_now) (G : Gx D cs ad s) {Hs : SL} {T : SL} {Ls : Nat → SL} {H : Heap} {locs : List Loc} {ls : Array Slot} (hP : va_P D vwCl (wA cs ad Ls Hs T) H) (hS : va_S (Afr ad s.heap.size) s.heap H locs) (hl : lv_has ls 1 [(0, .ref (ad 0))]) (h : f_X5_now Ls = some res) : W p l e rmX5_now s m args below meth c H locs 0 0 (MQ below (va_Qi (fun r' (_ : Unit) => r' = res) (fun _ t => va_P D vwCl (wA cs ad Ls Hs T) t.heap) (Afr ad s.heap.size)) args s 0 0 (Afr ad s.heap.size)) (F0 m 0 ls []) := by
  unfold f_X5_now at h
  refine lv_aload_n C.1 C.2.1 dX5_now_0 rfl (lv_at hl 0 rfl) ?_
  refine k_getf C G hP g_obj rfl 0 (by decide) n_X5_now_X5 q_X5_now_0 (v := .ref (ad (5 + 14 * 0 + 0))) rfl dX5_now_1 ?_
  obtain ⟨v1, ev1, h⟩ := lt_out h
  refine k_getiN C G hP (c_obj (i := 0) (by decide)) rfl 3 (by decide) n_X5_now_X2 (List.mem_of_getElem? (i := 4) rfl) rfl ev1 dX5_now_4 ?_
  cases h
  exact k_iret C hP hS dX5_now_7
set_option maxRecDepth 100000 in
set_option maxHeartbeats 4000000 in
theorem m_X5_now (l : Launch) {D : va_G} {cs : Nat → ClassId} {ad : Nat → Nat} (hAd : adOK ad) (sz : Nat) {Ls : Nat → SL} {Hs : SL} {T : SL} {res : Int32} (h : f_X5_now Ls = some res) : Met l yX5_now wsX5_now rmX5_now (PA D cs sz (wA cs ad Ls Hs T) [.ref (ad 0)]) (va_Qi (fun r' (_ : Unit) => r' = res) (fun _ t => va_P D vwCl (wA cs ad Ls Hs T) t.heap) (Afr ad sz)) 0 0 (Afr ad sz) :=
  k_met (by decide) rfl (Nat.le_of_ble_eq_true rfl) hAd (fun p e s m below meth c ls C G hP hsz hl hS => by
    subst hsz
    exact w_X5_now_e C G  hP hS hl  h)
/-! X5 output -/
abbrev rmX5_output : Room := { frames := 1, cells := 0, slots := 0, locals := 20 }
theorem q_X5_output_0 : Cond.fieldLink RX5 10 "LineBuffers" "line" "LLineBuffers$Line;" ∈ wsX5_output := List.mem_of_getElem? (i := 1) rfl
theorem n_X5_output_X5 : ∀ x ∈ u_ws RX5 TX5 4, x ∈ wsX5_output := fun x h => List.mem_cons_of_mem _ (List.mem_append_left _ (List.mem_append_right _ h))
set_option maxRecDepth 100000 in
set_option maxHeartbeats 4000000 in
theorem w_X5_output_e {res : Int32} (C : Cx p s m args meth c cX5_output 1 (some .int) RX5 wsX5_output) (G : Gx D cs ad s) {Hs : SL} {T : SL} {Ls : Nat → SL} {H : Heap} {locs : List Loc} {ls : Array Slot} (hP : va_P D vwCl (wA cs ad Ls Hs T) H) (hS : va_S (Afr ad s.heap.size) s.heap H locs) (hl : lv_has ls 1 [(0, .ref (ad 0))]) (h : f_X5_output Ls = some res) : W p l e rmX5_output s m args below meth c H locs 0 0 (MQ below (va_Qi (fun r' (_ : Unit) => r' = res) (fun _ t => va_P D vwCl (wA cs ad Ls Hs T) t.heap) (Afr ad s.heap.size)) args s 0 0 (Afr ad s.heap.size)) (F0 m 0 ls []) := by
  unfold f_X5_output at h
  refine lv_aload_n C.1 C.2.1 dX5_output_0 rfl (lv_at hl 0 rfl) ?_
  refine k_getf C G hP g_obj rfl 0 (by decide) n_X5_output_X5 q_X5_output_0 (v := .ref (ad (5 + 14 * 0 + 0))) rfl dX5_output_1 ?_
  obtain ⟨r1, c2, h⟩ := bd_out h
  have hP := up_in (i := 0) hP
  refine k_callVi C G hP hS (m_X2_bottlesOut l G.2.1 _ (i := 0) (by decide) c2) (v_obj (i := 0) (by decide)) rfl (cwV 0 C.2.2.2.2.2.1 gX5_output_X2_bottlesOut rfl rfl rfl (by decide +kernel) ⟨Nat.le_of_ble_eq_true rfl, Nat.le_of_ble_eq_true rfl⟩) (As := []) rfl hl.1 rfl (Nat.le_of_ble_eq_true rfl) dX5_output_4 ⟨Nat.le_of_ble_eq_true rfl, Nat.le_of_ble_eq_true rfl⟩ (fun H locs hP hS => ?_)
  have hP := up_ou hP
  cases h
  exact k_iret C hP hS dX5_output_7
set_option maxRecDepth 100000 in
set_option maxHeartbeats 4000000 in
theorem m_X5_output (l : Launch) {D : va_G} {cs : Nat → ClassId} {ad : Nat → Nat} (hAd : adOK ad) (sz : Nat) {Ls : Nat → SL} {Hs : SL} {T : SL} {res : Int32} (h : f_X5_output Ls = some res) : Met l yX5_output wsX5_output rmX5_output (PA D cs sz (wA cs ad Ls Hs T) [.ref (ad 0)]) (va_Qi (fun r' (_ : Unit) => r' = res) (fun _ t => va_P D vwCl (wA cs ad Ls Hs T) t.heap) (Afr ad sz)) 0 0 (Afr ad sz) :=
  k_met (by decide) rfl (Nat.le_of_ble_eq_true rfl) hAd (fun p e s m below meth c ls C G hP hsz hl hS => by
    subst hsz
    exact w_X5_output_e C G  hP hS hl  h)
/-! X5 setting -/
abbrev rmX5_setting : Room := { frames := 7, cells := 2, slots := 12, locals := 117 }
theorem q_X5_setting_0 : Cond.fieldLink RX5 10 "LineBuffers" "line" "LLineBuffers$Line;" ∈ wsX5_setting := List.mem_of_getElem? (i := 1) rfl
theorem n_X5_setting_X5 : ∀ x ∈ u_ws RX5 TX5 4, x ∈ wsX5_setting := fun x h => List.mem_cons_of_mem _ (List.mem_append_left _ (List.mem_append_left _ (List.mem_append_left _ (List.mem_append_right _ h))))
theorem n_X5_setting_X2 : ∀ x ∈ u_ws RX2 TX2 4, x ∈ wsX5_setting := fun x h => List.mem_cons_of_mem _ (List.mem_append_left _ (List.mem_append_left _ (List.mem_append_right _ h)))
set_option maxRecDepth 100000 in
set_option maxHeartbeats 4000000 in
theorem w_X5_setting_e {res : Sum (Int32) Nat} (C : Cx p s m args meth c cX5_setting 3 (some .int) RX5 wsX5_setting) (G : Gx D cs ad s) (X : Tx l c ad s) {Hs : SL} {T : SL} {Ls : Nat → SL} {x1 : Int32} {x2 : Int32} {H : Heap} {locs : List Loc} {ls : Array Slot} (hP : va_P D vwCl (wA cs ad Ls Hs T) H) (hS : va_S (Afr ad s.heap.size) s.heap H locs) (hl : lv_has ls 3 [(0, .ref (ad 0)), (1, .int x1), (2, .int x2)]) (h : f_X5_setting Ls x1 x2 = some res) : W p l e rmX5_setting s m args below meth c H locs 0 0 (vx_MQ below (va_Qi (fun r' (u : Int32) => res = Sum.inl u ∧ r' = u) (fun (u : Int32) t => va_P D vwCl (wA cs ad Ls Hs T) t.heap) (Afr ad s.heap.size)) (vx_X (fun k : Nat => res = Sum.inr k) (fun E k t => E = exN k ∧ va_P D vwCl (wA cs ad Ls Hs T) t.heap) (Afr ad s.heap.size)) args s 2 12 (Afr ad s.heap.size)) (F0 m 0 ls []) := by
  unfold f_X5_setting at h
  refine lv_aload_n C.1 C.2.1 dX5_setting_0 rfl (lv_at hl 0 rfl) ?_
  refine lv_iload_n C.1 C.2.1 dX5_setting_1 rfl (lv_at hl 1 rfl) ?_
  obtain ⟨r1, c2, h⟩ := bd_out h
  refine k_callXVv C G X.2.2 hP hS (m_X5_needMachine l X.1 G.2.1 _ c2) g_obj rfl (cwV 1 C.2.2.2.2.2.1 gX5_setting_X5_needMachine rfl rfl rfl (by decide +kernel) ⟨Nat.le_of_ble_eq_true rfl, Nat.le_of_ble_eq_true rfl⟩) (As := [.int x1]) rfl hl.1 rfl (Nat.le_of_ble_eq_true rfl) dX5_setting_2 ⟨Nat.le_of_ble_eq_true rfl, Nat.le_of_ble_eq_true rfl⟩ (fun k E ce q9 H locs er hE hP hS hcell hv hcl => ?_) (fun H locs u er hP hS => ?_)
  · subst er
    have h : some (Sum.inr k) = some res := h
    cases h
    exact k_out C X hP hS rfl hE hcell hv hcl (by omega) (by omega)
  subst er
  have h := sx_l h
  refine lv_iload_n C.1 C.2.1 dX5_setting_5 rfl (lv_at hl 2 rfl) ?_
  refine lv_iconst (v := 5) C.1 C.2.1 dX5_setting_6 (by decide) ?_
  obtain ⟨r3, c4, h⟩ := bd_out h
  refine k_callXSv C G X.2.2 hP hS (m_X5_needWhat l X.1 G.2.1 _ c4) (va_cwS 2 C.2.2.2.2.2.1 gX5_setting_X5_needWhat rfl rfl rfl (by decide +kernel) ⟨Nat.le_of_ble_eq_true rfl, Nat.le_of_ble_eq_true rfl⟩) (As := [.int x2, .int 5]) rfl hl.1 rfl (Nat.le_of_ble_eq_true rfl) dX5_setting_7 ⟨Nat.le_of_ble_eq_true rfl, Nat.le_of_ble_eq_true rfl⟩ (fun k E ce q9 H locs er hE hP hS hcell hv hcl => ?_) (fun H locs u er hP hS => ?_)
  · subst er
    have h : some (Sum.inr k) = some res := h
    cases h
    exact k_out C X hP hS rfl hE hcell hv hcl (by omega) (by omega)
  subst er
  have h := sx_l h
  refine lv_aload_n C.1 C.2.1 dX5_setting_10 rfl (lv_at hl 0 rfl) ?_
  refine k_getf C G hP g_obj rfl 0 (by decide) n_X5_setting_X5 q_X5_setting_0 (v := .ref (ad (5 + 14 * 0 + 0))) rfl dX5_setting_11 ?_
  refine k_getfN C G hP (c_obj (i := 0) (by decide)) rfl 0 (by decide) n_X5_setting_X2 (List.mem_of_getElem? (i := 1) rfl) (v := .ref (ad (5 + 14 * 0 + 1))) rfl dX5_setting_14 ?_
  refine lv_iload_n C.1 C.2.1 dX5_setting_17 rfl (lv_at hl 1 rfl) ?_
  obtain ⟨g5, h⟩ := gd_out h
  have g5 := chk_in g5
  obtain ⟨kq6, ekq6, h⟩ := lt_out h
  have hkq6 : 2 ≤ kq6 ∧ kq6 < 10 := row_k g5 ekq6
  refine k_aaldR C G hP (c_rows (i := 0) (by decide)) g5 (b := ad (5 + 14 * 0 + kq6)) (by rw [ekq6]) dX5_setting_18 ?_
  refine lv_iconst (v := 0) C.1 C.2.1 dX5_setting_19 (by decide) ?_
  refine lv_iload_n C.1 C.2.1 dX5_setting_20 rfl (lv_at hl 2 rfl) ?_
  obtain ⟨v7, ev7, h⟩ := lt_out h
  refine k_iadd C ev7 dX5_setting_21 ?_
  obtain ⟨g8, h⟩ := gd_out h
  have g8 := chk_in g8
  obtain ⟨v9, ev9, h⟩ := lt_out h
  refine k_iald C G hP (c_row (i := 0) (by decide) hkq6) g8 (j := v7.toNatClampNeg) rfl ev9 dX5_setting_22 ?_
  cases h
  refine W.widen (k := 2) (n := 12) (by omega) (by omega) ?_
  exact k_iretX C hP hS rfl rfl rfl dX5_setting_23
set_option maxRecDepth 100000 in
set_option maxHeartbeats 4000000 in
theorem m_X5_setting (l : Launch) (hfl : l.stackTraces = false) {D : va_G} {cs : Nat → ClassId} {ad : Nat → Nat} (hAd : adOK ad) (sz : Nat) {Ls : Nat → SL} {Hs : SL} {T : SL} {x1 : Int32} {x2 : Int32} {res : Sum (Int32) Nat} (h : f_X5_setting Ls x1 x2 = some res) : vx_Met l yX5_setting wsX5_setting rmX5_setting (PX D cs ad sz (wA cs ad Ls Hs T) [.ref (ad 0), .int x1, .int x2]) (va_Qi (fun r' (u : Int32) => res = Sum.inl u ∧ r' = u) (fun (u : Int32) t => va_P D vwCl (wA cs ad Ls Hs T) t.heap) (Afr ad sz)) (vx_X (fun k : Nat => res = Sum.inr k) (fun E k t => E = exN k ∧ va_P D vwCl (wA cs ad Ls Hs T) t.heap) (Afr ad sz)) 2 12 (Afr ad sz) :=
  k_metX hfl (by decide) rfl (Nat.le_of_ble_eq_true rfl) hAd (fun p e s m below meth c ls C G X hP hsz hl hS => by
    subst hsz
    exact w_X5_setting_e C G X  hP hS hl  h)
/-! X5 machine -/
abbrev rmX5_machine : Room := { frames := 7, cells := 2, slots := 12, locals := 117 }
theorem q_X5_machine_0 : Cond.fieldLink RX5 10 "LineBuffers" "line" "LLineBuffers$Line;" ∈ wsX5_machine := List.mem_of_getElem? (i := 1) rfl
theorem n_X5_machine_X5 : ∀ x ∈ u_ws RX5 TX5 4, x ∈ wsX5_machine := fun x h => List.mem_cons_of_mem _ (List.mem_append_left _ (List.mem_append_left _ (List.mem_append_left _ (List.mem_append_right _ h))))
theorem n_X5_machine_X2 : ∀ x ∈ u_ws RX2 TX2 4, x ∈ wsX5_machine := fun x h => List.mem_cons_of_mem _ (List.mem_append_left _ (List.mem_append_left _ (List.mem_append_right _ h)))
set_option maxRecDepth 100000 in
set_option maxHeartbeats 4000000 in
theorem w_X5_machine_e {res : Sum (Int32) Nat} (C : Cx p s m args meth c cX5_machine 3 (some .int) RX5 wsX5_machine) (G : Gx D cs ad s) (X : Tx l c ad s) {Hs : SL} {T : SL} {Ls : Nat → SL} {x1 : Int32} {x2 : Int32} {H : Heap} {locs : List Loc} {ls : Array Slot} (hP : va_P D vwCl (wA cs ad Ls Hs T) H) (hS : va_S (Afr ad s.heap.size) s.heap H locs) (hl : lv_has ls 3 [(0, .ref (ad 0)), (1, .int x1), (2, .int x2)]) (h : f_X5_machine Ls x1 x2 = some res) : W p l e rmX5_machine s m args below meth c H locs 0 0 (vx_MQ below (va_Qi (fun r' (u : Int32) => res = Sum.inl u ∧ r' = u) (fun (u : Int32) t => va_P D vwCl (wA cs ad Ls Hs T) t.heap) (Afr ad s.heap.size)) (vx_X (fun k : Nat => res = Sum.inr k) (fun E k t => E = exN k ∧ va_P D vwCl (wA cs ad Ls Hs T) t.heap) (Afr ad s.heap.size)) args s 2 12 (Afr ad s.heap.size)) (F0 m 0 ls []) := by
  unfold f_X5_machine at h
  refine lv_aload_n C.1 C.2.1 dX5_machine_0 rfl (lv_at hl 0 rfl) ?_
  refine lv_iload_n C.1 C.2.1 dX5_machine_1 rfl (lv_at hl 1 rfl) ?_
  obtain ⟨r1, c2, h⟩ := bd_out h
  refine k_callXVv C G X.2.2 hP hS (m_X5_needMachine l X.1 G.2.1 _ c2) g_obj rfl (cwV 1 C.2.2.2.2.2.1 gX5_machine_X5_needMachine rfl rfl rfl (by decide +kernel) ⟨Nat.le_of_ble_eq_true rfl, Nat.le_of_ble_eq_true rfl⟩) (As := [.int x1]) rfl hl.1 rfl (Nat.le_of_ble_eq_true rfl) dX5_machine_2 ⟨Nat.le_of_ble_eq_true rfl, Nat.le_of_ble_eq_true rfl⟩ (fun k E ce q9 H locs er hE hP hS hcell hv hcl => ?_) (fun H locs u er hP hS => ?_)
  · subst er
    have h : some (Sum.inr k) = some res := h
    cases h
    exact k_out C X hP hS rfl hE hcell hv hcl (by omega) (by omega)
  subst er
  have h := sx_l h
  refine lv_iload_n C.1 C.2.1 dX5_machine_5 rfl (lv_at hl 2 rfl) ?_
  refine lv_iconst (v := 4) C.1 C.2.1 dX5_machine_6 (by decide) ?_
  obtain ⟨r3, c4, h⟩ := bd_out h
  refine k_callXSv C G X.2.2 hP hS (m_X5_needWhat l X.1 G.2.1 _ c4) (va_cwS 2 C.2.2.2.2.2.1 gX5_machine_X5_needWhat rfl rfl rfl (by decide +kernel) ⟨Nat.le_of_ble_eq_true rfl, Nat.le_of_ble_eq_true rfl⟩) (As := [.int x2, .int 4]) rfl hl.1 rfl (Nat.le_of_ble_eq_true rfl) dX5_machine_7 ⟨Nat.le_of_ble_eq_true rfl, Nat.le_of_ble_eq_true rfl⟩ (fun k E ce q9 H locs er hE hP hS hcell hv hcl => ?_) (fun H locs u er hP hS => ?_)
  · subst er
    have h : some (Sum.inr k) = some res := h
    cases h
    exact k_out C X hP hS rfl hE hcell hv hcl (by omega) (by omega)
  subst er
  have h := sx_l h
  refine lv_aload_n C.1 C.2.1 dX5_machine_10 rfl (lv_at hl 0 rfl) ?_
  refine k_getf C G hP g_obj rfl 0 (by decide) n_X5_machine_X5 q_X5_machine_0 (v := .ref (ad (5 + 14 * 0 + 0))) rfl dX5_machine_11 ?_
  refine k_getfN C G hP (c_obj (i := 0) (by decide)) rfl 0 (by decide) n_X5_machine_X2 (List.mem_of_getElem? (i := 1) rfl) (v := .ref (ad (5 + 14 * 0 + 1))) rfl dX5_machine_14 ?_
  refine lv_iload_n C.1 C.2.1 dX5_machine_17 rfl (lv_at hl 1 rfl) ?_
  obtain ⟨g5, h⟩ := gd_out h
  have g5 := chk_in g5
  obtain ⟨kq6, ekq6, h⟩ := lt_out h
  have hkq6 : 2 ≤ kq6 ∧ kq6 < 10 := row_k g5 ekq6
  refine k_aaldR C G hP (c_rows (i := 0) (by decide)) g5 (b := ad (5 + 14 * 0 + kq6)) (by rw [ekq6]) dX5_machine_18 ?_
  refine lv_iconst (v := 5) C.1 C.2.1 dX5_machine_19 (by decide) ?_
  refine lv_iload_n C.1 C.2.1 dX5_machine_20 rfl (lv_at hl 2 rfl) ?_
  obtain ⟨v7, ev7, h⟩ := lt_out h
  refine k_iadd C ev7 dX5_machine_21 ?_
  obtain ⟨g8, h⟩ := gd_out h
  have g8 := chk_in g8
  obtain ⟨v9, ev9, h⟩ := lt_out h
  refine k_iald C G hP (c_row (i := 0) (by decide) hkq6) g8 (j := v7.toNatClampNeg) rfl ev9 dX5_machine_22 ?_
  cases h
  refine W.widen (k := 2) (n := 12) (by omega) (by omega) ?_
  exact k_iretX C hP hS rfl rfl rfl dX5_machine_23
set_option maxRecDepth 100000 in
set_option maxHeartbeats 4000000 in
theorem m_X5_machine (l : Launch) (hfl : l.stackTraces = false) {D : va_G} {cs : Nat → ClassId} {ad : Nat → Nat} (hAd : adOK ad) (sz : Nat) {Ls : Nat → SL} {Hs : SL} {T : SL} {x1 : Int32} {x2 : Int32} {res : Sum (Int32) Nat} (h : f_X5_machine Ls x1 x2 = some res) : vx_Met l yX5_machine wsX5_machine rmX5_machine (PX D cs ad sz (wA cs ad Ls Hs T) [.ref (ad 0), .int x1, .int x2]) (va_Qi (fun r' (u : Int32) => res = Sum.inl u ∧ r' = u) (fun (u : Int32) t => va_P D vwCl (wA cs ad Ls Hs T) t.heap) (Afr ad sz)) (vx_X (fun k : Nat => res = Sum.inr k) (fun E k t => E = exN k ∧ va_P D vwCl (wA cs ad Ls Hs T) t.heap) (Afr ad sz)) 2 12 (Afr ad sz) :=
  k_metX hfl (by decide) rfl (Nat.le_of_ble_eq_true rfl) hAd (fun p e s m below meth c ls C G X hP hsz hl hS => by
    subst hsz
    exact w_X5_machine_e C G X  hP hS hl  h)
/-! X5 count -/
abbrev rmX5_count : Room := { frames := 7, cells := 2, slots := 12, locals := 117 }
theorem q_X5_count_0 : Cond.fieldLink RX5 10 "LineBuffers" "line" "LLineBuffers$Line;" ∈ wsX5_count := List.mem_of_getElem? (i := 1) rfl
theorem n_X5_count_X5 : ∀ x ∈ u_ws RX5 TX5 4, x ∈ wsX5_count := fun x h => List.mem_cons_of_mem _ (List.mem_append_left _ (List.mem_append_left _ (List.mem_append_left _ (List.mem_append_right _ h))))
theorem n_X5_count_X2 : ∀ x ∈ u_ws RX2 TX2 4, x ∈ wsX5_count := fun x h => List.mem_cons_of_mem _ (List.mem_append_left _ (List.mem_append_left _ (List.mem_append_right _ h)))
set_option maxRecDepth 100000 in
set_option maxHeartbeats 4000000 in
theorem w_X5_count_e {res : Sum (Int32) Nat} (C : Cx p s m args meth c cX5_count 3 (some .int) RX5 wsX5_count) (G : Gx D cs ad s) (X : Tx l c ad s) {Hs : SL} {T : SL} {Ls : Nat → SL} {x1 : Int32} {x2 : Int32} {H : Heap} {locs : List Loc} {ls : Array Slot} (hP : va_P D vwCl (wA cs ad Ls Hs T) H) (hS : va_S (Afr ad s.heap.size) s.heap H locs) (hl : lv_has ls 3 [(0, .ref (ad 0)), (1, .int x1), (2, .int x2)]) (h : f_X5_count Ls x1 x2 = some res) : W p l e rmX5_count s m args below meth c H locs 0 0 (vx_MQ below (va_Qi (fun r' (u : Int32) => res = Sum.inl u ∧ r' = u) (fun (u : Int32) t => va_P D vwCl (wA cs ad Ls Hs T) t.heap) (Afr ad s.heap.size)) (vx_X (fun k : Nat => res = Sum.inr k) (fun E k t => E = exN k ∧ va_P D vwCl (wA cs ad Ls Hs T) t.heap) (Afr ad s.heap.size)) args s 2 12 (Afr ad s.heap.size)) (F0 m 0 ls []) := by
  unfold f_X5_count at h
  refine lv_aload_n C.1 C.2.1 dX5_count_0 rfl (lv_at hl 0 rfl) ?_
  refine lv_iload_n C.1 C.2.1 dX5_count_1 rfl (lv_at hl 1 rfl) ?_
  obtain ⟨r1, c2, h⟩ := bd_out h
  refine k_callXVv C G X.2.2 hP hS (m_X5_needMachine l X.1 G.2.1 _ c2) g_obj rfl (cwV 1 C.2.2.2.2.2.1 gX5_count_X5_needMachine rfl rfl rfl (by decide +kernel) ⟨Nat.le_of_ble_eq_true rfl, Nat.le_of_ble_eq_true rfl⟩) (As := [.int x1]) rfl hl.1 rfl (Nat.le_of_ble_eq_true rfl) dX5_count_2 ⟨Nat.le_of_ble_eq_true rfl, Nat.le_of_ble_eq_true rfl⟩ (fun k E ce q9 H locs er hE hP hS hcell hv hcl => ?_) (fun H locs u er hP hS => ?_)
  · subst er
    have h : some (Sum.inr k) = some res := h
    cases h
    exact k_out C X hP hS rfl hE hcell hv hcl (by omega) (by omega)
  subst er
  have h := sx_l h
  refine lv_iload_n C.1 C.2.1 dX5_count_5 rfl (lv_at hl 2 rfl) ?_
  refine lv_bipush (v := 6) C.1 C.2.1 dX5_count_6 (by decide) ?_
  obtain ⟨r3, c4, h⟩ := bd_out h
  refine k_callXSv C G X.2.2 hP hS (m_X5_needWhat l X.1 G.2.1 _ c4) (va_cwS 2 C.2.2.2.2.2.1 gX5_count_X5_needWhat rfl rfl rfl (by decide +kernel) ⟨Nat.le_of_ble_eq_true rfl, Nat.le_of_ble_eq_true rfl⟩) (As := [.int x2, .int 6]) rfl hl.1 rfl (Nat.le_of_ble_eq_true rfl) dX5_count_8 ⟨Nat.le_of_ble_eq_true rfl, Nat.le_of_ble_eq_true rfl⟩ (fun k E ce q9 H locs er hE hP hS hcell hv hcl => ?_) (fun H locs u er hP hS => ?_)
  · subst er
    have h : some (Sum.inr k) = some res := h
    cases h
    exact k_out C X hP hS rfl hE hcell hv hcl (by omega) (by omega)
  subst er
  have h := sx_l h
  refine lv_aload_n C.1 C.2.1 dX5_count_11 rfl (lv_at hl 0 rfl) ?_
  refine k_getf C G hP g_obj rfl 0 (by decide) n_X5_count_X5 q_X5_count_0 (v := .ref (ad (5 + 14 * 0 + 0))) rfl dX5_count_12 ?_
  refine k_getfN C G hP (c_obj (i := 0) (by decide)) rfl 0 (by decide) n_X5_count_X2 (List.mem_of_getElem? (i := 1) rfl) (v := .ref (ad (5 + 14 * 0 + 1))) rfl dX5_count_15 ?_
  refine lv_iload_n C.1 C.2.1 dX5_count_18 rfl (lv_at hl 1 rfl) ?_
  obtain ⟨g5, h⟩ := gd_out h
  have g5 := chk_in g5
  obtain ⟨kq6, ekq6, h⟩ := lt_out h
  have hkq6 : 2 ≤ kq6 ∧ kq6 < 10 := row_k g5 ekq6
  refine k_aaldR C G hP (c_rows (i := 0) (by decide)) g5 (b := ad (5 + 14 * 0 + kq6)) (by rw [ekq6]) dX5_count_19 ?_
  refine lv_bipush (v := 9) C.1 C.2.1 dX5_count_20 (by decide) ?_
  refine lv_iload_n C.1 C.2.1 dX5_count_22 rfl (lv_at hl 2 rfl) ?_
  obtain ⟨v7, ev7, h⟩ := lt_out h
  refine k_iadd C ev7 dX5_count_23 ?_
  obtain ⟨g8, h⟩ := gd_out h
  have g8 := chk_in g8
  obtain ⟨v9, ev9, h⟩ := lt_out h
  refine k_iald C G hP (c_row (i := 0) (by decide) hkq6) g8 (j := v7.toNatClampNeg) rfl ev9 dX5_count_24 ?_
  cases h
  refine W.widen (k := 2) (n := 12) (by omega) (by omega) ?_
  exact k_iretX C hP hS rfl rfl rfl dX5_count_25
set_option maxRecDepth 100000 in
set_option maxHeartbeats 4000000 in
theorem m_X5_count (l : Launch) (hfl : l.stackTraces = false) {D : va_G} {cs : Nat → ClassId} {ad : Nat → Nat} (hAd : adOK ad) (sz : Nat) {Ls : Nat → SL} {Hs : SL} {T : SL} {x1 : Int32} {x2 : Int32} {res : Sum (Int32) Nat} (h : f_X5_count Ls x1 x2 = some res) : vx_Met l yX5_count wsX5_count rmX5_count (PX D cs ad sz (wA cs ad Ls Hs T) [.ref (ad 0), .int x1, .int x2]) (va_Qi (fun r' (u : Int32) => res = Sum.inl u ∧ r' = u) (fun (u : Int32) t => va_P D vwCl (wA cs ad Ls Hs T) t.heap) (Afr ad sz)) (vx_X (fun k : Nat => res = Sum.inr k) (fun E k t => E = exN k ∧ va_P D vwCl (wA cs ad Ls Hs T) t.heap) (Afr ad sz)) 2 12 (Afr ad sz) :=
  k_metX hfl (by decide) rfl (Nat.le_of_ble_eq_true rfl) hAd (fun p e s m below meth c ls C G X hP hsz hl hS => by
    subst hsz
    exact w_X5_count_e C G X  hP hS hl  h)
/-! X5 inside -/
abbrev rmX5_inside : Room := { frames := 1, cells := 0, slots := 0, locals := 22 }
theorem q_X5_inside_0 : Cond.fieldLink RX5 10 "LineBuffers" "line" "LLineBuffers$Line;" ∈ wsX5_inside := List.mem_of_getElem? (i := 1) rfl
theorem n_X5_inside_X5 : ∀ x ∈ u_ws RX5 TX5 4, x ∈ wsX5_inside := fun x h => List.mem_cons_of_mem _ (List.mem_append_left _ (List.mem_append_right _ h))
set_option maxRecDepth 100000 in
set_option maxHeartbeats 4000000 in
theorem w_X5_inside_e {res : Int32} (C : Cx p s m args meth c cX5_inside 1 (some .int) RX5 wsX5_inside) (G : Gx D cs ad s) {Hs : SL} {T : SL} {Ls : Nat → SL} {H : Heap} {locs : List Loc} {ls : Array Slot} (hP : va_P D vwCl (wA cs ad Ls Hs T) H) (hS : va_S (Afr ad s.heap.size) s.heap H locs) (hl : lv_has ls 1 [(0, .ref (ad 0))]) (h : f_X5_inside Ls = some res) : W p l e rmX5_inside s m args below meth c H locs 0 0 (MQ below (va_Qi (fun r' (_ : Unit) => r' = res) (fun _ t => va_P D vwCl (wA cs ad Ls Hs T) t.heap) (Afr ad s.heap.size)) args s 0 0 (Afr ad s.heap.size)) (F0 m 0 ls []) := by
  unfold f_X5_inside at h
  refine lv_aload_n C.1 C.2.1 dX5_inside_0 rfl (lv_at hl 0 rfl) ?_
  refine k_getf C G hP g_obj rfl 0 (by decide) n_X5_inside_X5 q_X5_inside_0 (v := .ref (ad (5 + 14 * 0 + 0))) rfl dX5_inside_1 ?_
  obtain ⟨r1, c2, h⟩ := bd_out h
  have hP := up_in (i := 0) hP
  refine k_callVi C G hP hS (m_X2_bottlesInside l G.2.1 _ (i := 0) (by decide) c2) (v_obj (i := 0) (by decide)) rfl (cwV 0 C.2.2.2.2.2.1 gX5_inside_X2_bottlesInside rfl rfl rfl (by decide +kernel) ⟨Nat.le_of_ble_eq_true rfl, Nat.le_of_ble_eq_true rfl⟩) (As := []) rfl hl.1 rfl (Nat.le_of_ble_eq_true rfl) dX5_inside_4 ⟨Nat.le_of_ble_eq_true rfl, Nat.le_of_ble_eq_true rfl⟩ (fun H locs hP hS => ?_)
  have hP := up_ou hP
  cases h
  exact k_iret C hP hS dX5_inside_7
set_option maxRecDepth 100000 in
set_option maxHeartbeats 4000000 in
theorem m_X5_inside (l : Launch) {D : va_G} {cs : Nat → ClassId} {ad : Nat → Nat} (hAd : adOK ad) (sz : Nat) {Ls : Nat → SL} {Hs : SL} {T : SL} {res : Int32} (h : f_X5_inside Ls = some res) : Met l yX5_inside wsX5_inside rmX5_inside (PA D cs sz (wA cs ad Ls Hs T) [.ref (ad 0)]) (va_Qi (fun r' (_ : Unit) => r' = res) (fun _ t => va_P D vwCl (wA cs ad Ls Hs T) t.heap) (Afr ad sz)) 0 0 (Afr ad sz) :=
  k_met (by decide) rfl (Nat.le_of_ble_eq_true rfl) hAd (fun p e s m below meth c ls C G hP hsz hl hS => by
    subst hsz
    exact w_X5_inside_e C G  hP hS hl  h)
/-! X5 needHorizon -/
abbrev rmX5_needHorizon : Room := { frames := 6, cells := 1, slots := 6, locals := 96 }
theorem q_X5_needHorizon_0 : Cond.classLink RX5 41 "java/lang/IllegalArgumentException" ∈ wsX5_needHorizon := List.mem_of_getElem? (i := 1) rfl
theorem q_X5_needHorizon_1 : Cond.initialized "java/lang/IllegalArgumentException" ∈ wsX5_needHorizon := List.mem_of_getElem? (i := 2) rfl
set_option maxRecDepth 100000 in
set_option maxHeartbeats 4000000 in
theorem w_X5_needHorizon_e {res : Sum (Unit) Nat} (C : Cx p s m args meth c cX5_needHorizon 2 none RX5 wsX5_needHorizon) (G : Gx D cs ad s) (X : Tx l c ad s) {Ls : Nat → SL} {Hs : SL} {T : SL} {x0 : Int32} {x1 : Int32} {H : Heap} {locs : List Loc} {ls : Array Slot} (hP : va_P D vwCl (wA cs ad Ls Hs T) H) (hS : va_S (Afr ad s.heap.size) s.heap H locs) (hl : lv_has ls 2 [(0, .int x0), (1, .int x1)]) (h : f_X5_needHorizon x0 x1 = some res) : W p l e rmX5_needHorizon s m args below meth c H locs 0 0 (vx_MQ below (va_Qv (fun (u : Unit) => res = Sum.inl u) (fun (u : Unit) t => va_P D vwCl (wA cs ad Ls Hs T) t.heap) (Afr ad s.heap.size)) (vx_X (fun k : Nat => res = Sum.inr k) (fun E k t => E = exN k ∧ va_P D vwCl (wA cs ad Ls Hs T) t.heap) (Afr ad s.heap.size)) args s 1 6 (Afr ad s.heap.size)) (F0 m 0 ls []) := by
  unfold f_X5_needHorizon at h
  refine lv_iload_n C.1 C.2.1 dX5_needHorizon_0 rfl (lv_at hl 0 rfl) ?_
  refine lv_iconst (v := 1) C.1 C.2.1 dX5_needHorizon_1 (by decide) ?_
  refine lv_iload_n C.1 C.2.1 dX5_needHorizon_2 rfl (lv_at hl 1 rfl) ?_
  obtain ⟨r1, c2, h⟩ := bd_out h
  refine k_callSi C G hP hS (m_X5_isIn l G.2.1 _  c2) (va_cwS 3 C.2.2.2.2.2.1 gX5_needHorizon_X5_isIn rfl rfl rfl (by decide +kernel) ⟨Nat.le_of_ble_eq_true rfl, Nat.le_of_ble_eq_true rfl⟩) (As := [.int x0, .int 1, .int x1]) rfl hl.1 rfl (Nat.le_of_ble_eq_true rfl) dX5_needHorizon_3 ⟨Nat.le_of_ble_eq_true rfl, Nat.le_of_ble_eq_true rfl⟩ (fun H locs hP hS => ?_)
  refine lv_if_ne (tgt := 19) C.1 C.2.1 dX5_needHorizon_6 (by decide) (fun c3 => ?_) (fun c3 => ?_)
  · have h := if_t c3 h
    cases h
    refine W.widen (k := 1) (n := 6) (by omega) (by omega) ?_
    exact k_vretX C hP hS rfl rfl dX5_needHorizon_19
  · have h := if_n c3 h
    cases h
    exact k_throw (k := 1) (text := "ticks is out of range") C X hP hS rfl (by decide) q_X5_needHorizon_0 q_X5_needHorizon_1 (List.mem_of_getElem? (i := 9) rfl) (fun w h => List.mem_cons_of_mem _ (List.mem_append_right _ h)) tw_45 tg_45 hl.1 dX5_needHorizon_9 dX5_needHorizon_12 dX5_needHorizon_13 dX5_needHorizon_15 dX5_needHorizon_18 (Nat.le_of_ble_eq_true rfl) (Nat.le_of_ble_eq_true rfl) (Nat.le_of_ble_eq_true rfl) (Nat.le_of_ble_eq_true rfl) (by omega) (by omega)
set_option maxRecDepth 100000 in
set_option maxHeartbeats 4000000 in
theorem m_X5_needHorizon (l : Launch) (hfl : l.stackTraces = false) {D : va_G} {cs : Nat → ClassId} {ad : Nat → Nat} (hAd : adOK ad) (sz : Nat) {Ls : Nat → SL} {Hs : SL} {T : SL} {x0 : Int32} {x1 : Int32} {res : Sum (Unit) Nat} (h : f_X5_needHorizon x0 x1 = some res) : vx_Met l yX5_needHorizon wsX5_needHorizon rmX5_needHorizon (PX D cs ad sz (wA cs ad Ls Hs T) [.int x0, .int x1]) (va_Qv (fun (u : Unit) => res = Sum.inl u) (fun (u : Unit) t => va_P D vwCl (wA cs ad Ls Hs T) t.heap) (Afr ad sz)) (vx_X (fun k : Nat => res = Sum.inr k) (fun E k t => E = exN k ∧ va_P D vwCl (wA cs ad Ls Hs T) t.heap) (Afr ad sz)) 1 6 (Afr ad sz) :=
  k_metX hfl (by decide) rfl (Nat.le_of_ble_eq_true rfl) hAd (fun p e s m below meth c ls C G X hP hsz hl hS => by
    subst hsz
    exact w_X5_needHorizon_e C G X  hP hS hl  h)
/-! X5 bound -/
abbrev rmX5_bound : Room := { frames := 7, cells := 2, slots := 12, locals := 123 }
theorem q_X5_bound_0 : Cond.fieldLink RX5 10 "LineBuffers" "line" "LLineBuffers$Line;" ∈ wsX5_bound := List.mem_of_getElem? (i := 1) rfl
theorem n_X5_bound_X5 : ∀ x ∈ u_ws RX5 TX5 4, x ∈ wsX5_bound := fun x h => List.mem_cons_of_mem _ (List.mem_append_left _ (List.mem_append_left _ (List.mem_append_left _ (List.mem_append_left _ (List.mem_append_right _ h)))))
set_option maxRecDepth 100000 in
set_option maxHeartbeats 4000000 in
theorem w_X5_bound_e {res : Sum (Int32 × (Nat → SL)) Nat} (C : Cx p s m args meth c cX5_bound 2 (some .int) RX5 wsX5_bound) (G : Gx D cs ad s) (X : Tx l c ad s) {Hs : SL} {T : SL} {Ls : Nat → SL} {x1 : Int32} {H : Heap} {locs : List Loc} {ls : Array Slot} (hP : va_P D vwCl (wA cs ad Ls Hs T) H) (hS : va_S (Afr ad s.heap.size) s.heap H locs) (hl : lv_has ls 2 [(0, .ref (ad 0)), (1, .int x1)]) (h : f_X5_bound Ls x1 = some res) : W p l e rmX5_bound s m args below meth c H locs 0 0 (vx_MQ below (va_Qi (fun r' (u : Int32 × (Nat → SL)) => res = Sum.inl u ∧ r' = u.1) (fun (u : Int32 × (Nat → SL)) t => va_P D vwCl (wA cs ad u.2 Hs T) t.heap) (Afr ad s.heap.size)) (vx_X (fun k : Nat => res = Sum.inr k) (fun E k t => E = exN k ∧ va_P D vwCl (wA cs ad Ls Hs T) t.heap) (Afr ad s.heap.size)) args s 2 12 (Afr ad s.heap.size)) (F0 m 0 ls []) := by
  unfold f_X5_bound at h
  refine lv_iload_n C.1 C.2.1 dX5_bound_0 rfl (lv_at hl 1 rfl) ?_
  refine lv_sipush (v := 10000) C.1 C.2.1 dX5_bound_1 (by decide) ?_
  obtain ⟨r1, c2, h⟩ := bd_out h
  refine k_callXSv C G X.2.2 hP hS (m_X5_needHorizon l X.1 G.2.1 _ c2) (va_cwS 2 C.2.2.2.2.2.1 gX5_bound_X5_needHorizon rfl rfl rfl (by decide +kernel) ⟨Nat.le_of_ble_eq_true rfl, Nat.le_of_ble_eq_true rfl⟩) (As := [.int x1, .int 10000]) rfl hl.1 rfl (Nat.le_of_ble_eq_true rfl) dX5_bound_4 ⟨Nat.le_of_ble_eq_true rfl, Nat.le_of_ble_eq_true rfl⟩ (fun k E ce q9 H locs er hE hP hS hcell hv hcl => ?_) (fun H locs u er hP hS => ?_)
  · subst er
    have h : some (Sum.inr k) = some res := h
    cases h
    exact k_out C X hP hS rfl hE hcell hv hcl (by omega) (by omega)
  subst er
  have h := sx_l h
  refine lv_aload_n C.1 C.2.1 dX5_bound_7 rfl (lv_at hl 0 rfl) ?_
  refine lv_iconst (v := 1) C.1 C.2.1 dX5_bound_8 (by decide) ?_
  obtain ⟨r3, c4, h⟩ := bd_out h
  refine k_callXVv C G X.2.2 hP hS (m_X5_needMachines l X.1 G.2.1 _ c4) g_obj rfl (cwV 1 C.2.2.2.2.2.1 gX5_bound_X5_needMachines rfl rfl rfl (by decide +kernel) ⟨Nat.le_of_ble_eq_true rfl, Nat.le_of_ble_eq_true rfl⟩) (As := [.int 1]) rfl hl.1 rfl (Nat.le_of_ble_eq_true rfl) dX5_bound_9 ⟨Nat.le_of_ble_eq_true rfl, Nat.le_of_ble_eq_true rfl⟩ (fun k E ce q9 H locs er hE hP hS hcell hv hcl => ?_) (fun H locs u er hP hS => ?_)
  · subst er
    have h : some (Sum.inr k) = some res := h
    cases h
    exact k_out C X hP hS rfl hE hcell hv hcl (by omega) (by omega)
  subst er
  have h := sx_l h
  refine lv_aload_n C.1 C.2.1 dX5_bound_12 rfl (lv_at hl 0 rfl) ?_
  refine k_getf C G hP g_obj rfl 0 (by decide) n_X5_bound_X5 q_X5_bound_0 (v := .ref (ad (5 + 14 * 0 + 0))) rfl dX5_bound_13 ?_
  refine lv_aload_n C.1 C.2.1 dX5_bound_16 rfl (lv_at hl 0 rfl) ?_
  refine k_getf C G hP g_obj rfl 0 (by decide) n_X5_bound_X5 q_X5_bound_0 (v := .ref (ad (5 + 14 * 0 + 0))) rfl dX5_bound_17 ?_
  refine lv_iload_n C.1 C.2.1 dX5_bound_20 rfl (lv_at hl 1 rfl) ?_
  obtain ⟨r5, L6, c7, h⟩ := bd2_out h
  have hP := up_in (i := 0) hP
  refine k_callVi C G hP hS (m_X2_findSlowest l G.2.1 _ (i := 0) (by decide) c7) (v_obj (i := 0) (by decide)) rfl (cwV 1 C.2.2.2.2.2.1 gX5_bound_X2_findSlowest rfl rfl rfl (by decide +kernel) ⟨Nat.le_of_ble_eq_true rfl, Nat.le_of_ble_eq_true rfl⟩) (As := [.int x1]) rfl hl.1 rfl (Nat.le_of_ble_eq_true rfl) dX5_bound_21 ⟨Nat.le_of_ble_eq_true rfl, Nat.le_of_ble_eq_true rfl⟩ (fun H locs hP hS => ?_)
  obtain ⟨Ls8, eLs8, h⟩ := lt_out h
  rw [← eLs8] at hP
  refine lv_iload_n C.1 C.2.1 dX5_bound_24 rfl (lv_at hl 1 rfl) ?_
  obtain ⟨r9, L10, c11, h⟩ := bd2_out h
  have hP := up_in (i := 0) hP
  refine k_callVi C G hP hS (m_X2_mostBottles l G.2.1 _ (i := 0) (by decide) c11) (v_obj (i := 0) (by decide)) rfl (cwV 2 C.2.2.2.2.2.1 gX5_bound_X2_mostBottles rfl rfl rfl (by decide +kernel) ⟨Nat.le_of_ble_eq_true rfl, Nat.le_of_ble_eq_true rfl⟩) (As := [.int r5, .int x1]) rfl hl.1 rfl (Nat.le_of_ble_eq_true rfl) dX5_bound_25 ⟨Nat.le_of_ble_eq_true rfl, Nat.le_of_ble_eq_true rfl⟩ (fun H locs hP hS => ?_)
  obtain ⟨Ls12, eLs12, h⟩ := lt_out h
  rw [← eLs12] at hP
  cases h
  refine W.widen (k := 2) (n := 12) (by omega) (by omega) ?_
  exact k_iretX C hP hS rfl rfl rfl dX5_bound_28
set_option maxRecDepth 100000 in
set_option maxHeartbeats 4000000 in
theorem m_X5_bound (l : Launch) (hfl : l.stackTraces = false) {D : va_G} {cs : Nat → ClassId} {ad : Nat → Nat} (hAd : adOK ad) (sz : Nat) {Ls : Nat → SL} {Hs : SL} {T : SL} {x1 : Int32} {res : Sum (Int32 × (Nat → SL)) Nat} (h : f_X5_bound Ls x1 = some res) : vx_Met l yX5_bound wsX5_bound rmX5_bound (PX D cs ad sz (wA cs ad Ls Hs T) [.ref (ad 0), .int x1]) (va_Qi (fun r' (u : Int32 × (Nat → SL)) => res = Sum.inl u ∧ r' = u.1) (fun (u : Int32 × (Nat → SL)) t => va_P D vwCl (wA cs ad u.2 Hs T) t.heap) (Afr ad sz)) (vx_X (fun k : Nat => res = Sum.inr k) (fun E k t => E = exN k ∧ va_P D vwCl (wA cs ad Ls Hs T) t.heap) (Afr ad sz)) 2 12 (Afr ad sz) :=
  k_metX hfl (by decide) rfl (Nat.le_of_ble_eq_true rfl) hAd (fun p e s m below meth c ls C G X hP hsz hl hS => by
    subst hsz
    exact w_X5_bound_e C G X  hP hS hl  h)
/-! X5 limiting -/
abbrev rmX5_limiting : Room := { frames := 7, cells := 1, slots := 6, locals := 117 }
theorem q_X5_limiting_0 : Cond.fieldLink RX5 10 "LineBuffers" "line" "LLineBuffers$Line;" ∈ wsX5_limiting := List.mem_of_getElem? (i := 1) rfl
theorem n_X5_limiting_X5 : ∀ x ∈ u_ws RX5 TX5 4, x ∈ wsX5_limiting := fun x h => List.mem_cons_of_mem _ (List.mem_append_left _ (List.mem_append_left _ (List.mem_append_right _ h)))
set_option maxRecDepth 100000 in
set_option maxHeartbeats 4000000 in
theorem w_X5_limiting_e {res : Sum (Int32) Nat} (C : Cx p s m args meth c cX5_limiting 1 (some .int) RX5 wsX5_limiting) (G : Gx D cs ad s) (X : Tx l c ad s) {Hs : SL} {T : SL} {Ls : Nat → SL} {H : Heap} {locs : List Loc} {ls : Array Slot} (hP : va_P D vwCl (wA cs ad Ls Hs T) H) (hS : va_S (Afr ad s.heap.size) s.heap H locs) (hl : lv_has ls 1 [(0, .ref (ad 0))]) (h : f_X5_limiting Ls = some res) : W p l e rmX5_limiting s m args below meth c H locs 0 0 (vx_MQ below (va_Qi (fun r' (u : Int32) => res = Sum.inl u ∧ r' = u) (fun (u : Int32) t => va_P D vwCl (wA cs ad Ls Hs T) t.heap) (Afr ad s.heap.size)) (vx_X (fun k : Nat => res = Sum.inr k) (fun E k t => E = exN k ∧ va_P D vwCl (wA cs ad Ls Hs T) t.heap) (Afr ad s.heap.size)) args s 1 6 (Afr ad s.heap.size)) (F0 m 0 ls []) := by
  unfold f_X5_limiting at h
  refine lv_aload_n C.1 C.2.1 dX5_limiting_0 rfl (lv_at hl 0 rfl) ?_
  refine lv_iconst (v := 1) C.1 C.2.1 dX5_limiting_1 (by decide) ?_
  obtain ⟨r1, c2, h⟩ := bd_out h
  refine k_callXVv C G X.2.2 hP hS (m_X5_needMachines l X.1 G.2.1 _ c2) g_obj rfl (cwV 1 C.2.2.2.2.2.1 gX5_limiting_X5_needMachines rfl rfl rfl (by decide +kernel) ⟨Nat.le_of_ble_eq_true rfl, Nat.le_of_ble_eq_true rfl⟩) (As := [.int 1]) rfl hl.1 rfl (Nat.le_of_ble_eq_true rfl) dX5_limiting_2 ⟨Nat.le_of_ble_eq_true rfl, Nat.le_of_ble_eq_true rfl⟩ (fun k E ce q9 H locs er hE hP hS hcell hv hcl => ?_) (fun H locs u er hP hS => ?_)
  · subst er
    have h : some (Sum.inr k) = some res := h
    cases h
    exact k_out C X hP hS rfl hE hcell hv hcl (by omega) (by omega)
  subst er
  have h := sx_l h
  refine lv_aload_n C.1 C.2.1 dX5_limiting_5 rfl (lv_at hl 0 rfl) ?_
  refine k_getf C G hP g_obj rfl 0 (by decide) n_X5_limiting_X5 q_X5_limiting_0 (v := .ref (ad (5 + 14 * 0 + 0))) rfl dX5_limiting_6 ?_
  obtain ⟨r3, c4, h⟩ := bd_out h
  have hP := up_in (i := 0) hP
  refine k_callVi C G hP hS (m_X2_findLimiting l G.2.1 _ (i := 0) (by decide) c4) (v_obj (i := 0) (by decide)) rfl (cwV 0 C.2.2.2.2.2.1 gX5_limiting_X2_findLimiting rfl rfl rfl (by decide +kernel) ⟨Nat.le_of_ble_eq_true rfl, Nat.le_of_ble_eq_true rfl⟩) (As := []) rfl hl.1 rfl (Nat.le_of_ble_eq_true rfl) dX5_limiting_9 ⟨Nat.le_of_ble_eq_true rfl, Nat.le_of_ble_eq_true rfl⟩ (fun H locs hP hS => ?_)
  have hP := up_ou hP
  cases h
  refine W.widen (k := 1) (n := 6) (by omega) (by omega) ?_
  exact k_iretX C hP hS rfl rfl rfl dX5_limiting_12
set_option maxRecDepth 100000 in
set_option maxHeartbeats 4000000 in
theorem m_X5_limiting (l : Launch) (hfl : l.stackTraces = false) {D : va_G} {cs : Nat → ClassId} {ad : Nat → Nat} (hAd : adOK ad) (sz : Nat) {Ls : Nat → SL} {Hs : SL} {T : SL} {res : Sum (Int32) Nat} (h : f_X5_limiting Ls = some res) : vx_Met l yX5_limiting wsX5_limiting rmX5_limiting (PX D cs ad sz (wA cs ad Ls Hs T) [.ref (ad 0)]) (va_Qi (fun r' (u : Int32) => res = Sum.inl u ∧ r' = u) (fun (u : Int32) t => va_P D vwCl (wA cs ad Ls Hs T) t.heap) (Afr ad sz)) (vx_X (fun k : Nat => res = Sum.inr k) (fun E k t => E = exN k ∧ va_P D vwCl (wA cs ad Ls Hs T) t.heap) (Afr ad sz)) 1 6 (Afr ad sz) :=
  k_metX hfl (by decide) rfl (Nat.le_of_ble_eq_true rfl) hAd (fun p e s m below meth c ls C G X hP hsz hl hS => by
    subst hsz
    exact w_X5_limiting_e C G X  hP hS hl  h)
/-! X5 slowest -/
abbrev rmX5_slowest : Room := { frames := 7, cells := 2, slots := 12, locals := 123 }
theorem q_X5_slowest_0 : Cond.fieldLink RX5 10 "LineBuffers" "line" "LLineBuffers$Line;" ∈ wsX5_slowest := List.mem_of_getElem? (i := 1) rfl
theorem n_X5_slowest_X5 : ∀ x ∈ u_ws RX5 TX5 4, x ∈ wsX5_slowest := fun x h => List.mem_cons_of_mem _ (List.mem_append_left _ (List.mem_append_left _ (List.mem_append_left _ (List.mem_append_left _ (List.mem_append_right _ h)))))
set_option maxRecDepth 100000 in
set_option maxHeartbeats 4000000 in
theorem w_X5_slowest_e {res : Sum (Int32 × (Nat → SL)) Nat} (C : Cx p s m args meth c cX5_slowest 2 (some .int) RX5 wsX5_slowest) (G : Gx D cs ad s) (X : Tx l c ad s) {Hs : SL} {T : SL} {Ls : Nat → SL} {x1 : Int32} {H : Heap} {locs : List Loc} {ls : Array Slot} (hP : va_P D vwCl (wA cs ad Ls Hs T) H) (hS : va_S (Afr ad s.heap.size) s.heap H locs) (hl : lv_has ls 2 [(0, .ref (ad 0)), (1, .int x1)]) (h : f_X5_slowest Ls x1 = some res) : W p l e rmX5_slowest s m args below meth c H locs 0 0 (vx_MQ below (va_Qi (fun r' (u : Int32 × (Nat → SL)) => res = Sum.inl u ∧ r' = u.1) (fun (u : Int32 × (Nat → SL)) t => va_P D vwCl (wA cs ad u.2 Hs T) t.heap) (Afr ad s.heap.size)) (vx_X (fun k : Nat => res = Sum.inr k) (fun E k t => E = exN k ∧ va_P D vwCl (wA cs ad Ls Hs T) t.heap) (Afr ad s.heap.size)) args s 2 12 (Afr ad s.heap.size)) (F0 m 0 ls []) := by
  unfold f_X5_slowest at h
  refine lv_iload_n C.1 C.2.1 dX5_slowest_0 rfl (lv_at hl 1 rfl) ?_
  refine lv_sipush (v := 10000) C.1 C.2.1 dX5_slowest_1 (by decide) ?_
  obtain ⟨r1, c2, h⟩ := bd_out h
  refine k_callXSv C G X.2.2 hP hS (m_X5_needHorizon l X.1 G.2.1 _ c2) (va_cwS 2 C.2.2.2.2.2.1 gX5_slowest_X5_needHorizon rfl rfl rfl (by decide +kernel) ⟨Nat.le_of_ble_eq_true rfl, Nat.le_of_ble_eq_true rfl⟩) (As := [.int x1, .int 10000]) rfl hl.1 rfl (Nat.le_of_ble_eq_true rfl) dX5_slowest_4 ⟨Nat.le_of_ble_eq_true rfl, Nat.le_of_ble_eq_true rfl⟩ (fun k E ce q9 H locs er hE hP hS hcell hv hcl => ?_) (fun H locs u er hP hS => ?_)
  · subst er
    have h : some (Sum.inr k) = some res := h
    cases h
    exact k_out C X hP hS rfl hE hcell hv hcl (by omega) (by omega)
  subst er
  have h := sx_l h
  refine lv_aload_n C.1 C.2.1 dX5_slowest_7 rfl (lv_at hl 0 rfl) ?_
  refine lv_iconst (v := 1) C.1 C.2.1 dX5_slowest_8 (by decide) ?_
  obtain ⟨r3, c4, h⟩ := bd_out h
  refine k_callXVv C G X.2.2 hP hS (m_X5_needMachines l X.1 G.2.1 _ c4) g_obj rfl (cwV 1 C.2.2.2.2.2.1 gX5_slowest_X5_needMachines rfl rfl rfl (by decide +kernel) ⟨Nat.le_of_ble_eq_true rfl, Nat.le_of_ble_eq_true rfl⟩) (As := [.int 1]) rfl hl.1 rfl (Nat.le_of_ble_eq_true rfl) dX5_slowest_9 ⟨Nat.le_of_ble_eq_true rfl, Nat.le_of_ble_eq_true rfl⟩ (fun k E ce q9 H locs er hE hP hS hcell hv hcl => ?_) (fun H locs u er hP hS => ?_)
  · subst er
    have h : some (Sum.inr k) = some res := h
    cases h
    exact k_out C X hP hS rfl hE hcell hv hcl (by omega) (by omega)
  subst er
  have h := sx_l h
  refine lv_aload_n C.1 C.2.1 dX5_slowest_12 rfl (lv_at hl 0 rfl) ?_
  refine k_getf C G hP g_obj rfl 0 (by decide) n_X5_slowest_X5 q_X5_slowest_0 (v := .ref (ad (5 + 14 * 0 + 0))) rfl dX5_slowest_13 ?_
  refine lv_iload_n C.1 C.2.1 dX5_slowest_16 rfl (lv_at hl 1 rfl) ?_
  obtain ⟨r5, L6, c7, h⟩ := bd2_out h
  have hP := up_in (i := 0) hP
  refine k_callVi C G hP hS (m_X2_findSlowest l G.2.1 _ (i := 0) (by decide) c7) (v_obj (i := 0) (by decide)) rfl (cwV 1 C.2.2.2.2.2.1 gX5_slowest_X2_findSlowest rfl rfl rfl (by decide +kernel) ⟨Nat.le_of_ble_eq_true rfl, Nat.le_of_ble_eq_true rfl⟩) (As := [.int x1]) rfl hl.1 rfl (Nat.le_of_ble_eq_true rfl) dX5_slowest_17 ⟨Nat.le_of_ble_eq_true rfl, Nat.le_of_ble_eq_true rfl⟩ (fun H locs hP hS => ?_)
  obtain ⟨Ls8, eLs8, h⟩ := lt_out h
  rw [← eLs8] at hP
  cases h
  refine W.widen (k := 2) (n := 12) (by omega) (by omega) ?_
  exact k_iretX C hP hS rfl rfl rfl dX5_slowest_20
set_option maxRecDepth 100000 in
set_option maxHeartbeats 4000000 in
theorem m_X5_slowest (l : Launch) (hfl : l.stackTraces = false) {D : va_G} {cs : Nat → ClassId} {ad : Nat → Nat} (hAd : adOK ad) (sz : Nat) {Ls : Nat → SL} {Hs : SL} {T : SL} {x1 : Int32} {res : Sum (Int32 × (Nat → SL)) Nat} (h : f_X5_slowest Ls x1 = some res) : vx_Met l yX5_slowest wsX5_slowest rmX5_slowest (PX D cs ad sz (wA cs ad Ls Hs T) [.ref (ad 0), .int x1]) (va_Qi (fun r' (u : Int32 × (Nat → SL)) => res = Sum.inl u ∧ r' = u.1) (fun (u : Int32 × (Nat → SL)) t => va_P D vwCl (wA cs ad u.2 Hs T) t.heap) (Afr ad sz)) (vx_X (fun k : Nat => res = Sum.inr k) (fun E k t => E = exN k ∧ va_P D vwCl (wA cs ad Ls Hs T) t.heap) (Afr ad sz)) 2 12 (Afr ad sz) :=
  k_metX hfl (by decide) rfl (Nat.le_of_ble_eq_true rfl) hAd (fun p e s m below meth c ls C G X hP hsz hl hS => by
    subst hsz
    exact w_X5_slowest_e C G X  hP hS hl  h)
/-! X5 tryCapacity -/
abbrev rmX5_tryCapacity : Room := { frames := 4, cells := 0, slots := 0, locals := 92 }
theorem q_X5_tryCapacity_0 : Cond.fieldLink RX5 10 "LineBuffers" "line" "LLineBuffers$Line;" ∈ wsX5_tryCapacity := List.mem_of_getElem? (i := 1) rfl
theorem q_X5_tryCapacity_1 : Cond.fieldLink RX5 16 "LineBuffers" "trial" "LLineBuffers$Line;" ∈ wsX5_tryCapacity := List.mem_of_getElem? (i := 2) rfl
theorem n_X5_tryCapacity_X5 : ∀ x ∈ u_ws RX5 TX5 4, x ∈ wsX5_tryCapacity := fun x h => List.mem_cons_of_mem _ (List.mem_append_left _ (List.mem_append_left _ (List.mem_append_right _ h)))
theorem n_X5_tryCapacity_X2 : ∀ x ∈ u_ws RX2 TX2 4, x ∈ wsX5_tryCapacity := fun x h => List.mem_cons_of_mem _ (List.mem_append_left _ (List.mem_append_right _ h))
set_option maxRecDepth 100000 in
set_option maxHeartbeats 4000000 in
theorem w_X5_tryCapacity_e {res : Int32 × (Nat → SL)} (C : Cx p s m args meth c cX5_tryCapacity 4 (some .int) RX5 wsX5_tryCapacity) (G : Gx D cs ad s) {Hs : SL} {T : SL} {Ls : Nat → SL} {x1 : Int32} {x2 : Int32} {x3 : Int32} {H : Heap} {locs : List Loc} {ls : Array Slot} (hP : va_P D vwCl (wA cs ad Ls Hs T) H) (hS : va_S (Afr ad s.heap.size) s.heap H locs) (hl : lv_has ls 4 [(0, .ref (ad 0)), (1, .int x1), (2, .int x2), (3, .int x3)]) (h : f_X5_tryCapacity Ls x1 x2 x3 = some res) : W p l e rmX5_tryCapacity s m args below meth c H locs 0 0 (MQ below (va_Qi (fun r' (_ : Unit) => r' = res.1) (fun _ t => va_P D vwCl (wA cs ad res.2 Hs T) t.heap) (Afr ad s.heap.size)) args s 0 0 (Afr ad s.heap.size)) (F0 m 0 ls []) := by
  unfold f_X5_tryCapacity at h
  refine lv_aload_n C.1 C.2.1 dX5_tryCapacity_0 rfl (lv_at hl 0 rfl) ?_
  refine k_getf C G hP g_obj rfl 0 (by decide) n_X5_tryCapacity_X5 q_X5_tryCapacity_0 (v := .ref (ad (5 + 14 * 0 + 0))) rfl dX5_tryCapacity_1 ?_
  refine lv_aload_n C.1 C.2.1 dX5_tryCapacity_4 rfl (lv_at hl 0 rfl) ?_
  refine k_getf C G hP g_obj rfl 1 (by decide) n_X5_tryCapacity_X5 q_X5_tryCapacity_1 (v := .ref (ad (5 + 14 * 1 + 0))) rfl dX5_tryCapacity_5 ?_
  obtain ⟨Ls1, c2, h⟩ := bd_out h
  refine k_callSv C G hP hS (m_X2_copy l G.2.1 _ (i := 0) (j := 1) (by decide) (by decide) c2) (va_cwS 2 C.2.2.2.2.2.1 gX5_tryCapacity_X2_copy rfl rfl rfl (by decide +kernel) ⟨Nat.le_of_ble_eq_true rfl, Nat.le_of_ble_eq_true rfl⟩) (As := [.ref (ad (5 + 14 * 0 + 0)), .ref (ad (5 + 14 * 1 + 0))]) rfl hl.1 rfl (Nat.le_of_ble_eq_true rfl) dX5_tryCapacity_8 ⟨Nat.le_of_ble_eq_true rfl, Nat.le_of_ble_eq_true rfl⟩ (fun H locs hP hS => ?_)
  refine lv_aload_n C.1 C.2.1 dX5_tryCapacity_11 rfl (lv_at hl 0 rfl) ?_
  refine k_getf C G hP g_obj rfl 1 (by decide) n_X5_tryCapacity_X5 q_X5_tryCapacity_1 (v := .ref (ad (5 + 14 * 1 + 0))) rfl dX5_tryCapacity_12 ?_
  obtain ⟨L3, c4, h⟩ := bd_out h
  have hP := up_in (i := 1) hP
  refine k_callVv C G hP hS (m_X2_beginAnew l G.2.1 _ (i := 1) (by decide) c4) (v_obj (i := 1) (by decide)) rfl (cwV 0 C.2.2.2.2.2.1 gX5_tryCapacity_X2_beginAnew rfl rfl rfl (by decide +kernel) ⟨Nat.le_of_ble_eq_true rfl, Nat.le_of_ble_eq_true rfl⟩) (As := []) rfl hl.1 rfl (Nat.le_of_ble_eq_true rfl) dX5_tryCapacity_15 ⟨Nat.le_of_ble_eq_true rfl, Nat.le_of_ble_eq_true rfl⟩ (fun H locs hP hS => ?_)
  obtain ⟨Ls5, eLs5, h⟩ := lt_out h
  rw [← eLs5] at hP
  refine lv_aload_n C.1 C.2.1 dX5_tryCapacity_18 rfl (lv_at hl 0 rfl) ?_
  refine k_getf C G hP g_obj rfl 1 (by decide) n_X5_tryCapacity_X5 q_X5_tryCapacity_1 (v := .ref (ad (5 + 14 * 1 + 0))) rfl dX5_tryCapacity_19 ?_
  refine k_getfN C G hP (c_obj (i := 1) (by decide)) rfl 0 (by decide) n_X5_tryCapacity_X2 (List.mem_of_getElem? (i := 1) rfl) (v := .ref (ad (5 + 14 * 1 + 1))) rfl dX5_tryCapacity_22 ?_
  refine lv_iload_n C.1 C.2.1 dX5_tryCapacity_25 rfl (lv_at hl 1 rfl) ?_
  obtain ⟨g6, h⟩ := gd_out h
  have g6 := chk_in g6
  obtain ⟨kq7, ekq7, h⟩ := lt_out h
  have hkq7 : 2 ≤ kq7 ∧ kq7 < 10 := row_k g6 ekq7
  refine k_aaldR C G hP (c_rows (i := 1) (by decide)) g6 (b := ad (5 + 14 * 1 + kq7)) (by rw [ekq7]) dX5_tryCapacity_26 ?_
  refine lv_iconst (v := 4) C.1 C.2.1 dX5_tryCapacity_27 (by decide) ?_
  refine lv_iload_n C.1 C.2.1 dX5_tryCapacity_28 rfl (lv_at hl 2 rfl) ?_
  obtain ⟨Ls8, eLs8, h⟩ := lt_out h
  refine k_iast C G hP hS (c_row (i := 1) (by decide) hkq7) (chk_in rfl) (j := 4) rfl (c_rowS (i := 1) (by decide) hkq7) dX5_tryCapacity_29 (fun H locs hP hS => ?_)
  rw [← eLs8] at hP
  refine lv_aload_n C.1 C.2.1 dX5_tryCapacity_30 rfl (lv_at hl 0 rfl) ?_
  refine k_getf C G hP g_obj rfl 1 (by decide) n_X5_tryCapacity_X5 q_X5_tryCapacity_1 (v := .ref (ad (5 + 14 * 1 + 0))) rfl dX5_tryCapacity_31 ?_
  refine lv_iload_n C.1 C.2.1 dX5_tryCapacity_34 rfl (lv_at hl 3 rfl) ?_
  obtain ⟨L9, c10, h⟩ := bd_out h
  have hP := up_in (i := 1) hP
  refine k_callVv C G hP hS (m_X2_pass l G.2.1 _ (i := 1) (by decide) c10) (v_obj (i := 1) (by decide)) rfl (cwV 1 C.2.2.2.2.2.1 gX5_tryCapacity_X2_pass rfl rfl rfl (by decide +kernel) ⟨Nat.le_of_ble_eq_true rfl, Nat.le_of_ble_eq_true rfl⟩) (As := [.int x3]) rfl hl.1 rfl (Nat.le_of_ble_eq_true rfl) dX5_tryCapacity_35 ⟨Nat.le_of_ble_eq_true rfl, Nat.le_of_ble_eq_true rfl⟩ (fun H locs hP hS => ?_)
  obtain ⟨Ls11, eLs11, h⟩ := lt_out h
  rw [← eLs11] at hP
  refine lv_aload_n C.1 C.2.1 dX5_tryCapacity_38 rfl (lv_at hl 0 rfl) ?_
  refine k_getf C G hP g_obj rfl 1 (by decide) n_X5_tryCapacity_X5 q_X5_tryCapacity_1 (v := .ref (ad (5 + 14 * 1 + 0))) rfl dX5_tryCapacity_39 ?_
  obtain ⟨r12, c13, h⟩ := bd_out h
  have hP := up_in (i := 1) hP
  refine k_callVi C G hP hS (m_X2_bottlesOut l G.2.1 _ (i := 1) (by decide) c13) (v_obj (i := 1) (by decide)) rfl (cwV 0 C.2.2.2.2.2.1 gX5_tryCapacity_X2_bottlesOut rfl rfl rfl (by decide +kernel) ⟨Nat.le_of_ble_eq_true rfl, Nat.le_of_ble_eq_true rfl⟩) (As := []) rfl hl.1 rfl (Nat.le_of_ble_eq_true rfl) dX5_tryCapacity_42 ⟨Nat.le_of_ble_eq_true rfl, Nat.le_of_ble_eq_true rfl⟩ (fun H locs hP hS => ?_)
  have hP := up_ou hP
  cases h
  exact k_iret C hP hS dX5_tryCapacity_45
set_option maxRecDepth 100000 in
set_option maxHeartbeats 4000000 in
theorem m_X5_tryCapacity (l : Launch) {D : va_G} {cs : Nat → ClassId} {ad : Nat → Nat} (hAd : adOK ad) (sz : Nat) {Ls : Nat → SL} {Hs : SL} {T : SL} {x1 : Int32} {x2 : Int32} {x3 : Int32} {res : Int32 × (Nat → SL)} (h : f_X5_tryCapacity Ls x1 x2 x3 = some res) : Met l yX5_tryCapacity wsX5_tryCapacity rmX5_tryCapacity (PA D cs sz (wA cs ad Ls Hs T) [.ref (ad 0), .int x1, .int x2, .int x3]) (va_Qi (fun r' (_ : Unit) => r' = res.1) (fun _ t => va_P D vwCl (wA cs ad res.2 Hs T) t.heap) (Afr ad sz)) 0 0 (Afr ad sz) :=
  k_met (by decide) rfl (Nat.le_of_ble_eq_true rfl) hAd (fun p e s m below meth c ls C G hP hsz hl hS => by
    subst hsz
    exact w_X5_tryCapacity_e C G  hP hS hl  h)
/-! X5 outputWith -/
abbrev rmX5_outputWith : Room := { frames := 7, cells := 2, slots := 12, locals := 117 }
theorem q_X5_outputWith_0 : Cond.classLink RX5 41 "java/lang/IllegalArgumentException" ∈ wsX5_outputWith := List.mem_of_getElem? (i := 1) rfl
theorem q_X5_outputWith_1 : Cond.initialized "java/lang/IllegalArgumentException" ∈ wsX5_outputWith := List.mem_of_getElem? (i := 2) rfl
set_option maxRecDepth 100000 in
set_option maxHeartbeats 4000000 in
theorem w_X5_outputWith_e {res : Sum (Int32 × (Nat → SL)) Nat} (C : Cx p s m args meth c cX5_outputWith 4 (some .int) RX5 wsX5_outputWith) (G : Gx D cs ad s) (X : Tx l c ad s) {Hs : SL} {T : SL} {Ls : Nat → SL} {x1 : Int32} {x2 : Int32} {x3 : Int32} {H : Heap} {locs : List Loc} {ls : Array Slot} (hP : va_P D vwCl (wA cs ad Ls Hs T) H) (hS : va_S (Afr ad s.heap.size) s.heap H locs) (hl : lv_has ls 4 [(0, .ref (ad 0)), (1, .int x1), (2, .int x2), (3, .int x3)]) (h : f_X5_outputWith Ls x1 x2 x3 = some res) : W p l e rmX5_outputWith s m args below meth c H locs 0 0 (vx_MQ below (va_Qi (fun r' (u : Int32 × (Nat → SL)) => res = Sum.inl u ∧ r' = u.1) (fun (u : Int32 × (Nat → SL)) t => va_P D vwCl (wA cs ad u.2 Hs T) t.heap) (Afr ad s.heap.size)) (vx_X (fun k : Nat => res = Sum.inr k) (fun E k t => E = exN k ∧ va_P D vwCl (wA cs ad Ls Hs T) t.heap) (Afr ad s.heap.size)) args s 2 12 (Afr ad s.heap.size)) (F0 m 0 ls []) := by
  unfold f_X5_outputWith at h
  refine lv_aload_n C.1 C.2.1 dX5_outputWith_0 rfl (lv_at hl 0 rfl) ?_
  refine lv_iload_n C.1 C.2.1 dX5_outputWith_1 rfl (lv_at hl 1 rfl) ?_
  obtain ⟨r1, c2, h⟩ := bd_out h
  refine k_callXVv C G X.2.2 hP hS (m_X5_needMachine l X.1 G.2.1 _ c2) g_obj rfl (cwV 1 C.2.2.2.2.2.1 gX5_outputWith_X5_needMachine rfl rfl rfl (by decide +kernel) ⟨Nat.le_of_ble_eq_true rfl, Nat.le_of_ble_eq_true rfl⟩) (As := [.int x1]) rfl hl.1 rfl (Nat.le_of_ble_eq_true rfl) dX5_outputWith_2 ⟨Nat.le_of_ble_eq_true rfl, Nat.le_of_ble_eq_true rfl⟩ (fun k E ce q9 H locs er hE hP hS hcell hv hcl => ?_) (fun H locs u er hP hS => ?_)
  · subst er
    have h : some (Sum.inr k) = some res := h
    cases h
    exact k_out C X hP hS rfl hE hcell hv hcl (by omega) (by omega)
  subst er
  have h := sx_l h
  refine lv_iload_n C.1 C.2.1 dX5_outputWith_5 rfl (lv_at hl 2 rfl) ?_
  refine lv_iconst (v := 0) C.1 C.2.1 dX5_outputWith_6 (by decide) ?_
  refine lv_bipush (v := 40) C.1 C.2.1 dX5_outputWith_7 (by decide) ?_
  obtain ⟨r3, c4, h⟩ := bd_out h
  refine k_callSi C G hP hS (m_X5_isIn l G.2.1 _  c4) (va_cwS 3 C.2.2.2.2.2.1 gX5_outputWith_X5_isIn rfl rfl rfl (by decide +kernel) ⟨Nat.le_of_ble_eq_true rfl, Nat.le_of_ble_eq_true rfl⟩) (As := [.int x2, .int 0, .int 40]) rfl hl.1 rfl (Nat.le_of_ble_eq_true rfl) dX5_outputWith_9 ⟨Nat.le_of_ble_eq_true rfl, Nat.le_of_ble_eq_true rfl⟩ (fun H locs hP hS => ?_)
  refine lv_if_ne (tgt := 25) C.1 C.2.1 dX5_outputWith_12 (by decide) (fun c5 => ?_) (fun c5 => ?_)
  · have h := if_t c5 h
    refine lv_iload_n C.1 C.2.1 dX5_outputWith_25 rfl (lv_at hl 3 rfl) ?_
    refine lv_sipush (v := 2000) C.1 C.2.1 dX5_outputWith_26 (by decide) ?_
    obtain ⟨r6, c7, h⟩ := bd_out h
    refine k_callXSv C G X.2.2 hP hS (m_X5_needHorizon l X.1 G.2.1 _ c7) (va_cwS 2 C.2.2.2.2.2.1 gX5_outputWith_X5_needHorizon rfl rfl rfl (by decide +kernel) ⟨Nat.le_of_ble_eq_true rfl, Nat.le_of_ble_eq_true rfl⟩) (As := [.int x3, .int 2000]) rfl hl.1 rfl (Nat.le_of_ble_eq_true rfl) dX5_outputWith_29 ⟨Nat.le_of_ble_eq_true rfl, Nat.le_of_ble_eq_true rfl⟩ (fun k E ce q9 H locs er hE hP hS hcell hv hcl => ?_) (fun H locs u er hP hS => ?_)
    · subst er
      have h : some (Sum.inr k) = some res := h
      cases h
      exact k_out C X hP hS rfl hE hcell hv hcl (by omega) (by omega)
    subst er
    have h := sx_l h
    refine lv_aload_n C.1 C.2.1 dX5_outputWith_32 rfl (lv_at hl 0 rfl) ?_
    refine lv_iload_n C.1 C.2.1 dX5_outputWith_33 rfl (lv_at hl 1 rfl) ?_
    refine lv_iload_n C.1 C.2.1 dX5_outputWith_34 rfl (lv_at hl 2 rfl) ?_
    refine lv_iload_n C.1 C.2.1 dX5_outputWith_35 rfl (lv_at hl 3 rfl) ?_
    obtain ⟨r8, Ls9, c10, h⟩ := bd2_out h
    refine k_callVi C G hP hS (m_X5_tryCapacity l G.2.1 _  c10) g_obj rfl (cwV 3 C.2.2.2.2.2.1 gX5_outputWith_X5_tryCapacity rfl rfl rfl (by decide +kernel) ⟨Nat.le_of_ble_eq_true rfl, Nat.le_of_ble_eq_true rfl⟩) (As := [.int x1, .int x2, .int x3]) rfl hl.1 rfl (Nat.le_of_ble_eq_true rfl) dX5_outputWith_36 ⟨Nat.le_of_ble_eq_true rfl, Nat.le_of_ble_eq_true rfl⟩ (fun H locs hP hS => ?_)
    cases h
    refine W.widen (k := 2) (n := 12) (by omega) (by omega) ?_
    exact k_iretX C hP hS rfl rfl rfl dX5_outputWith_39
  · have h := if_n c5 h
    cases h
    exact k_throw (k := 1) (text := "the capacity is out of range") C X hP hS rfl (by decide) q_X5_outputWith_0 q_X5_outputWith_1 (List.mem_of_getElem? (i := 3) rfl) (fun w h => List.mem_cons_of_mem _ (List.mem_append_left _ (List.mem_append_right _ h))) tw_45 tg_45 hl.1 dX5_outputWith_15 dX5_outputWith_18 dX5_outputWith_19 dX5_outputWith_21 dX5_outputWith_24 (Nat.le_of_ble_eq_true rfl) (Nat.le_of_ble_eq_true rfl) (Nat.le_of_ble_eq_true rfl) (Nat.le_of_ble_eq_true rfl) (by omega) (by omega)
set_option maxRecDepth 100000 in
set_option maxHeartbeats 4000000 in
theorem m_X5_outputWith (l : Launch) (hfl : l.stackTraces = false) {D : va_G} {cs : Nat → ClassId} {ad : Nat → Nat} (hAd : adOK ad) (sz : Nat) {Ls : Nat → SL} {Hs : SL} {T : SL} {x1 : Int32} {x2 : Int32} {x3 : Int32} {res : Sum (Int32 × (Nat → SL)) Nat} (h : f_X5_outputWith Ls x1 x2 x3 = some res) : vx_Met l yX5_outputWith wsX5_outputWith rmX5_outputWith (PX D cs ad sz (wA cs ad Ls Hs T) [.ref (ad 0), .int x1, .int x2, .int x3]) (va_Qi (fun r' (u : Int32 × (Nat → SL)) => res = Sum.inl u ∧ r' = u.1) (fun (u : Int32 × (Nat → SL)) t => va_P D vwCl (wA cs ad u.2 Hs T) t.heap) (Afr ad sz)) (vx_X (fun k : Nat => res = Sum.inr k) (fun E k t => E = exN k ∧ va_P D vwCl (wA cs ad Ls Hs T) t.heap) (Afr ad sz)) 2 12 (Afr ad sz) :=
  k_metX hfl (by decide) rfl (Nat.le_of_ble_eq_true rfl) hAd (fun p e s m below meth c ls C G X hP hsz hl hS => by
    subst hsz
    exact w_X5_outputWith_e C G X  hP hS hl  h)
/-! X5 capacityFor -/
abbrev rmX5_capacityFor : Room := { frames := 7, cells := 3, slots := 18, locals := 123 }
theorem q_X5_capacityFor_0 : Cond.fieldLink RX5 10 "LineBuffers" "line" "LLineBuffers$Line;" ∈ wsX5_capacityFor := List.mem_of_getElem? (i := 3) rfl
theorem q_X5_capacityFor_1 : Cond.classLink RX5 41 "java/lang/IllegalArgumentException" ∈ wsX5_capacityFor := List.mem_of_getElem? (i := 1) rfl
theorem q_X5_capacityFor_2 : Cond.initialized "java/lang/IllegalArgumentException" ∈ wsX5_capacityFor := List.mem_of_getElem? (i := 2) rfl
theorem q_X5_capacityFor_3 : Cond.fieldLink RX5 16 "LineBuffers" "trial" "LLineBuffers$Line;" ∈ wsX5_capacityFor := List.mem_of_getElem? (i := 4) rfl
theorem n_X5_capacityFor_X5 : ∀ x ∈ u_ws RX5 TX5 4, x ∈ wsX5_capacityFor := fun x h => List.mem_cons_of_mem _ (List.mem_append_left _ (List.mem_append_left _ (List.mem_append_left _ (List.mem_append_left _ (List.mem_append_right _ h)))))
theorem n_X5_capacityFor_X2 : ∀ x ∈ u_ws RX2 TX2 4, x ∈ wsX5_capacityFor := fun x h => List.mem_cons_of_mem _ (List.mem_append_left _ (List.mem_append_left _ (List.mem_append_left _ (List.mem_append_right _ h))))
set_option maxRecDepth 100000 in
set_option maxHeartbeats 4000000 in
theorem w_X5_capacityFor_b58 {res : Sum (Int32 × (Nat → SL)) Nat} (C : Cx p s m args meth c cX5_capacityFor 5 (some .int) RX5 wsX5_capacityFor) (G : Gx D cs ad s) {XC : String → State → State → Prop} {Hs : SL} {T : SL} {K58 : (Nat → SL) → Int32 → Int32 → Int32 → Int32 → Option (Sum (Int32 × (Nat → SL)) Nat)} (hK58 : ∀ {Ls : Nat → SL} {x1 : Int32} {x2 : Int32} {x3 : Int32} {x4 : Int32} {H : Heap} {locs : List Loc} {ls : Array Slot}, va_P D vwCl (wA cs ad Ls Hs T) H → va_S (Afr ad s.heap.size) s.heap H locs → lv_has ls 5 [(0, .ref (ad 0)), (1, .int x1), (2, .int x2), (3, .int x3), (4, .int x4)] → K58 Ls x1 x2 x3 x4 = some res → W p l e rmX5_capacityFor s m args below meth c H locs 3 18 (vx_MQ below (va_Qi (fun r' (u : Int32 × (Nat → SL)) => res = Sum.inl u ∧ r' = u.1) (fun (u : Int32 × (Nat → SL)) t => va_P D vwCl (wA cs ad u.2 Hs T) t.heap) (Afr ad s.heap.size)) XC args s 3 18 (Afr ad s.heap.size)) (F0 m 58 ls [])) {Ls : Nat → SL} {x1 : Int32} {x2 : Int32} {x3 : Int32} {x4 : Int32} {H : Heap} {locs : List Loc} {ls : Array Slot} (hP : va_P D vwCl (wA cs ad Ls Hs T) H) (hS : va_S (Afr ad s.heap.size) s.heap H locs) (hl : lv_has ls 5 [(0, .ref (ad 0)), (1, .int x1), (2, .int x2), (3, .int x3), (4, .int x4)]) (h : f_X5_capacityFor_b58 K58 Ls x1 x2 x3 x4 = some res) : W p l e rmX5_capacityFor s m args below meth c H locs 3 18 (vx_MQ below (va_Qi (fun r' (u : Int32 × (Nat → SL)) => res = Sum.inl u ∧ r' = u.1) (fun (u : Int32 × (Nat → SL)) t => va_P D vwCl (wA cs ad u.2 Hs T) t.heap) (Afr ad s.heap.size)) XC args s 3 18 (Afr ad s.heap.size)) (F0 m 58 ls []) := by
  unfold f_X5_capacityFor_b58 at h
  refine lv_iload C.1 C.2.1 dX5_capacityFor_58 (lv_at hl 4 rfl) ?_
  refine lv_bipush (v := 40) C.1 C.2.1 dX5_capacityFor_60 (by decide) ?_
  refine lv_icmp_gt (tgt := 103) C.1 C.2.1 dX5_capacityFor_62 (by decide) (fun c1 => ?_) (fun c1 => ?_)
  · have h := if_t c1 h
    refine lv_iconst (v := (-1)) C.1 C.2.1 dX5_capacityFor_103 (by decide) ?_
    cases h
    refine W.widen (k := 3) (n := 18) (by omega) (by omega) ?_
    exact k_iretX C hP hS rfl rfl rfl dX5_capacityFor_104
  · have h := if_f c1 h
    refine lv_aload_n C.1 C.2.1 dX5_capacityFor_65 rfl (lv_at hl 0 rfl) ?_
    refine lv_iload_n C.1 C.2.1 dX5_capacityFor_66 rfl (lv_at hl 1 rfl) ?_
    refine lv_iload C.1 C.2.1 dX5_capacityFor_67 (lv_at hl 4 rfl) ?_
    refine lv_iload_n C.1 C.2.1 dX5_capacityFor_69 rfl (lv_at hl 2 rfl) ?_
    obtain ⟨r2, Ls3, c4, h⟩ := bd2_out h
    refine k_callVi C G hP hS (m_X5_tryCapacity l G.2.1 _  c4) g_obj rfl (cwV 3 C.2.2.2.2.2.1 gX5_capacityFor_X5_tryCapacity rfl rfl rfl (by decide +kernel) ⟨Nat.le_of_ble_eq_true rfl, Nat.le_of_ble_eq_true rfl⟩) (As := [.int x1, .int x4, .int x2]) rfl hl.1 rfl (Nat.le_of_ble_eq_true rfl) dX5_capacityFor_70 ⟨Nat.le_of_ble_eq_true rfl, Nat.le_of_ble_eq_true rfl⟩ (fun H locs hP hS => ?_)
    refine lv_iload_n C.1 C.2.1 dX5_capacityFor_73 rfl (lv_at hl 3 rfl) ?_
    refine lv_icmp_lt (tgt := 80) C.1 C.2.1 dX5_capacityFor_74 (by decide) (fun c5 => ?_) (fun c5 => ?_)
    · have h := if_t c5 h
      refine lv_aload_n C.1 C.2.1 dX5_capacityFor_80 rfl (lv_at hl 0 rfl) ?_
      refine k_getf C G hP g_obj rfl 1 (by decide) n_X5_capacityFor_X5 q_X5_capacityFor_3 (v := .ref (ad (5 + 14 * 1 + 0))) rfl dX5_capacityFor_81 ?_
      refine k_getfN C G hP (c_obj (i := 1) (by decide)) rfl 0 (by decide) n_X5_capacityFor_X2 (List.mem_of_getElem? (i := 1) rfl) (v := .ref (ad (5 + 14 * 1 + 1))) rfl dX5_capacityFor_84 ?_
      refine lv_iload_n C.1 C.2.1 dX5_capacityFor_87 rfl (lv_at hl 1 rfl) ?_
      obtain ⟨g6, h⟩ := gd_out h
      have g6 := chk_in g6
      obtain ⟨kq7, ekq7, h⟩ := lt_out h
      have hkq7 : 2 ≤ kq7 ∧ kq7 < 10 := row_k g6 ekq7
      refine k_aaldR C G hP (c_rows (i := 1) (by decide)) g6 (b := ad (5 + 14 * 1 + kq7)) (by rw [ekq7]) dX5_capacityFor_88 ?_
      refine lv_bipush (v := 14) C.1 C.2.1 dX5_capacityFor_89 (by decide) ?_
      obtain ⟨v8, ev8, h⟩ := lt_out h
      refine k_iald C G hP (c_row (i := 1) (by decide) hkq7) (chk_in rfl) (j := 14) rfl ev8 dX5_capacityFor_91 ?_
      refine lv_if_ne (tgt := 97) C.1 C.2.1 dX5_capacityFor_92 (by decide) (fun c9 => ?_) (fun c9 => ?_)
      · have h := if_t c9 h
        obtain ⟨z10, ez10, h⟩ := lt_out h
        refine lv_iinc (v := z10) (lv' := [(4, .int z10), (0, .ref (ad 0)), (1, .int x1), (2, .int x2), (3, .int x3)]) C.1 C.2.1 dX5_capacityFor_97 hl (k := 4) rfl (by rw [ez10]; rfl) (by decide) rfl (fun ls hl => ?_)
        refine lv_goto (tgt := 58) C.1 C.2.1 dX5_capacityFor_100 (by decide) ?_
        refine W.widen (k := 3) (n := 18) (by omega) (by omega) ?_
        exact hK58 hP hS (lv_sub hl [1, 2, 3, 4, 0] rfl)  h
      · have h := if_n c9 h
        refine lv_iconst (v := (-1)) C.1 C.2.1 dX5_capacityFor_95 (by decide) ?_
        cases h
        refine W.widen (k := 3) (n := 18) (by omega) (by omega) ?_
        exact k_iretX C hP hS rfl rfl rfl dX5_capacityFor_96
    · have h := if_f c5 h
      refine lv_iload C.1 C.2.1 dX5_capacityFor_77 (lv_at hl 4 rfl) ?_
      cases h
      refine W.widen (k := 3) (n := 18) (by omega) (by omega) ?_
      exact k_iretX C hP hS rfl rfl rfl dX5_capacityFor_79
set_option maxRecDepth 100000 in
set_option maxHeartbeats 4000000 in
theorem w_X5_capacityFor_h58 {res : Sum (Int32 × (Nat → SL)) Nat} (C : Cx p s m args meth c cX5_capacityFor 5 (some .int) RX5 wsX5_capacityFor) (G : Gx D cs ad s) {XC : String → State → State → Prop} {Hs : SL} {T : SL} : ∀ (n : Nat) {Ls : Nat → SL} {x1 : Int32} {x2 : Int32} {x3 : Int32} {x4 : Int32} {H : Heap} {locs : List Loc} {ls : Array Slot}, va_P D vwCl (wA cs ad Ls Hs T) H → va_S (Afr ad s.heap.size) s.heap H locs → lv_has ls 5 [(0, .ref (ad 0)), (1, .int x1), (2, .int x2), (3, .int x3), (4, .int x4)] → f_X5_capacityFor_h58 n Ls x1 x2 x3 x4 = some res → W p l e rmX5_capacityFor s m args below meth c H locs 3 18 (vx_MQ below (va_Qi (fun r' (u : Int32 × (Nat → SL)) => res = Sum.inl u ∧ r' = u.1) (fun (u : Int32 × (Nat → SL)) t => va_P D vwCl (wA cs ad u.2 Hs T) t.heap) (Afr ad s.heap.size)) XC args s 3 18 (Afr ad s.heap.size)) (F0 m 58 ls []) := by
  intro n
  induction n with
  | zero => intro Ls x1 x2 x3 x4 H locs ls hP hS hl  h; cases h
  | succ n ih => intro Ls x1 x2 x3 x4 H locs ls hP hS hl  h; exact w_X5_capacityFor_b58 C G    ih hP hS hl  h
set_option maxRecDepth 100000 in
set_option maxHeartbeats 4000000 in
theorem w_X5_capacityFor_e {res : Sum (Int32 × (Nat → SL)) Nat} (C : Cx p s m args meth c cX5_capacityFor 5 (some .int) RX5 wsX5_capacityFor) (G : Gx D cs ad s) (X : Tx l c ad s) {Hs : SL} {T : SL} {Ls : Nat → SL} {x1 : Int32} {x2 : Int32} {x3 : Int32} {H : Heap} {locs : List Loc} {ls : Array Slot} (hP : va_P D vwCl (wA cs ad Ls Hs T) H) (hS : va_S (Afr ad s.heap.size) s.heap H locs) (hl : lv_has ls 5 [(0, .ref (ad 0)), (1, .int x1), (2, .int x2), (3, .int x3)]) (h : f_X5_capacityFor Ls x1 x2 x3 = some res) : W p l e rmX5_capacityFor s m args below meth c H locs 0 0 (vx_MQ below (va_Qi (fun r' (u : Int32 × (Nat → SL)) => res = Sum.inl u ∧ r' = u.1) (fun (u : Int32 × (Nat → SL)) t => va_P D vwCl (wA cs ad u.2 Hs T) t.heap) (Afr ad s.heap.size)) (vx_X (fun k : Nat => res = Sum.inr k) (fun E k t => E = exN k ∧ va_P D vwCl (wA cs ad Ls Hs T) t.heap) (Afr ad s.heap.size)) args s 3 18 (Afr ad s.heap.size)) (F0 m 0 ls []) := by
  unfold f_X5_capacityFor at h
  refine lv_aload_n C.1 C.2.1 dX5_capacityFor_0 rfl (lv_at hl 0 rfl) ?_
  refine lv_iload_n C.1 C.2.1 dX5_capacityFor_1 rfl (lv_at hl 1 rfl) ?_
  obtain ⟨r1, c2, h⟩ := bd_out h
  refine k_callXVv C G X.2.2 hP hS (m_X5_needMachine l X.1 G.2.1 _ c2) g_obj rfl (cwV 1 C.2.2.2.2.2.1 gX5_capacityFor_X5_needMachine rfl rfl rfl (by decide +kernel) ⟨Nat.le_of_ble_eq_true rfl, Nat.le_of_ble_eq_true rfl⟩) (As := [.int x1]) rfl hl.1 rfl (Nat.le_of_ble_eq_true rfl) dX5_capacityFor_2 ⟨Nat.le_of_ble_eq_true rfl, Nat.le_of_ble_eq_true rfl⟩ (fun k E ce q9 H locs er hE hP hS hcell hv hcl => ?_) (fun H locs u er hP hS => ?_)
  · subst er
    have h : some (Sum.inr k) = some res := h
    cases h
    exact k_out C X hP hS rfl hE hcell hv hcl (by omega) (by omega)
  subst er
  have h := sx_l h
  refine lv_iload_n C.1 C.2.1 dX5_capacityFor_5 rfl (lv_at hl 2 rfl) ?_
  refine lv_sipush (v := 2000) C.1 C.2.1 dX5_capacityFor_6 (by decide) ?_
  obtain ⟨r3, c4, h⟩ := bd_out h
  refine k_callXSv C G X.2.2 hP hS (m_X5_needHorizon l X.1 G.2.1 _ c4) (va_cwS 2 C.2.2.2.2.2.1 gX5_capacityFor_X5_needHorizon rfl rfl rfl (by decide +kernel) ⟨Nat.le_of_ble_eq_true rfl, Nat.le_of_ble_eq_true rfl⟩) (As := [.int x2, .int 2000]) rfl hl.1 rfl (Nat.le_of_ble_eq_true rfl) dX5_capacityFor_9 ⟨Nat.le_of_ble_eq_true rfl, Nat.le_of_ble_eq_true rfl⟩ (fun k E ce q9 H locs er hE hP hS hcell hv hcl => ?_) (fun H locs u er hP hS => ?_)
  · subst er
    have h : some (Sum.inr k) = some res := h
    cases h
    exact k_out C X hP hS rfl hE hcell hv hcl (by omega) (by omega)
  subst er
  have h := sx_l h
  refine lv_iload_n C.1 C.2.1 dX5_capacityFor_12 rfl (lv_at hl 3 rfl) ?_
  refine lv_iconst (v := 0) C.1 C.2.1 dX5_capacityFor_13 (by decide) ?_
  refine lv_sipush (v := 2000) C.1 C.2.1 dX5_capacityFor_14 (by decide) ?_
  obtain ⟨r5, c6, h⟩ := bd_out h
  refine k_callSi C G hP hS (m_X5_isIn l G.2.1 _  c6) (va_cwS 3 C.2.2.2.2.2.1 gX5_capacityFor_X5_isIn rfl rfl rfl (by decide +kernel) ⟨Nat.le_of_ble_eq_true rfl, Nat.le_of_ble_eq_true rfl⟩) (As := [.int x3, .int 0, .int 2000]) rfl hl.1 rfl (Nat.le_of_ble_eq_true rfl) dX5_capacityFor_17 ⟨Nat.le_of_ble_eq_true rfl, Nat.le_of_ble_eq_true rfl⟩ (fun H locs hP hS => ?_)
  refine lv_if_ne (tgt := 33) C.1 C.2.1 dX5_capacityFor_20 (by decide) (fun c7 => ?_) (fun c7 => ?_)
  · have h := if_t c7 h
    refine lv_aload_n C.1 C.2.1 dX5_capacityFor_33 rfl (lv_at hl 0 rfl) ?_
    refine k_getf C G hP g_obj rfl 0 (by decide) n_X5_capacityFor_X5 q_X5_capacityFor_0 (v := .ref (ad (5 + 14 * 0 + 0))) rfl dX5_capacityFor_34 ?_
    refine lv_aload_n C.1 C.2.1 dX5_capacityFor_37 rfl (lv_at hl 0 rfl) ?_
    refine k_getf C G hP g_obj rfl 0 (by decide) n_X5_capacityFor_X5 q_X5_capacityFor_0 (v := .ref (ad (5 + 14 * 0 + 0))) rfl dX5_capacityFor_38 ?_
    refine lv_iload_n C.1 C.2.1 dX5_capacityFor_41 rfl (lv_at hl 2 rfl) ?_
    obtain ⟨r8, L9, c10, h⟩ := bd2_out h
    have hP := up_in (i := 0) hP
    refine k_callVi C G hP hS (m_X2_findSlowest l G.2.1 _ (i := 0) (by decide) c10) (v_obj (i := 0) (by decide)) rfl (cwV 1 C.2.2.2.2.2.1 gX5_capacityFor_X2_findSlowest rfl rfl rfl (by decide +kernel) ⟨Nat.le_of_ble_eq_true rfl, Nat.le_of_ble_eq_true rfl⟩) (As := [.int x2]) rfl hl.1 rfl (Nat.le_of_ble_eq_true rfl) dX5_capacityFor_42 ⟨Nat.le_of_ble_eq_true rfl, Nat.le_of_ble_eq_true rfl⟩ (fun H locs hP hS => ?_)
    obtain ⟨Ls11, eLs11, h⟩ := lt_out h
    rw [← eLs11] at hP
    refine lv_iload_n C.1 C.2.1 dX5_capacityFor_45 rfl (lv_at hl 2 rfl) ?_
    obtain ⟨r12, L13, c14, h⟩ := bd2_out h
    have hP := up_in (i := 0) hP
    refine k_callVi C G hP hS (m_X2_mostBottles l G.2.1 _ (i := 0) (by decide) c14) (v_obj (i := 0) (by decide)) rfl (cwV 2 C.2.2.2.2.2.1 gX5_capacityFor_X2_mostBottles rfl rfl rfl (by decide +kernel) ⟨Nat.le_of_ble_eq_true rfl, Nat.le_of_ble_eq_true rfl⟩) (As := [.int r8, .int x2]) rfl hl.1 rfl (Nat.le_of_ble_eq_true rfl) dX5_capacityFor_46 ⟨Nat.le_of_ble_eq_true rfl, Nat.le_of_ble_eq_true rfl⟩ (fun H locs hP hS => ?_)
    obtain ⟨Ls15, eLs15, h⟩ := lt_out h
    rw [← eLs15] at hP
    refine lv_iload_n C.1 C.2.1 dX5_capacityFor_49 rfl (lv_at hl 3 rfl) ?_
    refine lv_icmp_ge (tgt := 55) C.1 C.2.1 dX5_capacityFor_50 (by decide) (fun c16 => ?_) (fun c16 => ?_)
    · have h := if_t c16 h
      refine lv_iconst (v := 0) C.1 C.2.1 dX5_capacityFor_55 (by decide) ?_
      refine lv_istore (lv' := [(4, .int 0), (0, .ref (ad 0)), (1, .int x1), (2, .int x2), (3, .int x3)]) C.1 C.2.1 dX5_capacityFor_56 hl (by decide) rfl (fun ls hl => ?_)
      refine W.widen (k := 3) (n := 18) (by omega) (by omega) ?_
      exact w_X5_capacityFor_h58 C G fuel hP hS (lv_sub hl [1, 2, 3, 4, 0] rfl) h
    · have h := if_f c16 h
      refine lv_iconst (v := (-1)) C.1 C.2.1 dX5_capacityFor_53 (by decide) ?_
      cases h
      refine W.widen (k := 3) (n := 18) (by omega) (by omega) ?_
      exact k_iretX C hP hS rfl rfl rfl dX5_capacityFor_54
  · have h := if_n c7 h
    cases h
    exact k_throw (k := 1) (text := "wanted is out of range") C X hP hS rfl (by decide) q_X5_capacityFor_1 q_X5_capacityFor_2 (List.mem_of_getElem? (i := 11) rfl) (fun w h => List.mem_cons_of_mem _ (List.mem_append_left _ (List.mem_append_right _ h))) tw_45 tg_45 hl.1 dX5_capacityFor_23 dX5_capacityFor_26 dX5_capacityFor_27 dX5_capacityFor_29 dX5_capacityFor_32 (Nat.le_of_ble_eq_true rfl) (Nat.le_of_ble_eq_true rfl) (Nat.le_of_ble_eq_true rfl) (Nat.le_of_ble_eq_true rfl) (by omega) (by omega)
set_option maxRecDepth 100000 in
set_option maxHeartbeats 4000000 in
theorem m_X5_capacityFor (l : Launch) (hfl : l.stackTraces = false) {D : va_G} {cs : Nat → ClassId} {ad : Nat → Nat} (hAd : adOK ad) (sz : Nat) {Ls : Nat → SL} {Hs : SL} {T : SL} {x1 : Int32} {x2 : Int32} {x3 : Int32} {res : Sum (Int32 × (Nat → SL)) Nat} (h : f_X5_capacityFor Ls x1 x2 x3 = some res) : vx_Met l yX5_capacityFor wsX5_capacityFor rmX5_capacityFor (PX D cs ad sz (wA cs ad Ls Hs T) [.ref (ad 0), .int x1, .int x2, .int x3]) (va_Qi (fun r' (u : Int32 × (Nat → SL)) => res = Sum.inl u ∧ r' = u.1) (fun (u : Int32 × (Nat → SL)) t => va_P D vwCl (wA cs ad u.2 Hs T) t.heap) (Afr ad sz)) (vx_X (fun k : Nat => res = Sum.inr k) (fun E k t => E = exN k ∧ va_P D vwCl (wA cs ad Ls Hs T) t.heap) (Afr ad sz)) 3 18 (Afr ad sz) :=
  k_metX hfl (by decide) rfl (Nat.le_of_ble_eq_true rfl) hAd (fun p e s m below meth c ls C G X hP hsz hl hS => by
    subst hsz
    exact w_X5_capacityFor_e C G X  hP hS hl  h)
/-! X5 bestBuffer -/
abbrev rmX5_bestBuffer : Room := { frames := 7, cells := 2, slots := 12, locals := 117 }
theorem q_X5_bestBuffer_0 : Cond.classLink RX5 41 "java/lang/IllegalArgumentException" ∈ wsX5_bestBuffer := List.mem_of_getElem? (i := 1) rfl
theorem q_X5_bestBuffer_1 : Cond.initialized "java/lang/IllegalArgumentException" ∈ wsX5_bestBuffer := List.mem_of_getElem? (i := 2) rfl
theorem q_X5_bestBuffer_2 : Cond.fieldLink RX5 10 "LineBuffers" "line" "LLineBuffers$Line;" ∈ wsX5_bestBuffer := List.mem_of_getElem? (i := 3) rfl
theorem q_X5_bestBuffer_3 : Cond.methodLink RX5 168 Lib.Math.min.name ∈ wsX5_bestBuffer := List.mem_of_getElem? (i := 4) rfl
theorem q_X5_bestBuffer_4 : Cond.static Lib.Math.min.name ∈ wsX5_bestBuffer := List.mem_of_getElem? (i := 5) rfl
theorem q_X5_bestBuffer_5 : Cond.initialized "java/lang/Math" ∈ wsX5_bestBuffer := List.mem_of_getElem? (i := 6) rfl
theorem q_X5_bestBuffer_6 : Cond.code Lib.Math.min.name Lib.Math.min.code 2 (some .int) ∈ wsX5_bestBuffer := List.mem_of_getElem? (i := 7) rfl
theorem n_X5_bestBuffer_X5 : ∀ x ∈ u_ws RX5 TX5 4, x ∈ wsX5_bestBuffer := fun x h => List.mem_cons_of_mem _ (List.mem_append_left _ (List.mem_append_left _ (List.mem_append_left _ (List.mem_append_left _ (List.mem_append_right _ h)))))
theorem n_X5_bestBuffer_X2 : ∀ x ∈ u_ws RX2 TX2 4, x ∈ wsX5_bestBuffer := fun x h => List.mem_cons_of_mem _ (List.mem_append_left _ (List.mem_append_left _ (List.mem_append_left _ (List.mem_append_right _ h))))
set_option maxRecDepth 100000 in
set_option maxHeartbeats 4000000 in
theorem w_X5_bestBuffer_b100 {res : Sum (Int32 × (Nat → SL)) Nat} (C : Cx p s m args meth c cX5_bestBuffer 8 (some .int) RX5 wsX5_bestBuffer) (G : Gx D cs ad s) {XC : String → State → State → Prop} {Hs : SL} {T : SL} {K40 : (Nat → SL) → Int32 → Int32 → Int32 → Int32 → Int32 → Option (Sum (Int32 × (Nat → SL)) Nat)} (hK40 : ∀ {Ls : Nat → SL} {x1 : Int32} {x2 : Int32} {x3 : Int32} {x4 : Int32} {x5 : Int32} {H : Heap} {locs : List Loc} {ls : Array Slot}, va_P D vwCl (wA cs ad Ls Hs T) H → va_S (Afr ad s.heap.size) s.heap H locs → lv_has ls 8 [(0, .ref (ad 0)), (1, .int x1), (2, .int x2), (3, .int x3), (4, .int x4), (5, .int x5)] → K40 Ls x1 x2 x3 x4 x5 = some res → W p l e rmX5_bestBuffer s m args below meth c H locs 2 12 (vx_MQ below (va_Qi (fun r' (u : Int32 × (Nat → SL)) => res = Sum.inl u ∧ r' = u.1) (fun (u : Int32 × (Nat → SL)) t => va_P D vwCl (wA cs ad u.2 Hs T) t.heap) (Afr ad s.heap.size)) XC args s 2 12 (Afr ad s.heap.size)) (F0 m 40 ls [])) {Ls : Nat → SL} {x1 : Int32} {x2 : Int32} {x3 : Int32} {x4 : Int32} {x5 : Int32} {H : Heap} {locs : List Loc} {ls : Array Slot} (hP : va_P D vwCl (wA cs ad Ls Hs T) H) (hS : va_S (Afr ad s.heap.size) s.heap H locs) (hl : lv_has ls 8 [(0, .ref (ad 0)), (1, .int x1), (2, .int x2), (3, .int x3), (4, .int x4), (5, .int x5)]) (h : f_X5_bestBuffer_b100 K40 Ls x1 x2 x3 x4 x5 = some res) : W p l e rmX5_bestBuffer s m args below meth c H locs 2 12 (vx_MQ below (va_Qi (fun r' (u : Int32 × (Nat → SL)) => res = Sum.inl u ∧ r' = u.1) (fun (u : Int32 × (Nat → SL)) t => va_P D vwCl (wA cs ad u.2 Hs T) t.heap) (Afr ad s.heap.size)) XC args s 2 12 (Afr ad s.heap.size)) (F0 m 100 ls []) := by
  unfold f_X5_bestBuffer_b100 at h
  obtain ⟨z1, ez1, h⟩ := lt_out h
  refine lv_iinc (v := z1) (lv' := [(5, .int z1), (0, .ref (ad 0)), (1, .int x1), (2, .int x2), (3, .int x3), (4, .int x4)]) C.1 C.2.1 dX5_bestBuffer_100 hl (k := 5) rfl (by rw [ez1]; rfl) (by decide) rfl (fun ls hl => ?_)
  refine lv_goto (tgt := 40) C.1 C.2.1 dX5_bestBuffer_103 (by decide) ?_
  refine W.widen (k := 2) (n := 12) (by omega) (by omega) ?_
  exact hK40 hP hS (lv_sub hl [1, 2, 3, 4, 5, 0] rfl)  h
set_option maxRecDepth 100000 in
set_option maxHeartbeats 4000000 in
theorem w_X5_bestBuffer_b40 {res : Sum (Int32 × (Nat → SL)) Nat} (C : Cx p s m args meth c cX5_bestBuffer 8 (some .int) RX5 wsX5_bestBuffer) (G : Gx D cs ad s) {XC : String → State → State → Prop} {Hs : SL} {T : SL} {K40 : (Nat → SL) → Int32 → Int32 → Int32 → Int32 → Int32 → Option (Sum (Int32 × (Nat → SL)) Nat)} (hK40 : ∀ {Ls : Nat → SL} {x1 : Int32} {x2 : Int32} {x3 : Int32} {x4 : Int32} {x5 : Int32} {H : Heap} {locs : List Loc} {ls : Array Slot}, va_P D vwCl (wA cs ad Ls Hs T) H → va_S (Afr ad s.heap.size) s.heap H locs → lv_has ls 8 [(0, .ref (ad 0)), (1, .int x1), (2, .int x2), (3, .int x3), (4, .int x4), (5, .int x5)] → K40 Ls x1 x2 x3 x4 x5 = some res → W p l e rmX5_bestBuffer s m args below meth c H locs 2 12 (vx_MQ below (va_Qi (fun r' (u : Int32 × (Nat → SL)) => res = Sum.inl u ∧ r' = u.1) (fun (u : Int32 × (Nat → SL)) t => va_P D vwCl (wA cs ad u.2 Hs T) t.heap) (Afr ad s.heap.size)) XC args s 2 12 (Afr ad s.heap.size)) (F0 m 40 ls [])) {Ls : Nat → SL} {x1 : Int32} {x2 : Int32} {x3 : Int32} {x4 : Int32} {x5 : Int32} {H : Heap} {locs : List Loc} {ls : Array Slot} (hP : va_P D vwCl (wA cs ad Ls Hs T) H) (hS : va_S (Afr ad s.heap.size) s.heap H locs) (hl : lv_has ls 8 [(0, .ref (ad 0)), (1, .int x1), (2, .int x2), (3, .int x3), (4, .int x4), (5, .int x5)]) (h : f_X5_bestBuffer_b40 K40 Ls x1 x2 x3 x4 x5 = some res) : W p l e rmX5_bestBuffer s m args below meth c H locs 2 12 (vx_MQ below (va_Qi (fun r' (u : Int32 × (Nat → SL)) => res = Sum.inl u ∧ r' = u.1) (fun (u : Int32 × (Nat → SL)) t => va_P D vwCl (wA cs ad u.2 Hs T) t.heap) (Afr ad s.heap.size)) XC args s 2 12 (Afr ad s.heap.size)) (F0 m 40 ls []) := by
  unfold f_X5_bestBuffer_b40 at h
  refine lv_iload C.1 C.2.1 dX5_bestBuffer_40 (lv_at hl 5 rfl) ?_
  refine lv_aload_n C.1 C.2.1 dX5_bestBuffer_42 rfl (lv_at hl 0 rfl) ?_
  refine k_getf C G hP g_obj rfl 0 (by decide) n_X5_bestBuffer_X5 q_X5_bestBuffer_2 (v := .ref (ad (5 + 14 * 0 + 0))) rfl dX5_bestBuffer_43 ?_
  obtain ⟨v1, ev1, h⟩ := lt_out h
  refine k_getiN C G hP (c_obj (i := 0) (by decide)) rfl 2 (by decide) n_X5_bestBuffer_X2 (List.mem_of_getElem? (i := 3) rfl) rfl ev1 dX5_bestBuffer_46 ?_
  refine lv_iconst (v := 1) C.1 C.2.1 dX5_bestBuffer_49 (by decide) ?_
  obtain ⟨v2, ev2, h⟩ := lt_out h
  refine k_isub C ev2 dX5_bestBuffer_50 ?_
  refine lv_icmp_ge (tgt := 106) C.1 C.2.1 dX5_bestBuffer_51 (by decide) (fun c3 => ?_) (fun c3 => ?_)
  · have h := if_t c3 h
    refine lv_iload_n C.1 C.2.1 dX5_bestBuffer_106 rfl (lv_at hl 3 rfl) ?_
    cases h
    refine W.widen (k := 2) (n := 12) (by omega) (by omega) ?_
    exact k_iretX C hP hS rfl rfl rfl dX5_bestBuffer_107
  · have h := if_f c3 h
    refine lv_aload_n C.1 C.2.1 dX5_bestBuffer_54 rfl (lv_at hl 0 rfl) ?_
    refine k_getf C G hP g_obj rfl 0 (by decide) n_X5_bestBuffer_X5 q_X5_bestBuffer_2 (v := .ref (ad (5 + 14 * 0 + 0))) rfl dX5_bestBuffer_55 ?_
    refine k_getfN C G hP (c_obj (i := 0) (by decide)) rfl 0 (by decide) n_X5_bestBuffer_X2 (List.mem_of_getElem? (i := 1) rfl) (v := .ref (ad (5 + 14 * 0 + 1))) rfl dX5_bestBuffer_58 ?_
    refine lv_iload C.1 C.2.1 dX5_bestBuffer_61 (lv_at hl 5 rfl) ?_
    obtain ⟨g4, h⟩ := gd_out h
    have g4 := chk_in g4
    obtain ⟨kq5, ekq5, h⟩ := lt_out h
    have hkq5 : 2 ≤ kq5 ∧ kq5 < 10 := row_k g4 ekq5
    refine k_aaldR C G hP (c_rows (i := 0) (by decide)) g4 (b := ad (5 + 14 * 0 + kq5)) (by rw [ekq5]) dX5_bestBuffer_63 ?_
    refine lv_iconst (v := 4) C.1 C.2.1 dX5_bestBuffer_64 (by decide) ?_
    obtain ⟨v6, ev6, h⟩ := lt_out h
    refine k_iald C G hP (c_row (i := 0) (by decide) hkq5) (chk_in rfl) (j := 4) rfl ev6 dX5_bestBuffer_65 ?_
    refine lv_iload_n C.1 C.2.1 dX5_bestBuffer_66 rfl (lv_at hl 2 rfl) ?_
    obtain ⟨v7, ev7, h⟩ := lt_out h
    refine k_iadd C ev7 dX5_bestBuffer_67 ?_
    refine lv_bipush (v := 40) C.1 C.2.1 dX5_bestBuffer_68 (by decide) ?_
    obtain ⟨v8, ev8, h⟩ := lt_out h
    refine k_min C G hl.1 q_X5_bestBuffer_3 q_X5_bestBuffer_4 q_X5_bestBuffer_5 q_X5_bestBuffer_6 (Nat.le_of_ble_eq_true rfl) (Nat.le_of_ble_eq_true rfl) (Nat.le_of_ble_eq_true rfl) (Nat.le_of_ble_eq_true rfl) ev8 dX5_bestBuffer_70 ?_
    refine lv_istore (lv' := [(6, .int v8), (0, .ref (ad 0)), (1, .int x1), (2, .int x2), (3, .int x3), (4, .int x4), (5, .int x5)]) C.1 C.2.1 dX5_bestBuffer_73 hl (by decide) rfl (fun ls hl => ?_)
    refine lv_aload_n C.1 C.2.1 dX5_bestBuffer_75 rfl (lv_at hl 1 rfl) ?_
    refine lv_iload C.1 C.2.1 dX5_bestBuffer_76 (lv_at hl 6 rfl) ?_
    refine lv_iload C.1 C.2.1 dX5_bestBuffer_78 (lv_at hl 0 rfl) ?_
    refine lv_iload_n C.1 C.2.1 dX5_bestBuffer_80 rfl (lv_at hl 2 rfl) ?_
    obtain ⟨r9, Ls10, c11, h⟩ := bd2_out h
    refine k_callVi C G hP hS (m_X5_tryCapacity l G.2.1 _  c11) g_obj rfl (cwV 3 C.2.2.2.2.2.1 gX5_bestBuffer_X5_tryCapacity rfl rfl rfl (by decide +kernel) ⟨Nat.le_of_ble_eq_true rfl, Nat.le_of_ble_eq_true rfl⟩) (As := [.int x5, .int v8, .int x1]) rfl hl.1 rfl (Nat.le_of_ble_eq_true rfl) dX5_bestBuffer_81 ⟨Nat.le_of_ble_eq_true rfl, Nat.le_of_ble_eq_true rfl⟩ (fun H locs hP hS => ?_)
    refine lv_istore (lv' := [(7, .int r9), (6, .int v8), (0, .ref (ad 0)), (1, .int x1), (2, .int x2), (3, .int x3), (4, .int x4), (5, .int x5)]) C.1 C.2.1 dX5_bestBuffer_84 hl (by decide) rfl (fun ls hl => ?_)
    refine lv_iload C.1 C.2.1 dX5_bestBuffer_86 (lv_at hl 0 rfl) ?_
    refine lv_iload C.1 C.2.1 dX5_bestBuffer_88 (lv_at hl 6 rfl) ?_
    refine lv_icmp_le (tgt := 100) C.1 C.2.1 dX5_bestBuffer_90 (by decide) (fun c12 => ?_) (fun c12 => ?_)
    · have h := if_t c12 h
      refine W.widen (k := 2) (n := 12) (by omega) (by omega) ?_
      exact w_X5_bestBuffer_b100 C G hK40 hP hS (lv_sub hl [2, 3, 4, 5, 6, 7] rfl) h
    · have h := if_f c12 h
      refine lv_iload C.1 C.2.1 dX5_bestBuffer_93 (lv_at hl 0 rfl) ?_
      refine lv_istore (lv' := [(4, .int r9), (7, .int r9), (6, .int v8), (0, .ref (ad 0)), (1, .int x1), (2, .int x2), (3, .int x3), (5, .int x5)]) C.1 C.2.1 dX5_bestBuffer_95 hl (by decide) rfl (fun ls hl => ?_)
      refine lv_iload C.1 C.2.1 dX5_bestBuffer_97 (lv_at hl 7 rfl) ?_
      refine lv_istore_n (lv' := [(3, .int x5), (4, .int r9), (7, .int r9), (6, .int v8), (0, .ref (ad 0)), (1, .int x1), (2, .int x2), (5, .int x5)]) C.1 C.2.1 dX5_bestBuffer_99 rfl hl (by decide) rfl (fun ls hl => ?_)
      refine W.widen (k := 2) (n := 12) (by omega) (by omega) ?_
      exact w_X5_bestBuffer_b100 C G hK40 hP hS (lv_sub hl [4, 5, 6, 0, 1, 7] rfl) h
set_option maxRecDepth 100000 in
set_option maxHeartbeats 4000000 in
theorem w_X5_bestBuffer_h40 {res : Sum (Int32 × (Nat → SL)) Nat} (C : Cx p s m args meth c cX5_bestBuffer 8 (some .int) RX5 wsX5_bestBuffer) (G : Gx D cs ad s) {XC : String → State → State → Prop} {Hs : SL} {T : SL} : ∀ (n : Nat) {Ls : Nat → SL} {x1 : Int32} {x2 : Int32} {x3 : Int32} {x4 : Int32} {x5 : Int32} {H : Heap} {locs : List Loc} {ls : Array Slot}, va_P D vwCl (wA cs ad Ls Hs T) H → va_S (Afr ad s.heap.size) s.heap H locs → lv_has ls 8 [(0, .ref (ad 0)), (1, .int x1), (2, .int x2), (3, .int x3), (4, .int x4), (5, .int x5)] → f_X5_bestBuffer_h40 n Ls x1 x2 x3 x4 x5 = some res → W p l e rmX5_bestBuffer s m args below meth c H locs 2 12 (vx_MQ below (va_Qi (fun r' (u : Int32 × (Nat → SL)) => res = Sum.inl u ∧ r' = u.1) (fun (u : Int32 × (Nat → SL)) t => va_P D vwCl (wA cs ad u.2 Hs T) t.heap) (Afr ad s.heap.size)) XC args s 2 12 (Afr ad s.heap.size)) (F0 m 40 ls []) := by
  intro n
  induction n with
  | zero => intro Ls x1 x2 x3 x4 x5 H locs ls hP hS hl  h; cases h
  | succ n ih => intro Ls x1 x2 x3 x4 x5 H locs ls hP hS hl  h; exact w_X5_bestBuffer_b40 C G    ih hP hS hl  h
set_option maxRecDepth 100000 in
set_option maxHeartbeats 4000000 in
theorem w_X5_bestBuffer_e {res : Sum (Int32 × (Nat → SL)) Nat} (C : Cx p s m args meth c cX5_bestBuffer 8 (some .int) RX5 wsX5_bestBuffer) (G : Gx D cs ad s) (X : Tx l c ad s) {Hs : SL} {T : SL} {Ls : Nat → SL} {x1 : Int32} {x2 : Int32} {H : Heap} {locs : List Loc} {ls : Array Slot} (hP : va_P D vwCl (wA cs ad Ls Hs T) H) (hS : va_S (Afr ad s.heap.size) s.heap H locs) (hl : lv_has ls 8 [(0, .ref (ad 0)), (1, .int x1), (2, .int x2)]) (h : f_X5_bestBuffer Ls x1 x2 = some res) : W p l e rmX5_bestBuffer s m args below meth c H locs 0 0 (vx_MQ below (va_Qi (fun r' (u : Int32 × (Nat → SL)) => res = Sum.inl u ∧ r' = u.1) (fun (u : Int32 × (Nat → SL)) t => va_P D vwCl (wA cs ad u.2 Hs T) t.heap) (Afr ad s.heap.size)) (vx_X (fun k : Nat => res = Sum.inr k) (fun E k t => E = exN k ∧ va_P D vwCl (wA cs ad Ls Hs T) t.heap) (Afr ad s.heap.size)) args s 2 12 (Afr ad s.heap.size)) (F0 m 0 ls []) := by
  unfold f_X5_bestBuffer at h
  refine lv_iload_n C.1 C.2.1 dX5_bestBuffer_0 rfl (lv_at hl 1 rfl) ?_
  refine lv_sipush (v := 2000) C.1 C.2.1 dX5_bestBuffer_1 (by decide) ?_
  obtain ⟨r1, c2, h⟩ := bd_out h
  refine k_callXSv C G X.2.2 hP hS (m_X5_needHorizon l X.1 G.2.1 _ c2) (va_cwS 2 C.2.2.2.2.2.1 gX5_bestBuffer_X5_needHorizon rfl rfl rfl (by decide +kernel) ⟨Nat.le_of_ble_eq_true rfl, Nat.le_of_ble_eq_true rfl⟩) (As := [.int x1, .int 2000]) rfl hl.1 rfl (Nat.le_of_ble_eq_true rfl) dX5_bestBuffer_4 ⟨Nat.le_of_ble_eq_true rfl, Nat.le_of_ble_eq_true rfl⟩ (fun k E ce q9 H locs er hE hP hS hcell hv hcl => ?_) (fun H locs u er hP hS => ?_)
  · subst er
    have h : some (Sum.inr k) = some res := h
    cases h
    exact k_out C X hP hS rfl hE hcell hv hcl (by omega) (by omega)
  subst er
  have h := sx_l h
  refine lv_iload_n C.1 C.2.1 dX5_bestBuffer_7 rfl (lv_at hl 2 rfl) ?_
  refine lv_iconst (v := 1) C.1 C.2.1 dX5_bestBuffer_8 (by decide) ?_
  refine lv_bipush (v := 40) C.1 C.2.1 dX5_bestBuffer_9 (by decide) ?_
  obtain ⟨r3, c4, h⟩ := bd_out h
  refine k_callSi C G hP hS (m_X5_isIn l G.2.1 _  c4) (va_cwS 3 C.2.2.2.2.2.1 gX5_bestBuffer_X5_isIn rfl rfl rfl (by decide +kernel) ⟨Nat.le_of_ble_eq_true rfl, Nat.le_of_ble_eq_true rfl⟩) (As := [.int x2, .int 1, .int 40]) rfl hl.1 rfl (Nat.le_of_ble_eq_true rfl) dX5_bestBuffer_11 ⟨Nat.le_of_ble_eq_true rfl, Nat.le_of_ble_eq_true rfl⟩ (fun H locs hP hS => ?_)
  refine lv_if_ne (tgt := 27) C.1 C.2.1 dX5_bestBuffer_14 (by decide) (fun c5 => ?_) (fun c5 => ?_)
  · have h := if_t c5 h
    refine lv_aload_n C.1 C.2.1 dX5_bestBuffer_27 rfl (lv_at hl 0 rfl) ?_
    refine lv_iconst (v := 2) C.1 C.2.1 dX5_bestBuffer_28 (by decide) ?_
    obtain ⟨r6, c7, h⟩ := bd_out h
    refine k_callXVv C G X.2.2 hP hS (m_X5_needMachines l X.1 G.2.1 _ c7) g_obj rfl (cwV 1 C.2.2.2.2.2.1 gX5_bestBuffer_X5_needMachines rfl rfl rfl (by decide +kernel) ⟨Nat.le_of_ble_eq_true rfl, Nat.le_of_ble_eq_true rfl⟩) (As := [.int 2]) rfl hl.1 rfl (Nat.le_of_ble_eq_true rfl) dX5_bestBuffer_29 ⟨Nat.le_of_ble_eq_true rfl, Nat.le_of_ble_eq_true rfl⟩ (fun k E ce q9 H locs er hE hP hS hcell hv hcl => ?_) (fun H locs u er hP hS => ?_)
    · subst er
      have h : some (Sum.inr k) = some res := h
      cases h
      exact k_out C X hP hS rfl hE hcell hv hcl (by omega) (by omega)
    subst er
    have h := sx_l h
    refine lv_iconst (v := 0) C.1 C.2.1 dX5_bestBuffer_32 (by decide) ?_
    refine lv_istore_n (lv' := [(3, .int 0), (0, .ref (ad 0)), (1, .int x1), (2, .int x2)]) C.1 C.2.1 dX5_bestBuffer_33 rfl hl (by decide) rfl (fun ls hl => ?_)
    refine lv_iconst (v := (-1)) C.1 C.2.1 dX5_bestBuffer_34 (by decide) ?_
    refine lv_istore (lv' := [(4, .int (-1)), (3, .int 0), (0, .ref (ad 0)), (1, .int x1), (2, .int x2)]) C.1 C.2.1 dX5_bestBuffer_35 hl (by decide) rfl (fun ls hl => ?_)
    refine lv_iconst (v := 0) C.1 C.2.1 dX5_bestBuffer_37 (by decide) ?_
    refine lv_istore (lv' := [(5, .int 0), (4, .int (-1)), (3, .int 0), (0, .ref (ad 0)), (1, .int x1), (2, .int x2)]) C.1 C.2.1 dX5_bestBuffer_38 hl (by decide) rfl (fun ls hl => ?_)
    refine W.widen (k := 2) (n := 12) (by omega) (by omega) ?_
    exact w_X5_bestBuffer_h40 C G fuel hP hS (lv_sub hl [3, 4, 5, 2, 1, 0] rfl) h
  · have h := if_n c5 h
    cases h
    exact k_throw (k := 1) (text := "places is out of range") C X hP hS rfl (by decide) q_X5_bestBuffer_0 q_X5_bestBuffer_1 (List.mem_of_getElem? (i := 12) rfl) (fun w h => List.mem_cons_of_mem _ (List.mem_append_left _ (List.mem_append_right _ h))) tw_45 tg_45 hl.1 dX5_bestBuffer_17 dX5_bestBuffer_20 dX5_bestBuffer_21 dX5_bestBuffer_23 dX5_bestBuffer_26 (Nat.le_of_ble_eq_true rfl) (Nat.le_of_ble_eq_true rfl) (Nat.le_of_ble_eq_true rfl) (Nat.le_of_ble_eq_true rfl) (by omega) (by omega)
set_option maxRecDepth 100000 in
set_option maxHeartbeats 4000000 in
theorem m_X5_bestBuffer (l : Launch) (hfl : l.stackTraces = false) {D : va_G} {cs : Nat → ClassId} {ad : Nat → Nat} (hAd : adOK ad) (sz : Nat) {Ls : Nat → SL} {Hs : SL} {T : SL} {x1 : Int32} {x2 : Int32} {res : Sum (Int32 × (Nat → SL)) Nat} (h : f_X5_bestBuffer Ls x1 x2 = some res) : vx_Met l yX5_bestBuffer wsX5_bestBuffer rmX5_bestBuffer (PX D cs ad sz (wA cs ad Ls Hs T) [.ref (ad 0), .int x1, .int x2]) (va_Qi (fun r' (u : Int32 × (Nat → SL)) => res = Sum.inl u ∧ r' = u.1) (fun (u : Int32 × (Nat → SL)) t => va_P D vwCl (wA cs ad u.2 Hs T) t.heap) (Afr ad sz)) (vx_X (fun k : Nat => res = Sum.inr k) (fun E k t => E = exN k ∧ va_P D vwCl (wA cs ad Ls Hs T) t.heap) (Afr ad sz)) 2 12 (Afr ad sz) :=
  k_metX hfl (by decide) rfl (Nat.le_of_ble_eq_true rfl) hAd (fun p e s m below meth c ls C G X hP hsz hl hS => by
    subst hsz
    exact w_X5_bestBuffer_e C G X  hP hS hl  h)
/-! X5 append -/
abbrev rmX5_append : Room := { frames := 6, cells := 1, slots := 6, locals := 96 }
theorem q_X5_append_0 : Cond.fieldLink RX5 29 "LineBuffers" "text" "LLineBuffers$LineText;" ∈ wsX5_append := List.mem_of_getElem? (i := 5) rfl
theorem q_X5_append_1 : Cond.classLink RX5 55 "java/lang/IllegalStateException" ∈ wsX5_append := List.mem_of_getElem? (i := 3) rfl
theorem q_X5_append_2 : Cond.initialized "java/lang/IllegalStateException" ∈ wsX5_append := List.mem_of_getElem? (i := 4) rfl
theorem q_X5_append_3 : Cond.classLink RX5 41 "java/lang/IllegalArgumentException" ∈ wsX5_append := List.mem_of_getElem? (i := 1) rfl
theorem q_X5_append_4 : Cond.initialized "java/lang/IllegalArgumentException" ∈ wsX5_append := List.mem_of_getElem? (i := 2) rfl
theorem n_X5_append_X5 : ∀ x ∈ u_ws RX5 TX5 4, x ∈ wsX5_append := fun x h => List.mem_cons_of_mem _ (List.mem_append_left _ (List.mem_append_left _ (List.mem_append_left _ (List.mem_append_right _ h))))
theorem n_X5_append_X3 : ∀ x ∈ u_ws RX3 TX3 4, x ∈ wsX5_append := fun x h => List.mem_cons_of_mem _ (List.mem_append_left _ (List.mem_append_left _ (List.mem_append_right _ h)))
set_option maxRecDepth 100000 in
set_option maxHeartbeats 4000000 in
theorem w_X5_append_e {res : Sum (Int32 × SL) Nat} (C : Cx p s m args meth c cX5_append 2 (some .int) RX5 wsX5_append) (G : Gx D cs ad s) (X : Tx l c ad s) {Ls : Nat → SL} {Hs : SL} {T : SL} {x1 : Int32} {H : Heap} {locs : List Loc} {ls : Array Slot} (hP : va_P D vwCl (wA cs ad Ls Hs T) H) (hS : va_S (Afr ad s.heap.size) s.heap H locs) (hl : lv_has ls 2 [(0, .ref (ad 0)), (1, .int x1)]) (h : f_X5_append T x1 = some res) : W p l e rmX5_append s m args below meth c H locs 0 0 (vx_MQ below (va_Qi (fun r' (u : Int32 × SL) => res = Sum.inl u ∧ r' = u.1) (fun (u : Int32 × SL) t => va_P D vwCl (wA cs ad Ls Hs u.2) t.heap) (Afr ad s.heap.size)) (vx_X (fun k : Nat => res = Sum.inr k) (fun E k t => E = exN k ∧ va_P D vwCl (wA cs ad Ls Hs T) t.heap) (Afr ad s.heap.size)) args s 1 6 (Afr ad s.heap.size)) (F0 m 0 ls []) := by
  unfold f_X5_append at h
  refine lv_iload_n C.1 C.2.1 dX5_append_0 rfl (lv_at hl 1 rfl) ?_
  refine lv_iconst (v := 0) C.1 C.2.1 dX5_append_1 (by decide) ?_
  refine lv_bipush (v := 127) C.1 C.2.1 dX5_append_2 (by decide) ?_
  obtain ⟨r1, c2, h⟩ := bd_out h
  refine k_callSi C G hP hS (m_X5_isIn l G.2.1 _  c2) (va_cwS 3 C.2.2.2.2.2.1 gX5_append_X5_isIn rfl rfl rfl (by decide +kernel) ⟨Nat.le_of_ble_eq_true rfl, Nat.le_of_ble_eq_true rfl⟩) (As := [.int x1, .int 0, .int 127]) rfl hl.1 rfl (Nat.le_of_ble_eq_true rfl) dX5_append_4 ⟨Nat.le_of_ble_eq_true rfl, Nat.le_of_ble_eq_true rfl⟩ (fun H locs hP hS => ?_)
  refine lv_if_ne (tgt := 20) C.1 C.2.1 dX5_append_7 (by decide) (fun c3 => ?_) (fun c3 => ?_)
  · have h := if_t c3 h
    refine lv_aload_n C.1 C.2.1 dX5_append_20 rfl (lv_at hl 0 rfl) ?_
    refine k_getf C G hP g_obj rfl 3 (by decide) n_X5_append_X5 q_X5_append_0 (v := .ref (ad 3)) rfl dX5_append_21 ?_
    obtain ⟨v4, ev4, h⟩ := lt_out h
    refine k_getiN C G hP g_txt rfl 1 (by decide) n_X5_append_X3 (List.mem_of_getElem? (i := 6) rfl) rfl ev4 dX5_append_24 ?_
    refine lv_bipush (v := 120) C.1 C.2.1 dX5_append_27 (by decide) ?_
    refine lv_icmp_lt (tgt := 42) C.1 C.2.1 dX5_append_29 (by decide) (fun c5 => ?_) (fun c5 => ?_)
    · have h := if_t c5 h
      refine lv_aload_n C.1 C.2.1 dX5_append_42 rfl (lv_at hl 0 rfl) ?_
      refine k_getf C G hP g_obj rfl 3 (by decide) n_X5_append_X5 q_X5_append_0 (v := .ref (ad 3)) rfl dX5_append_43 ?_
      refine lv_iload_n C.1 C.2.1 dX5_append_46 rfl (lv_at hl 1 rfl) ?_
      obtain ⟨T6, c7, h⟩ := bd_out h
      refine k_callVv C G hP hS (m_X3_put l G.2.1 _  c7) g_txt rfl (cwV 1 C.2.2.2.2.2.1 gX5_append_X3_put rfl rfl rfl (by decide +kernel) ⟨Nat.le_of_ble_eq_true rfl, Nat.le_of_ble_eq_true rfl⟩) (As := [.int x1]) rfl hl.1 rfl (Nat.le_of_ble_eq_true rfl) dX5_append_47 ⟨Nat.le_of_ble_eq_true rfl, Nat.le_of_ble_eq_true rfl⟩ (fun H locs hP hS => ?_)
      refine lv_aload_n C.1 C.2.1 dX5_append_50 rfl (lv_at hl 0 rfl) ?_
      refine k_getf C G hP g_obj rfl 3 (by decide) n_X5_append_X5 q_X5_append_0 (v := .ref (ad 3)) rfl dX5_append_51 ?_
      obtain ⟨v8, ev8, h⟩ := lt_out h
      refine k_getiN C G hP g_txt rfl 1 (by decide) n_X5_append_X3 (List.mem_of_getElem? (i := 6) rfl) rfl ev8 dX5_append_54 ?_
      cases h
      refine W.widen (k := 1) (n := 6) (by omega) (by omega) ?_
      exact k_iretX C hP hS rfl rfl rfl dX5_append_57
    · have h := if_f c5 h
      cases h
      exact k_throw (k := 2) (text := "the text is full") C X hP hS rfl (by decide) q_X5_append_1 q_X5_append_2 (List.mem_of_getElem? (i := 14) rfl) (fun w h => List.mem_cons_of_mem _ (List.mem_append_right _ h)) tw_59 tg_59 hl.1 dX5_append_32 dX5_append_35 dX5_append_36 dX5_append_38 dX5_append_41 (Nat.le_of_ble_eq_true rfl) (Nat.le_of_ble_eq_true rfl) (Nat.le_of_ble_eq_true rfl) (Nat.le_of_ble_eq_true rfl) (by omega) (by omega)
  · have h := if_n c3 h
    cases h
    exact k_throw (k := 1) (text := "value is no byte of a text") C X hP hS rfl (by decide) q_X5_append_3 q_X5_append_4 (List.mem_of_getElem? (i := 13) rfl) (fun w h => List.mem_cons_of_mem _ (List.mem_append_left _ (List.mem_append_right _ h))) tw_45 tg_45 hl.1 dX5_append_10 dX5_append_13 dX5_append_14 dX5_append_16 dX5_append_19 (Nat.le_of_ble_eq_true rfl) (Nat.le_of_ble_eq_true rfl) (Nat.le_of_ble_eq_true rfl) (Nat.le_of_ble_eq_true rfl) (by omega) (by omega)
set_option maxRecDepth 100000 in
set_option maxHeartbeats 4000000 in
theorem m_X5_append (l : Launch) (hfl : l.stackTraces = false) {D : va_G} {cs : Nat → ClassId} {ad : Nat → Nat} (hAd : adOK ad) (sz : Nat) {Ls : Nat → SL} {Hs : SL} {T : SL} {x1 : Int32} {res : Sum (Int32 × SL) Nat} (h : f_X5_append T x1 = some res) : vx_Met l yX5_append wsX5_append rmX5_append (PX D cs ad sz (wA cs ad Ls Hs T) [.ref (ad 0), .int x1]) (va_Qi (fun r' (u : Int32 × SL) => res = Sum.inl u ∧ r' = u.1) (fun (u : Int32 × SL) t => va_P D vwCl (wA cs ad Ls Hs u.2) t.heap) (Afr ad sz)) (vx_X (fun k : Nat => res = Sum.inr k) (fun E k t => E = exN k ∧ va_P D vwCl (wA cs ad Ls Hs T) t.heap) (Afr ad sz)) 1 6 (Afr ad sz) :=
  k_metX hfl (by decide) rfl (Nat.le_of_ble_eq_true rfl) hAd (fun p e s m below meth c ls C G X hP hsz hl hS => by
    subst hsz
    exact w_X5_append_e C G X  hP hS hl  h)
/-! X5 undo -/
abbrev rmX5_undo : Room := { frames := 6, cells := 1, slots := 6, locals := 113 }
theorem q_X5_undo_0 : Cond.fieldLink RX5 22 "LineBuffers" "history" "LLineBuffers$History;" ∈ wsX5_undo := List.mem_of_getElem? (i := 3) rfl
theorem q_X5_undo_1 : Cond.fieldLink RX5 10 "LineBuffers" "line" "LLineBuffers$Line;" ∈ wsX5_undo := List.mem_of_getElem? (i := 4) rfl
theorem q_X5_undo_2 : Cond.classLink RX5 55 "java/lang/IllegalStateException" ∈ wsX5_undo := List.mem_of_getElem? (i := 1) rfl
theorem q_X5_undo_3 : Cond.initialized "java/lang/IllegalStateException" ∈ wsX5_undo := List.mem_of_getElem? (i := 2) rfl
theorem n_X5_undo_X5 : ∀ x ∈ u_ws RX5 TX5 4, x ∈ wsX5_undo := fun x h => List.mem_cons_of_mem _ (List.mem_append_left _ (List.mem_append_left _ (List.mem_append_left _ (List.mem_append_left _ (List.mem_append_right _ h)))))
theorem n_X5_undo_X1 : ∀ x ∈ u_ws RX1 TX1 3, x ∈ wsX5_undo := fun x h => List.mem_cons_of_mem _ (List.mem_append_left _ (List.mem_append_left _ (List.mem_append_left _ (List.mem_append_right _ h))))
set_option maxRecDepth 100000 in
set_option maxHeartbeats 4000000 in
theorem w_X5_undo_e {res : Sum (Int32 × (Nat → SL) × SL) Nat} (C : Cx p s m args meth c cX5_undo 1 (some .int) RX5 wsX5_undo) (G : Gx D cs ad s) (X : Tx l c ad s) {T : SL} {Ls : Nat → SL} {Hs : SL} {H : Heap} {locs : List Loc} {ls : Array Slot} (hP : va_P D vwCl (wA cs ad Ls Hs T) H) (hS : va_S (Afr ad s.heap.size) s.heap H locs) (hl : lv_has ls 1 [(0, .ref (ad 0))]) (h : f_X5_undo Ls Hs = some res) : W p l e rmX5_undo s m args below meth c H locs 0 0 (vx_MQ below (va_Qi (fun r' (u : Int32 × (Nat → SL) × SL) => res = Sum.inl u ∧ r' = u.1) (fun (u : Int32 × (Nat → SL) × SL) t => va_P D vwCl (wA cs ad u.2.1 u.2.2 T) t.heap) (Afr ad s.heap.size)) (vx_X (fun k : Nat => res = Sum.inr k) (fun E k t => E = exN k ∧ va_P D vwCl (wA cs ad Ls Hs T) t.heap) (Afr ad s.heap.size)) args s 1 6 (Afr ad s.heap.size)) (F0 m 0 ls []) := by
  unfold f_X5_undo at h
  refine lv_aload_n C.1 C.2.1 dX5_undo_0 rfl (lv_at hl 0 rfl) ?_
  refine k_getf C G hP g_obj rfl 2 (by decide) n_X5_undo_X5 q_X5_undo_0 (v := .ref (ad 1)) rfl dX5_undo_1 ?_
  obtain ⟨v1, ev1, h⟩ := lt_out h
  refine k_getiN C G hP g_his rfl 2 (by decide) n_X5_undo_X1 (List.mem_of_getElem? (i := 5) rfl) rfl ev1 dX5_undo_4 ?_
  refine lv_if_ne (tgt := 20) C.1 C.2.1 dX5_undo_7 (by decide) (fun c2 => ?_) (fun c2 => ?_)
  · have h := if_t c2 h
    refine lv_aload_n C.1 C.2.1 dX5_undo_20 rfl (lv_at hl 0 rfl) ?_
    refine k_getf C G hP g_obj rfl 2 (by decide) n_X5_undo_X5 q_X5_undo_0 (v := .ref (ad 1)) rfl dX5_undo_21 ?_
    refine lv_aload_n C.1 C.2.1 dX5_undo_24 rfl (lv_at hl 0 rfl) ?_
    refine k_getf C G hP g_obj rfl 0 (by decide) n_X5_undo_X5 q_X5_undo_1 (v := .ref (ad (5 + 14 * 0 + 0))) rfl dX5_undo_25 ?_
    obtain ⟨Ls3, Hs4, c5, h⟩ := bd2_out h
    refine k_callVv C G hP hS (m_X1_giveBack l G.2.1 _ (i := 0) (by decide) c5) g_his rfl (cwV 1 C.2.2.2.2.2.1 gX5_undo_X1_giveBack rfl rfl rfl (by decide +kernel) ⟨Nat.le_of_ble_eq_true rfl, Nat.le_of_ble_eq_true rfl⟩) (As := [.ref (ad (5 + 14 * 0 + 0))]) rfl hl.1 rfl (Nat.le_of_ble_eq_true rfl) dX5_undo_28 ⟨Nat.le_of_ble_eq_true rfl, Nat.le_of_ble_eq_true rfl⟩ (fun H locs hP hS => ?_)
    refine lv_aload_n C.1 C.2.1 dX5_undo_31 rfl (lv_at hl 0 rfl) ?_
    refine k_getf C G hP g_obj rfl 2 (by decide) n_X5_undo_X5 q_X5_undo_0 (v := .ref (ad 1)) rfl dX5_undo_32 ?_
    obtain ⟨v6, ev6, h⟩ := lt_out h
    refine k_getiN C G hP g_his rfl 2 (by decide) n_X5_undo_X1 (List.mem_of_getElem? (i := 5) rfl) rfl ev6 dX5_undo_35 ?_
    cases h
    refine W.widen (k := 1) (n := 6) (by omega) (by omega) ?_
    exact k_iretX C hP hS rfl rfl rfl dX5_undo_38
  · have h := if_n c2 h
    cases h
    exact k_throw (k := 2) (text := "there is no saved state") C X hP hS rfl (by decide) q_X5_undo_2 q_X5_undo_3 (List.mem_of_getElem? (i := 15) rfl) (fun w h => List.mem_cons_of_mem _ (List.mem_append_right _ h)) tw_59 tg_59 hl.1 dX5_undo_10 dX5_undo_13 dX5_undo_14 dX5_undo_16 dX5_undo_19 (Nat.le_of_ble_eq_true rfl) (Nat.le_of_ble_eq_true rfl) (Nat.le_of_ble_eq_true rfl) (Nat.le_of_ble_eq_true rfl) (by omega) (by omega)
set_option maxRecDepth 100000 in
set_option maxHeartbeats 4000000 in
theorem m_X5_undo (l : Launch) (hfl : l.stackTraces = false) {D : va_G} {cs : Nat → ClassId} {ad : Nat → Nat} (hAd : adOK ad) (sz : Nat) {Ls : Nat → SL} {Hs : SL} {T : SL} {res : Sum (Int32 × (Nat → SL) × SL) Nat} (h : f_X5_undo Ls Hs = some res) : vx_Met l yX5_undo wsX5_undo rmX5_undo (PX D cs ad sz (wA cs ad Ls Hs T) [.ref (ad 0)]) (va_Qi (fun r' (u : Int32 × (Nat → SL) × SL) => res = Sum.inl u ∧ r' = u.1) (fun (u : Int32 × (Nat → SL) × SL) t => va_P D vwCl (wA cs ad u.2.1 u.2.2 T) t.heap) (Afr ad sz)) (vx_X (fun k : Nat => res = Sum.inr k) (fun E k t => E = exN k ∧ va_P D vwCl (wA cs ad Ls Hs T) t.heap) (Afr ad sz)) 1 6 (Afr ad sz) :=
  k_metX hfl (by decide) rfl (Nat.le_of_ble_eq_true rfl) hAd (fun p e s m below meth c ls C G X hP hsz hl hS => by
    subst hsz
    exact w_X5_undo_e C G X  hP hS hl  h)
end GEN
