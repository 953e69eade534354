section GEN
variable {p : Program} {l : Launch} {e : Env} {s : State} {m : MethodId} {args : Array Value} {below : List Frame} {meth : Method} {c : Code} {D : va_G} {cs : Nat → ClassId} {ad : Nat → Nat}
/-! X4 copy -/
abbrev rmX4_copy : Room := { frames := 1, cells := 0, slots := 0, locals := 48 }
theorem q_X4_copy_0 : Cond.fieldLink RX4 21 "LineBuffers$Stops" "planned" "I" ∈ wsX4_copy := List.mem_of_getElem? (i := 1) rfl
theorem q_X4_copy_1 : Cond.fieldLink RX4 9 "LineBuffers$Stops" "machineOf" "[I" ∈ wsX4_copy := List.mem_of_getElem? (i := 2) rfl
theorem q_X4_copy_2 : Cond.methodLink RX4 25 arraycopyName ∈ wsX4_copy := List.mem_of_getElem? (i := 3) rfl
theorem q_X4_copy_3 : Cond.native arraycopyName ∈ wsX4_copy := List.mem_of_getElem? (i := 4) rfl
theorem q_X4_copy_4 : Cond.static arraycopyName ∈ wsX4_copy := List.mem_of_getElem? (i := 5) rfl
theorem q_X4_copy_5 : Cond.initialized "java/lang/System" ∈ wsX4_copy := List.mem_of_getElem? (i := 6) rfl
theorem q_X4_copy_6 : Cond.fieldLink RX4 15 "LineBuffers$Stops" "firstOf" "[I" ∈ wsX4_copy := List.mem_of_getElem? (i := 7) rfl
theorem q_X4_copy_7 : Cond.fieldLink RX4 18 "LineBuffers$Stops" "durationOf" "[I" ∈ wsX4_copy := List.mem_of_getElem? (i := 8) rfl
theorem n_X4_copy_X4 : ∀ x ∈ u_ws RX4 TX4 5, x ∈ wsX4_copy := fun x h => List.mem_cons_of_mem _ (List.mem_append_right _ h)
set_option maxRecDepth 100000 in
set_option maxHeartbeats 4000000 in
theorem w_X4_copy_e {res : (Nat → SL)} (C : Cx p s m args meth c cX4_copy 3 none RX4 wsX4_copy) (G : Gx D cs ad s) {i : Nat} (hi : i < 6) {j : Nat} (hj : j < 6) {Hs : SL} {T : SL} {Ls : Nat → SL} {H : Heap} {locs : List Loc} {ls : Array Slot} (hP : va_P D vwCl (wA cs ad Ls Hs T) H) (hS : va_S (Afr ad s.heap.size) s.heap H locs) (hl : lv_has ls 3 [(0, .ref (ad (5 + 14 * i + 10))), (1, .ref (ad (5 + 14 * j + 10)))]) (h : f_X4_copy i j Ls = some res) : W p l e rmX4_copy s m args below meth c H locs 0 0 (MQ below (va_Qv (fun (_ : Unit) => True) (fun _ t => va_P D vwCl (wA cs ad res Hs T) t.heap) (Afr ad s.heap.size)) args s 0 0 (Afr ad s.heap.size)) (F0 m 0 ls []) := by
  unfold f_X4_copy at h
  refine lv_aload_n C.1 C.2.1 dX4_copy_0 rfl (lv_at hl 0 rfl) ?_
  obtain ⟨v1, ev1, h⟩ := lt_out h
  refine k_geti C G hP (c_sto (i := i) hi) rfl 3 (by decide) n_X4_copy_X4 q_X4_copy_0 rfl ev1 dX4_copy_1 ?_
  refine lv_istore_n (lv' := [(2, .int v1), (0, .ref (ad (5 + 14 * i + 10))), (1, .ref (ad (5 + 14 * j + 10)))]) C.1 C.2.1 dX4_copy_4 rfl hl (by decide) rfl (fun ls hl => ?_)
  refine lv_aload_n C.1 C.2.1 dX4_copy_5 rfl (lv_at hl 1 rfl) ?_
  refine k_getf C G hP (c_sto (i := i) hi) rfl 0 (by decide) n_X4_copy_X4 q_X4_copy_1 (v := .ref (ad (5 + 14 * i + 11))) rfl dX4_copy_6 ?_
  refine lv_iconst (v := 0) C.1 C.2.1 dX4_copy_9 (by decide) ?_
  refine lv_aload_n C.1 C.2.1 dX4_copy_10 rfl (lv_at hl 2 rfl) ?_
  refine k_getf C G hP (c_sto (i := j) hj) rfl 0 (by decide) n_X4_copy_X4 q_X4_copy_1 (v := .ref (ad (5 + 14 * j + 11))) rfl dX4_copy_11 ?_
  refine lv_iconst (v := 0) C.1 C.2.1 dX4_copy_14 (by decide) ?_
  refine lv_iload_n C.1 C.2.1 dX4_copy_15 rfl (lv_at hl 0 rfl) ?_
  obtain ⟨g2, h⟩ := gd_out h
  have g2 := cpo_out g2
  obtain ⟨Ls3, eLs3, h⟩ := lt_out h
  refine k_copy C G hP hS hl.1 q_X4_copy_2 q_X4_copy_3 q_X4_copy_4 q_X4_copy_5 (c_sar (i := i) hi (k := 11) (by decide)) (c_sar (i := j) hj (k := 11) (by decide)) g2.1 g2.2.1 g2.2.2 (j := v1.toNatClampNeg) rfl (Nat.le_of_ble_eq_true rfl) (Nat.le_of_ble_eq_true rfl) (c_sarF hj (by decide)) dX4_copy_16 (fun H locs hP hS => ?_)
  rw [← eLs3] at hP
  refine lv_aload_n C.1 C.2.1 dX4_copy_19 rfl (lv_at hl 1 rfl) ?_
  refine k_getf C G hP (c_sto (i := i) hi) rfl 1 (by decide) n_X4_copy_X4 q_X4_copy_6 (v := .ref (ad (5 + 14 * i + 12))) rfl dX4_copy_20 ?_
  refine lv_iconst (v := 0) C.1 C.2.1 dX4_copy_23 (by decide) ?_
  refine lv_aload_n C.1 C.2.1 dX4_copy_24 rfl (lv_at hl 2 rfl) ?_
  refine k_getf C G hP (c_sto (i := j) hj) rfl 1 (by decide) n_X4_copy_X4 q_X4_copy_6 (v := .ref (ad (5 + 14 * j + 12))) rfl dX4_copy_25 ?_
  refine lv_iconst (v := 0) C.1 C.2.1 dX4_copy_28 (by decide) ?_
  refine lv_iload_n C.1 C.2.1 dX4_copy_29 rfl (lv_at hl 0 rfl) ?_
  obtain ⟨g4, h⟩ := gd_out h
  have g4 := cpo_out g4
  obtain ⟨Ls5, eLs5, h⟩ := lt_out h
  refine k_copy C G hP hS hl.1 q_X4_copy_2 q_X4_copy_3 q_X4_copy_4 q_X4_copy_5 (c_sar (i := i) hi (k := 12) (by decide)) (c_sar (i := j) hj (k := 12) (by decide)) g4.1 g4.2.1 g4.2.2 (j := v1.toNatClampNeg) rfl (Nat.le_of_ble_eq_true rfl) (Nat.le_of_ble_eq_true rfl) (c_sarF hj (by decide)) dX4_copy_30 (fun H locs hP hS => ?_)
  rw [← eLs5] at hP
  refine lv_aload_n C.1 C.2.1 dX4_copy_33 rfl (lv_at hl 1 rfl) ?_
  refine k_getf C G hP (c_sto (i := i) hi) rfl 2 (by decide) n_X4_copy_X4 q_X4_copy_7 (v := .ref (ad (5 + 14 * i + 13))) rfl dX4_copy_34 ?_
  refine lv_iconst (v := 0) C.1 C.2.1 dX4_copy_37 (by decide) ?_
  refine lv_aload_n C.1 C.2.1 dX4_copy_38 rfl (lv_at hl 2 rfl) ?_
  refine k_getf C G hP (c_sto (i := j) hj) rfl 2 (by decide) n_X4_copy_X4 q_X4_copy_7 (v := .ref (ad (5 + 14 * j + 13))) rfl dX4_copy_39 ?_
  refine lv_iconst (v := 0) C.1 C.2.1 dX4_copy_42 (by decide) ?_
  refine lv_iload_n C.1 C.2.1 dX4_copy_43 rfl (lv_at hl 0 rfl) ?_
  obtain ⟨g6, h⟩ := gd_out h
  have g6 := cpo_out g6
  obtain ⟨Ls7, eLs7, h⟩ := lt_out h
  refine k_copy C G hP hS hl.1 q_X4_copy_2 q_X4_copy_3 q_X4_copy_4 q_X4_copy_5 (c_sar (i := i) hi (k := 13) (by decide)) (c_sar (i := j) hj (k := 13) (by decide)) g6.1 g6.2.1 g6.2.2 (j := v1.toNatClampNeg) rfl (Nat.le_of_ble_eq_true rfl) (Nat.le_of_ble_eq_true rfl) (c_sarF hj (by decide)) dX4_copy_44 (fun H locs hP hS => ?_)
  rw [← eLs7] at hP
  refine lv_aload_n C.1 C.2.1 dX4_copy_47 rfl (lv_at hl 2 rfl) ?_
  refine lv_iload_n C.1 C.2.1 dX4_copy_48 rfl (lv_at hl 0 rfl) ?_
  obtain ⟨Ls8, eLs8, h⟩ := lt_out h
  refine k_puti C G hP hS (c_sto (i := j) hj) rfl 3 (by decide) n_X4_copy_X4 q_X4_copy_0 tyX4_ok nmX4 rfl (tyX4_ok 3 (by decide)) (Nat.le_of_ble_eq_true rfl) (c_stoS3 (i := j) hj) dX4_copy_49 (fun H locs hP hS => ?_)
  rw [← eLs8] at hP
  cases h
  exact k_vret C hP hS dX4_copy_52
set_option maxRecDepth 100000 in
set_option maxHeartbeats 4000000 in
theorem m_X4_copy (l : Launch) {D : va_G} {cs : Nat → ClassId} {ad : Nat → Nat} (hAd : adOK ad) (sz : Nat) {i : Nat} (hi : i < 6) {j : Nat} (hj : j < 6) {Ls : Nat → SL} {Hs : SL} {T : SL} {res : (Nat → SL)} (h : f_X4_copy i j Ls = some res) : Met l yX4_copy wsX4_copy rmX4_copy (PA D cs sz (wA cs ad Ls Hs T) [.ref (ad (5 + 14 * i + 10)), .ref (ad (5 + 14 * j + 10))]) (va_Qv (fun (_ : Unit) => True) (fun _ t => va_P D vwCl (wA cs ad res Hs T) t.heap) (Afr ad sz)) 0 0 (Afr ad sz) :=
  k_met (by decide) rfl (Nat.le_of_ble_eq_true rfl) hAd (fun p e s m below meth c ls C G hP hsz hl hS => by
    subst hsz
    exact w_X4_copy_e C G hi hj hP hS hl  h)
/-! X4 plan -/
abbrev rmX4_plan : Room := { frames := 0, cells := 0, slots := 0, locals := 0 }
theorem q_X4_plan_0 : Cond.fieldLink RX4 21 "LineBuffers$Stops" "planned" "I" ∈ wsX4_plan := List.mem_of_getElem? (i := 1) rfl
theorem q_X4_plan_1 : Cond.fieldLink RX4 9 "LineBuffers$Stops" "machineOf" "[I" ∈ wsX4_plan := List.mem_of_getElem? (i := 2) rfl
theorem q_X4_plan_2 : Cond.fieldLink RX4 15 "LineBuffers$Stops" "firstOf" "[I" ∈ wsX4_plan := List.mem_of_getElem? (i := 3) rfl
theorem q_X4_plan_3 : Cond.fieldLink RX4 18 "LineBuffers$Stops" "durationOf" "[I" ∈ wsX4_plan := List.mem_of_getElem? (i := 4) rfl
theorem n_X4_plan_X4 : ∀ x ∈ u_ws RX4 TX4 5, x ∈ wsX4_plan := fun x h => List.mem_cons_of_mem _ (List.mem_append_right _ h)
set_option maxRecDepth 100000 in
set_option maxHeartbeats 4000000 in
theorem w_X4_plan_e {res : SL} (C : Cx p s m args meth c cX4_plan 4 none RX4 wsX4_plan) (G : Gx D cs ad s) {i : Nat} (hi : i < 6) {Ls : Nat → SL} {Hs : SL} {T : SL} {L : SL} {x1 : Int32} {x2 : Int32} {x3 : Int32} {H : Heap} {locs : List Loc} {ls : Array Slot} (hP : va_P D vwCl (wA cs ad (va_up Ls i L) Hs T) H) (hS : va_S (Afr ad s.heap.size) s.heap H locs) (hl : lv_has ls 4 [(0, .ref (ad (5 + 14 * i + 10))), (1, .int x1), (2, .int x2), (3, .int x3)]) (h : f_X4_plan L x1 x2 x3 = some res) : W p l e rmX4_plan s m args below meth c H locs 0 0 (MQ below (va_Qv (fun (_ : Unit) => True) (fun _ t => va_P D vwCl (wA cs ad (va_up Ls i res) Hs T) t.heap) (Afr ad s.heap.size)) args s 0 0 (Afr ad s.heap.size)) (F0 m 0 ls []) := by
  unfold f_X4_plan at h
  refine lv_aload_n C.1 C.2.1 dX4_plan_0 rfl (lv_at hl 0 rfl) ?_
  obtain ⟨v1, ev1, h⟩ := lt_out h
  refine k_geti C G hP (v_sto (i := i) hi) rfl 3 (by decide) n_X4_plan_X4 q_X4_plan_0 rfl ev1 dX4_plan_1 ?_
  refine lv_bipush (v := 40) C.1 C.2.1 dX4_plan_4 (by decide) ?_
  refine lv_icmp_ge (tgt := 49) C.1 C.2.1 dX4_plan_6 (by decide) (fun c2 => ?_) (fun c2 => ?_)
  · have h := if_t c2 h
    cases h
    exact k_vret C hP hS dX4_plan_49
  · have h := if_f c2 h
    refine lv_aload_n C.1 C.2.1 dX4_plan_9 rfl (lv_at hl 0 rfl) ?_
    refine k_getf C G hP (v_sto (i := i) hi) rfl 0 (by decide) n_X4_plan_X4 q_X4_plan_1 (v := .ref (ad (5 + 14 * i + 11))) rfl dX4_plan_10 ?_
    refine lv_aload_n C.1 C.2.1 dX4_plan_13 rfl (lv_at hl 0 rfl) ?_
    obtain ⟨v3, ev3, h⟩ := lt_out h
    refine k_geti C G hP (v_sto (i := i) hi) rfl 3 (by decide) n_X4_plan_X4 q_X4_plan_0 rfl ev3 dX4_plan_14 ?_
    refine lv_iload_n C.1 C.2.1 dX4_plan_17 rfl (lv_at hl 1 rfl) ?_
    obtain ⟨g4, h⟩ := gd_out h
    have g4 := chk_in g4
    obtain ⟨L5, eL5, h⟩ := lt_out h
    refine k_iast C G hP hS (v_sar (i := i) hi (k := 11) (by decide)) g4 (j := v3.toNatClampNeg) rfl (v_sarS (i := i) hi (k := 11) (by decide)) dX4_plan_18 (fun H locs hP hS => ?_)
    rw [← eL5] at hP
    refine lv_aload_n C.1 C.2.1 dX4_plan_19 rfl (lv_at hl 0 rfl) ?_
    refine k_getf C G hP (v_sto (i := i) hi) rfl 1 (by decide) n_X4_plan_X4 q_X4_plan_2 (v := .ref (ad (5 + 14 * i + 12))) rfl dX4_plan_20 ?_
    refine lv_aload_n C.1 C.2.1 dX4_plan_23 rfl (lv_at hl 0 rfl) ?_
    obtain ⟨v6, ev6, h⟩ := lt_out h
    refine k_geti C G hP (v_sto (i := i) hi) rfl 3 (by decide) n_X4_plan_X4 q_X4_plan_0 rfl ev6 dX4_plan_24 ?_
    refine lv_iload_n C.1 C.2.1 dX4_plan_27 rfl (lv_at hl 2 rfl) ?_
    obtain ⟨g7, h⟩ := gd_out h
    have g7 := chk_in g7
    obtain ⟨L8, eL8, h⟩ := lt_out h
    refine k_iast C G hP hS (v_sar (i := i) hi (k := 12) (by decide)) g7 (j := v6.toNatClampNeg) rfl (v_sarS (i := i) hi (k := 12) (by decide)) dX4_plan_28 (fun H locs hP hS => ?_)
    rw [← eL8] at hP
    refine lv_aload_n C.1 C.2.1 dX4_plan_29 rfl (lv_at hl 0 rfl) ?_
    refine k_getf C G hP (v_sto (i := i) hi) rfl 2 (by decide) n_X4_plan_X4 q_X4_plan_3 (v := .ref (ad (5 + 14 * i + 13))) rfl dX4_plan_30 ?_
    refine lv_aload_n C.1 C.2.1 dX4_plan_33 rfl (lv_at hl 0 rfl) ?_
    obtain ⟨v9, ev9, h⟩ := lt_out h
    refine k_geti C G hP (v_sto (i := i) hi) rfl 3 (by decide) n_X4_plan_X4 q_X4_plan_0 rfl ev9 dX4_plan_34 ?_
    refine lv_iload_n C.1 C.2.1 dX4_plan_37 rfl (lv_at hl 3 rfl) ?_
    obtain ⟨g10, h⟩ := gd_out h
    have g10 := chk_in g10
    obtain ⟨L11, eL11, h⟩ := lt_out h
    refine k_iast C G hP hS (v_sar (i := i) hi (k := 13) (by decide)) g10 (j := v9.toNatClampNeg) rfl (v_sarS (i := i) hi (k := 13) (by decide)) dX4_plan_38 (fun H locs hP hS => ?_)
    rw [← eL11] at hP
    refine lv_aload_n C.1 C.2.1 dX4_plan_39 rfl (lv_at hl 0 rfl) ?_
    refine lv_dup C.1 C.2.1 dX4_plan_40 rfl ?_
    obtain ⟨v12, ev12, h⟩ := lt_out h
    refine k_geti C G hP (v_sto (i := i) hi) rfl 3 (by decide) n_X4_plan_X4 q_X4_plan_0 rfl ev12 dX4_plan_41 ?_
    refine lv_iconst (v := 1) C.1 C.2.1 dX4_plan_44 (by decide) ?_
    obtain ⟨v13, ev13, h⟩ := lt_out h
    refine k_iadd C ev13 dX4_plan_45 ?_
    obtain ⟨L14, eL14, h⟩ := lt_out h
    refine k_puti C G hP hS (v_sto (i := i) hi) rfl 3 (by decide) n_X4_plan_X4 q_X4_plan_0 tyX4_ok nmX4 rfl (tyX4_ok 3 (by decide)) (Nat.le_of_ble_eq_true rfl) (v_stoS3 (i := i) hi) dX4_plan_46 (fun H locs hP hS => ?_)
    rw [← eL14] at hP
    cases h
    exact k_vret C hP hS dX4_plan_49
set_option maxRecDepth 100000 in
set_option maxHeartbeats 4000000 in
theorem m_X4_plan (l : Launch) {D : va_G} {cs : Nat → ClassId} {ad : Nat → Nat} (hAd : adOK ad) (sz : Nat) {i : Nat} (hi : i < 6) {Ls : Nat → SL} {Hs : SL} {T : SL} {L : SL} {x1 : Int32} {x2 : Int32} {x3 : Int32} {res : SL} (h : f_X4_plan L x1 x2 x3 = some res) : Met l yX4_plan wsX4_plan rmX4_plan (PA D cs sz (wA cs ad (va_up Ls i L) Hs T) [.ref (ad (5 + 14 * i + 10)), .int x1, .int x2, .int x3]) (va_Qv (fun (_ : Unit) => True) (fun _ t => va_P D vwCl (wA cs ad (va_up Ls i res) Hs T) t.heap) (Afr ad sz)) 0 0 (Afr ad sz) :=
  k_met (by decide) rfl (Nat.le_of_ble_eq_true rfl) hAd (fun p e s m below meth c ls C G hP hsz hl hS => by
    subst hsz
    exact w_X4_plan_e C G hi hP hS hl  h)
/-! X4 dropAfter -/
abbrev rmX4_dropAfter : Room := { frames := 1, cells := 0, slots := 0, locals := 23 }
theorem q_X4_dropAfter_0 : Cond.fieldLink RX4 21 "LineBuffers$Stops" "planned" "I" ∈ wsX4_dropAfter := List.mem_of_getElem? (i := 1) rfl
theorem q_X4_dropAfter_1 : Cond.fieldLink RX4 15 "LineBuffers$Stops" "firstOf" "[I" ∈ wsX4_dropAfter := List.mem_of_getElem? (i := 2) rfl
theorem q_X4_dropAfter_2 : Cond.fieldLink RX4 9 "LineBuffers$Stops" "machineOf" "[I" ∈ wsX4_dropAfter := List.mem_of_getElem? (i := 3) rfl
theorem q_X4_dropAfter_3 : Cond.fieldLink RX4 18 "LineBuffers$Stops" "durationOf" "[I" ∈ wsX4_dropAfter := List.mem_of_getElem? (i := 4) rfl
theorem n_X4_dropAfter_X4 : ∀ x ∈ u_ws RX4 TX4 5, x ∈ wsX4_dropAfter := fun x h => List.mem_cons_of_mem _ (List.mem_append_right _ h)
set_option maxRecDepth 100000 in
set_option maxHeartbeats 4000000 in
theorem w_X4_dropAfter_b49 {res : Int32 × SL} (C : Cx p s m args meth c cX4_dropAfter 4 (some .int) RX4 wsX4_dropAfter) (G : Gx D cs ad s) {i : Nat} (hi : i < 6) {Ls : Nat → SL} {Hs : SL} {T : SL} {K12 : SL → Int32 → Int32 → Int32 → Option (Int32 × SL)} (hK12 : ∀ {L : SL} {x1 : Int32} {x2 : Int32} {x3 : Int32} {H : Heap} {locs : List Loc} {ls : Array Slot}, va_P D vwCl (wA cs ad (va_up Ls i L) Hs T) H → va_S (Afr ad s.heap.size) s.heap H locs → lv_has ls 4 [(0, .ref (ad (5 + 14 * i + 10))), (1, .int x1), (2, .int x2), (3, .int x3)] → K12 L x1 x2 x3 = some res → W p l e rmX4_dropAfter s m args below meth c H locs 0 0 (MQ below (va_Qi (fun r' (_ : Unit) => r' = res.1) (fun _ t => va_P D vwCl (wA cs ad (va_up Ls i res.2) Hs T) t.heap) (Afr ad s.heap.size)) args s 0 0 (Afr ad s.heap.size)) (F0 m 12 ls [])) {L : SL} {x1 : Int32} {x2 : Int32} {x3 : Int32} {H : Heap} {locs : List Loc} {ls : Array Slot} (hP : va_P D vwCl (wA cs ad (va_up Ls i L) Hs T) H) (hS : va_S (Afr ad s.heap.size) s.heap H locs) (hl : lv_has ls 4 [(0, .ref (ad (5 + 14 * i + 10))), (1, .int x1), (2, .int x2), (3, .int x3)]) (h : f_X4_dropAfter_b49 K12 L x1 x2 x3 = some res) : W p l e rmX4_dropAfter s m args below meth c H locs 0 0 (MQ below (va_Qi (fun r' (_ : Unit) => r' = res.1) (fun _ t => va_P D vwCl (wA cs ad (va_up Ls i res.2) Hs T) t.heap) (Afr ad s.heap.size)) args s 0 0 (Afr ad s.heap.size)) (F0 m 49 ls []) := by
  unfold f_X4_dropAfter_b49 at h
  obtain ⟨z1, ez1, h⟩ := lt_out h
  refine lv_iinc (v := z1) (lv' := [(3, .int z1), (0, .ref (ad (5 + 14 * i + 10))), (1, .int x1), (2, .int x2)]) C.1 C.2.1 dX4_dropAfter_49 hl (k := 3) rfl (by rw [ez1]; rfl) (by decide) rfl (fun ls hl => ?_)
  refine lv_goto (tgt := 12) C.1 C.2.1 dX4_dropAfter_52 (by decide) ?_
  exact hK12 hP hS (lv_sub hl [1, 2, 3, 0] rfl)  h
set_option maxRecDepth 100000 in
set_option maxHeartbeats 4000000 in
theorem w_X4_dropAfter_b12 {res : Int32 × SL} (C : Cx p s m args meth c cX4_dropAfter 4 (some .int) RX4 wsX4_dropAfter) (G : Gx D cs ad s) {i : Nat} (hi : i < 6) {Ls : Nat → SL} {Hs : SL} {T : SL} {K12 : SL → Int32 → Int32 → Int32 → Option (Int32 × SL)} (hK12 : ∀ {L : SL} {x1 : Int32} {x2 : Int32} {x3 : Int32} {H : Heap} {locs : List Loc} {ls : Array Slot}, va_P D vwCl (wA cs ad (va_up Ls i L) Hs T) H → va_S (Afr ad s.heap.size) s.heap H locs → lv_has ls 4 [(0, .ref (ad (5 + 14 * i + 10))), (1, .int x1), (2, .int x2), (3, .int x3)] → K12 L x1 x2 x3 = some res → W p l e rmX4_dropAfter s m args below meth c H locs 0 0 (MQ below (va_Qi (fun r' (_ : Unit) => r' = res.1) (fun _ t => va_P D vwCl (wA cs ad (va_up Ls i res.2) Hs T) t.heap) (Afr ad s.heap.size)) args s 0 0 (Afr ad s.heap.size)) (F0 m 12 ls [])) {L : SL} {x1 : Int32} {x2 : Int32} {x3 : Int32} {H : Heap} {locs : List Loc} {ls : Array Slot} (hP : va_P D vwCl (wA cs ad (va_up Ls i L) Hs T) H) (hS : va_S (Afr ad s.heap.size) s.heap H locs) (hl : lv_has ls 4 [(0, .ref (ad (5 + 14 * i + 10))), (1, .int x1), (2, .int x2), (3, .int x3)]) (h : f_X4_dropAfter_b12 K12 L x1 x2 x3 = some res) : W p l e rmX4_dropAfter s m args below meth c H locs 0 0 (MQ below (va_Qi (fun r' (_ : Unit) => r' = res.1) (fun _ t => va_P D vwCl (wA cs ad (va_up Ls i res.2) Hs T) t.heap) (Afr ad s.heap.size)) args s 0 0 (Afr ad s.heap.size)) (F0 m 12 ls []) := by
  unfold f_X4_dropAfter_b12 at h
  refine lv_iload_n C.1 C.2.1 dX4_dropAfter_12 rfl (lv_at hl 3 rfl) ?_
  refine lv_iload_n C.1 C.2.1 dX4_dropAfter_13 rfl (lv_at hl 2 rfl) ?_
  refine lv_icmp_ge (tgt := 55) C.1 C.2.1 dX4_dropAfter_14 (by decide) (fun c1 => ?_) (fun c1 => ?_)
  · have h := if_t c1 h
    refine lv_iload_n C.1 C.2.1 dX4_dropAfter_55 rfl (lv_at hl 2 rfl) ?_
    refine lv_aload_n C.1 C.2.1 dX4_dropAfter_56 rfl (lv_at hl 0 rfl) ?_
    obtain ⟨v2, ev2, h⟩ := lt_out h
    refine k_geti C G hP (v_sto (i := i) hi) rfl 3 (by decide) n_X4_dropAfter_X4 q_X4_dropAfter_0 rfl ev2 dX4_dropAfter_57 ?_
    obtain ⟨v3, ev3, h⟩ := lt_out h
    refine k_isub C ev3 dX4_dropAfter_60 ?_
    cases h
    exact k_iret C hP hS dX4_dropAfter_61
  · have h := if_f c1 h
    refine lv_aload_n C.1 C.2.1 dX4_dropAfter_17 rfl (lv_at hl 0 rfl) ?_
    refine k_getf C G hP (v_sto (i := i) hi) rfl 1 (by decide) n_X4_dropAfter_X4 q_X4_dropAfter_1 (v := .ref (ad (5 + 14 * i + 12))) rfl dX4_dropAfter_18 ?_
    refine lv_iload_n C.1 C.2.1 dX4_dropAfter_21 rfl (lv_at hl 3 rfl) ?_
    obtain ⟨g4, h⟩ := gd_out h
    have g4 := chk_in g4
    obtain ⟨v5, ev5, h⟩ := lt_out h
    refine k_iald C G hP (v_sar (i := i) hi (k := 12) (by decide)) g4 (j := x3.toNatClampNeg) rfl ev5 dX4_dropAfter_22 ?_
    refine lv_iload_n C.1 C.2.1 dX4_dropAfter_23 rfl (lv_at hl 1 rfl) ?_
    refine lv_icmp_gt (tgt := 49) C.1 C.2.1 dX4_dropAfter_24 (by decide) (fun c6 => ?_) (fun c6 => ?_)
    · have h := if_t c6 h
      exact w_X4_dropAfter_b49 C G hi hK12 hP hS (lv_sub hl [0, 1, 2, 3] rfl) h
    · have h := if_f c6 h
      refine lv_aload_n C.1 C.2.1 dX4_dropAfter_27 rfl (lv_at hl 0 rfl) ?_
      refine lv_aload_n C.1 C.2.1 dX4_dropAfter_28 rfl (lv_at hl 0 rfl) ?_
      refine k_getf C G hP (v_sto (i := i) hi) rfl 0 (by decide) n_X4_dropAfter_X4 q_X4_dropAfter_2 (v := .ref (ad (5 + 14 * i + 11))) rfl dX4_dropAfter_29 ?_
      refine lv_iload_n C.1 C.2.1 dX4_dropAfter_32 rfl (lv_at hl 3 rfl) ?_
      obtain ⟨v7, ev7, h⟩ := lt_out h
      refine k_iald C G hP (v_sar (i := i) hi (k := 11) (by decide)) g4 (j := x3.toNatClampNeg) rfl ev7 dX4_dropAfter_33 ?_
      refine lv_aload_n C.1 C.2.1 dX4_dropAfter_34 rfl (lv_at hl 0 rfl) ?_
      refine k_getf C G hP (v_sto (i := i) hi) rfl 1 (by decide) n_X4_dropAfter_X4 q_X4_dropAfter_1 (v := .ref (ad (5 + 14 * i + 12))) rfl dX4_dropAfter_35 ?_
      refine lv_iload_n C.1 C.2.1 dX4_dropAfter_38 rfl (lv_at hl 3 rfl) ?_
      obtain ⟨v8, ev8, h⟩ := lt_out h
      refine k_iald C G hP (v_sar (i := i) hi (k := 12) (by decide)) g4 (j := x3.toNatClampNeg) rfl ev8 dX4_dropAfter_39 ?_
      refine lv_aload_n C.1 C.2.1 dX4_dropAfter_40 rfl (lv_at hl 0 rfl) ?_
      refine k_getf C G hP (v_sto (i := i) hi) rfl 2 (by decide) n_X4_dropAfter_X4 q_X4_dropAfter_3 (v := .ref (ad (5 + 14 * i + 13))) rfl dX4_dropAfter_41 ?_
      refine lv_iload_n C.1 C.2.1 dX4_dropAfter_44 rfl (lv_at hl 3 rfl) ?_
      obtain ⟨v9, ev9, h⟩ := lt_out h
      refine k_iald C G hP (v_sar (i := i) hi (k := 13) (by decide)) g4 (j := x3.toNatClampNeg) rfl ev9 dX4_dropAfter_45 ?_
      obtain ⟨L10, c11, h⟩ := bd_out h
      refine k_callVv C G hP hS (m_X4_plan l G.2.1 _ (i := i) hi c11) (v_sto (i := i) hi) rfl (cwV 3 C.2.2.2.2.2.1 gX4_dropAfter_X4_plan rfl rfl rfl (by decide +kernel) ⟨Nat.le_of_ble_eq_true rfl, Nat.le_of_ble_eq_true rfl⟩) (As := [.int v7, .int v8, .int v9]) rfl hl.1 rfl (Nat.le_of_ble_eq_true rfl) dX4_dropAfter_46 ⟨Nat.le_of_ble_eq_true rfl, Nat.le_of_ble_eq_true rfl⟩ (fun H locs hP hS => ?_)
      exact w_X4_dropAfter_b49 C G hi hK12 hP hS (lv_sub hl [0, 1, 2, 3] rfl) h
set_option maxRecDepth 100000 in
set_option maxHeartbeats 4000000 in
theorem w_X4_dropAfter_h12 {res : Int32 × SL} (C : Cx p s m args meth c cX4_dropAfter 4 (some .int) RX4 wsX4_dropAfter) (G : Gx D cs ad s) {i : Nat} (hi : i < 6) {Ls : Nat → SL} {Hs : SL} {T : SL} : ∀ (n : Nat) {L : SL} {x1 : Int32} {x2 : Int32} {x3 : Int32} {H : Heap} {locs : List Loc} {ls : Array Slot}, va_P D vwCl (wA cs ad (va_up Ls i L) Hs T) H → va_S (Afr ad s.heap.size) s.heap H locs → lv_has ls 4 [(0, .ref (ad (5 + 14 * i + 10))), (1, .int x1), (2, .int x2), (3, .int x3)] → f_X4_dropAfter_h12 n L x1 x2 x3 = some res → W p l e rmX4_dropAfter s m args below meth c H locs 0 0 (MQ below (va_Qi (fun r' (_ : Unit) => r' = res.1) (fun _ t => va_P D vwCl (wA cs ad (va_up Ls i res.2) Hs T) t.heap) (Afr ad s.heap.size)) args s 0 0 (Afr ad s.heap.size)) (F0 m 12 ls []) := by
  intro n
  induction n with
  | zero => intro L x1 x2 x3 H locs ls hP hS hl  h; cases h
  | succ n ih => intro L x1 x2 x3 H locs ls hP hS hl  h; exact w_X4_dropAfter_b12 C G  hi  ih hP hS hl  h
set_option maxRecDepth 100000 in
set_option maxHeartbeats 4000000 in
theorem w_X4_dropAfter_e {res : Int32 × SL} (C : Cx p s m args meth c cX4_dropAfter 4 (some .int) RX4 wsX4_dropAfter) (G : Gx D cs ad s) {i : Nat} (hi : i < 6) {Ls : Nat → SL} {Hs : SL} {T : SL} {L : SL} {x1 : Int32} {H : Heap} {locs : List Loc} {ls : Array Slot} (hP : va_P D vwCl (wA cs ad (va_up Ls i L) Hs T) H) (hS : va_S (Afr ad s.heap.size) s.heap H locs) (hl : lv_has ls 4 [(0, .ref (ad (5 + 14 * i + 10))), (1, .int x1)]) (h : f_X4_dropAfter L x1 = some res) : W p l e rmX4_dropAfter s m args below meth c H locs 0 0 (MQ below (va_Qi (fun r' (_ : Unit) => r' = res.1) (fun _ t => va_P D vwCl (wA cs ad (va_up Ls i res.2) Hs T) t.heap) (Afr ad s.heap.size)) args s 0 0 (Afr ad s.heap.size)) (F0 m 0 ls []) := by
  unfold f_X4_dropAfter at h
  refine lv_aload_n C.1 C.2.1 dX4_dropAfter_0 rfl (lv_at hl 0 rfl) ?_
  obtain ⟨v1, ev1, h⟩ := lt_out h
  refine k_geti C G hP (v_sto (i := i) hi) rfl 3 (by decide) n_X4_dropAfter_X4 q_X4_dropAfter_0 rfl ev1 dX4_dropAfter_1 ?_
  refine lv_istore_n (lv' := [(2, .int v1), (0, .ref (ad (5 + 14 * i + 10))), (1, .int x1)]) C.1 C.2.1 dX4_dropAfter_4 rfl hl (by decide) rfl (fun ls hl => ?_)
  refine lv_aload_n C.1 C.2.1 dX4_dropAfter_5 rfl (lv_at hl 1 rfl) ?_
  refine lv_iconst (v := 0) C.1 C.2.1 dX4_dropAfter_6 (by decide) ?_
  obtain ⟨L2, eL2, h⟩ := lt_out h
  refine k_puti C G hP hS (v_sto (i := i) hi) rfl 3 (by decide) n_X4_dropAfter_X4 q_X4_dropAfter_0 tyX4_ok nmX4 rfl (tyX4_ok 3 (by decide)) (Nat.le_of_ble_eq_true rfl) (v_stoS3 (i := i) hi) dX4_dropAfter_7 (fun H locs hP hS => ?_)
  rw [← eL2] at hP
  refine lv_iconst (v := 0) C.1 C.2.1 dX4_dropAfter_10 (by decide) ?_
  refine lv_istore_n (lv' := [(3, .int 0), (2, .int v1), (0, .ref (ad (5 + 14 * i + 10))), (1, .int x1)]) C.1 C.2.1 dX4_dropAfter_11 rfl hl (by decide) rfl (fun ls hl => ?_)
  exact w_X4_dropAfter_h12 C G hi fuel hP hS (lv_sub hl [2, 3, 1, 0] rfl) h
set_option maxRecDepth 100000 in
set_option maxHeartbeats 4000000 in
theorem m_X4_dropAfter (l : Launch) {D : va_G} {cs : Nat → ClassId} {ad : Nat → Nat} (hAd : adOK ad) (sz : Nat) {i : Nat} (hi : i < 6) {Ls : Nat → SL} {Hs : SL} {T : SL} {L : SL} {x1 : Int32} {res : Int32 × SL} (h : f_X4_dropAfter L x1 = some res) : Met l yX4_dropAfter wsX4_dropAfter rmX4_dropAfter (PA D cs sz (wA cs ad (va_up Ls i L) Hs T) [.ref (ad (5 + 14 * i + 10)), .int x1]) (va_Qi (fun r' (_ : Unit) => r' = res.1) (fun _ t => va_P D vwCl (wA cs ad (va_up Ls i res.2) Hs T) t.heap) (Afr ad sz)) 0 0 (Afr ad sz) :=
  k_met (by decide) rfl (Nat.le_of_ble_eq_true rfl) hAd (fun p e s m below meth c ls C G hP hsz hl hS => by
    subst hsz
    exact w_X4_dropAfter_e C G hi hP hS hl  h)
/-! X4 value -/
abbrev rmX4_value : Room := { frames := 0, cells := 0, slots := 0, locals := 0 }
theorem q_X4_value_0 : Cond.fieldLink RX4 18 "LineBuffers$Stops" "durationOf" "[I" ∈ wsX4_value := List.mem_of_getElem? (i := 3) rfl
theorem q_X4_value_1 : Cond.fieldLink RX4 15 "LineBuffers$Stops" "firstOf" "[I" ∈ wsX4_value := List.mem_of_getElem? (i := 2) rfl
theorem q_X4_value_2 : Cond.fieldLink RX4 9 "LineBuffers$Stops" "machineOf" "[I" ∈ wsX4_value := List.mem_of_getElem? (i := 1) rfl
theorem n_X4_value_X4 : ∀ x ∈ u_ws RX4 TX4 5, x ∈ wsX4_value := fun x h => List.mem_cons_of_mem _ (List.mem_append_right _ h)
set_option maxRecDepth 100000 in
set_option maxHeartbeats 4000000 in
theorem w_X4_value_e {res : Int32} (C : Cx p s m args meth c cX4_value 3 (some .int) RX4 wsX4_value) (G : Gx D cs ad s) {i : Nat} (hi : i < 6) {Ls : Nat → SL} {Hs : SL} {T : SL} {L : SL} {x1 : Int32} {x2 : Int32} {H : Heap} {locs : List Loc} {ls : Array Slot} (hP : va_P D vwCl (wA cs ad (va_up Ls i L) Hs T) H) (hS : va_S (Afr ad s.heap.size) s.heap H locs) (hl : lv_has ls 3 [(0, .ref (ad (5 + 14 * i + 10))), (1, .int x1), (2, .int x2)]) (h : f_X4_value L x1 x2 = some res) : W p l e rmX4_value s m args below meth c H locs 0 0 (MQ below (va_Qi (fun r' (_ : Unit) => r' = res) (fun _ t => va_P D vwCl (wA cs ad (va_up Ls i L) Hs T) t.heap) (Afr ad s.heap.size)) args s 0 0 (Afr ad s.heap.size)) (F0 m 0 ls []) := by
  unfold f_X4_value at h
  refine lv_iload_n C.1 C.2.1 dX4_value_0 rfl (lv_at hl 2 rfl) ?_
  refine lv_if_ne (tgt := 11) C.1 C.2.1 dX4_value_1 (by decide) (fun c1 => ?_) (fun c1 => ?_)
  · have h := if_t c1 h
    refine lv_iload_n C.1 C.2.1 dX4_value_11 rfl (lv_at hl 2 rfl) ?_
    refine lv_iconst (v := 1) C.1 C.2.1 dX4_value_12 (by decide) ?_
    refine lv_icmp_ne (tgt := 25) C.1 C.2.1 dX4_value_13 (by decide) (fun c2 => ?_) (fun c2 => ?_)
    · have h := if_t c2 h
      refine lv_aload_n C.1 C.2.1 dX4_value_25 rfl (lv_at hl 0 rfl) ?_
      refine k_getf C G hP (v_sto (i := i) hi) rfl 2 (by decide) n_X4_value_X4 q_X4_value_0 (v := .ref (ad (5 + 14 * i + 13))) rfl dX4_value_26 ?_
      refine lv_iload_n C.1 C.2.1 dX4_value_29 rfl (lv_at hl 1 rfl) ?_
      obtain ⟨g3, h⟩ := gd_out h
      have g3 := chk_in g3
      obtain ⟨v4, ev4, h⟩ := lt_out h
      refine k_iald C G hP (v_sar (i := i) hi (k := 13) (by decide)) g3 (j := x1.toNatClampNeg) rfl ev4 dX4_value_30 ?_
      cases h
      exact k_iret C hP hS dX4_value_31
    · have h := if_n c2 h
      refine lv_aload_n C.1 C.2.1 dX4_value_16 rfl (lv_at hl 0 rfl) ?_
      refine k_getf C G hP (v_sto (i := i) hi) rfl 1 (by decide) n_X4_value_X4 q_X4_value_1 (v := .ref (ad (5 + 14 * i + 12))) rfl dX4_value_17 ?_
      refine lv_iload_n C.1 C.2.1 dX4_value_20 rfl (lv_at hl 1 rfl) ?_
      obtain ⟨g5, h⟩ := gd_out h
      have g5 := chk_in g5
      obtain ⟨v6, ev6, h⟩ := lt_out h
      refine k_iald C G hP (v_sar (i := i) hi (k := 12) (by decide)) g5 (j := x1.toNatClampNeg) rfl ev6 dX4_value_21 ?_
      refine lv_goto (tgt := 31) C.1 C.2.1 dX4_value_22 (by decide) ?_
      cases h
      exact k_iret C hP hS dX4_value_31
  · have h := if_n c1 h
    refine lv_aload_n C.1 C.2.1 dX4_value_4 rfl (lv_at hl 0 rfl) ?_
    refine k_getf C G hP (v_sto (i := i) hi) rfl 0 (by decide) n_X4_value_X4 q_X4_value_2 (v := .ref (ad (5 + 14 * i + 11))) rfl dX4_value_5 ?_
    refine lv_iload_n C.1 C.2.1 dX4_value_8 rfl (lv_at hl 1 rfl) ?_
    obtain ⟨g7, h⟩ := gd_out h
    have g7 := chk_in g7
    obtain ⟨v8, ev8, h⟩ := lt_out h
    refine k_iald C G hP (v_sar (i := i) hi (k := 11) (by decide)) g7 (j := x1.toNatClampNeg) rfl ev8 dX4_value_9 ?_
    cases h
    exact k_iret C hP hS dX4_value_10
set_option maxRecDepth 100000 in
set_option maxHeartbeats 4000000 in
theorem m_X4_value (l : Launch) {D : va_G} {cs : Nat → ClassId} {ad : Nat → Nat} (hAd : adOK ad) (sz : Nat) {i : Nat} (hi : i < 6) {Ls : Nat → SL} {Hs : SL} {T : SL} {L : SL} {x1 : Int32} {x2 : Int32} {res : Int32} (h : f_X4_value L x1 x2 = some res) : Met l yX4_value wsX4_value rmX4_value (PA D cs sz (wA cs ad (va_up Ls i L) Hs T) [.ref (ad (5 + 14 * i + 10)), .int x1, .int x2]) (va_Qi (fun r' (_ : Unit) => r' = res) (fun _ t => va_P D vwCl (wA cs ad (va_up Ls i L) Hs T) t.heap) (Afr ad sz)) 0 0 (Afr ad sz) :=
  k_met (by decide) rfl (Nat.le_of_ble_eq_true rfl) hAd (fun p e s m below meth c ls C G hP hsz hl hS => by
    subst hsz
    exact w_X4_value_e C G hi hP hS hl  h)
/-! X4 lookAt -/
abbrev rmX4_lookAt : Room := { frames := 1, cells := 0, slots := 0, locals := 24 }
theorem q_X4_lookAt_0 : Cond.constant RX4 35 (1000000) ∈ wsX4_lookAt := List.mem_of_getElem? (i := 1) rfl
theorem q_X4_lookAt_1 : Cond.fieldLink RX4 36 "LineBuffers$Stops" "downBits" "I" ∈ wsX4_lookAt := List.mem_of_getElem? (i := 2) rfl
theorem q_X4_lookAt_2 : Cond.fieldLink RX4 21 "LineBuffers$Stops" "planned" "I" ∈ wsX4_lookAt := List.mem_of_getElem? (i := 3) rfl
theorem q_X4_lookAt_3 : Cond.fieldLink RX4 15 "LineBuffers$Stops" "firstOf" "[I" ∈ wsX4_lookAt := List.mem_of_getElem? (i := 4) rfl
theorem q_X4_lookAt_4 : Cond.fieldLink RX4 18 "LineBuffers$Stops" "durationOf" "[I" ∈ wsX4_lookAt := List.mem_of_getElem? (i := 5) rfl
theorem q_X4_lookAt_5 : Cond.fieldLink RX4 9 "LineBuffers$Stops" "machineOf" "[I" ∈ wsX4_lookAt := List.mem_of_getElem? (i := 10) rfl
theorem q_X4_lookAt_6 : Cond.methodLink RX4 39 Lib.Math.min.name ∈ wsX4_lookAt := List.mem_of_getElem? (i := 6) rfl
theorem q_X4_lookAt_7 : Cond.static Lib.Math.min.name ∈ wsX4_lookAt := List.mem_of_getElem? (i := 7) rfl
theorem q_X4_lookAt_8 : Cond.initialized "java/lang/Math" ∈ wsX4_lookAt := List.mem_of_getElem? (i := 8) rfl
theorem q_X4_lookAt_9 : Cond.code Lib.Math.min.name Lib.Math.min.code 2 (some .int) ∈ wsX4_lookAt := List.mem_of_getElem? (i := 9) rfl
theorem n_X4_lookAt_X4 : ∀ x ∈ u_ws RX4 TX4 5, x ∈ wsX4_lookAt := fun x h => List.mem_cons_of_mem _ (List.mem_append_right _ h)
set_option maxRecDepth 100000 in
set_option maxHeartbeats 4000000 in
theorem w_X4_lookAt_b83 {res : Int32 × SL} (C : Cx p s m args meth c cX4_lookAt 6 (some .int) RX4 wsX4_lookAt) (G : Gx D cs ad s) {i : Nat} (hi : i < 6) {Ls : Nat → SL} {Hs : SL} {T : SL} {K10 : SL → Int32 → Int32 → Int32 → Option (Int32 × SL)} (hK10 : ∀ {L : SL} {x1 : Int32} {x2 : Int32} {x3 : Int32} {H : Heap} {locs : List Loc} {ls : Array Slot}, va_P D vwCl (wA cs ad (va_up Ls i L) Hs T) H → va_S (Afr ad s.heap.size) s.heap H locs → lv_has ls 6 [(0, .ref (ad (5 + 14 * i + 10))), (1, .int x1), (2, .int x2), (3, .int x3)] → K10 L x1 x2 x3 = some res → W p l e rmX4_lookAt s m args below meth c H locs 0 0 (MQ below (va_Qi (fun r' (_ : Unit) => r' = res.1) (fun _ t => va_P D vwCl (wA cs ad (va_up Ls i res.2) Hs T) t.heap) (Afr ad s.heap.size)) args s 0 0 (Afr ad s.heap.size)) (F0 m 10 ls [])) {L : SL} {x1 : Int32} {x2 : Int32} {x3 : Int32} {H : Heap} {locs : List Loc} {ls : Array Slot} (hP : va_P D vwCl (wA cs ad (va_up Ls i L) Hs T) H) (hS : va_S (Afr ad s.heap.size) s.heap H locs) (hl : lv_has ls 6 [(0, .ref (ad (5 + 14 * i + 10))), (1, .int x1), (2, .int x2), (3, .int x3)]) (h : f_X4_lookAt_b83 K10 L x1 x2 x3 = some res) : W p l e rmX4_lookAt s m args below meth c H locs 0 0 (MQ below (va_Qi (fun r' (_ : Unit) => r' = res.1) (fun _ t => va_P D vwCl (wA cs ad (va_up Ls i res.2) Hs T) t.heap) (Afr ad s.heap.size)) args s 0 0 (Afr ad s.heap.size)) (F0 m 83 ls []) := by
  unfold f_X4_lookAt_b83 at h
  obtain ⟨z1, ez1, h⟩ := lt_out h
  refine lv_iinc (v := z1) (lv' := [(3, .int z1), (0, .ref (ad (5 + 14 * i + 10))), (1, .int x1), (2, .int x2)]) C.1 C.2.1 dX4_lookAt_83 hl (k := 3) rfl (by rw [ez1]; rfl) (by decide) rfl (fun ls hl => ?_)
  refine lv_goto (tgt := 10) C.1 C.2.1 dX4_lookAt_86 (by decide) ?_
  exact hK10 hP hS (lv_sub hl [1, 2, 3, 0] rfl)  h
set_option maxRecDepth 100000 in
set_option maxHeartbeats 4000000 in
theorem w_X4_lookAt_b10 {res : Int32 × SL} (C : Cx p s m args meth c cX4_lookAt 6 (some .int) RX4 wsX4_lookAt) (G : Gx D cs ad s) {i : Nat} (hi : i < 6) {Ls : Nat → SL} {Hs : SL} {T : SL} {K10 : SL → Int32 → Int32 → Int32 → Option (Int32 × SL)} (hK10 : ∀ {L : SL} {x1 : Int32} {x2 : Int32} {x3 : Int32} {H : Heap} {locs : List Loc} {ls : Array Slot}, va_P D vwCl (wA cs ad (va_up Ls i L) Hs T) H → va_S (Afr ad s.heap.size) s.heap H locs → lv_has ls 6 [(0, .ref (ad (5 + 14 * i + 10))), (1, .int x1), (2, .int x2), (3, .int x3)] → K10 L x1 x2 x3 = some res → W p l e rmX4_lookAt s m args below meth c H locs 0 0 (MQ below (va_Qi (fun r' (_ : Unit) => r' = res.1) (fun _ t => va_P D vwCl (wA cs ad (va_up Ls i res.2) Hs T) t.heap) (Afr ad s.heap.size)) args s 0 0 (Afr ad s.heap.size)) (F0 m 10 ls [])) {L : SL} {x1 : Int32} {x2 : Int32} {x3 : Int32} {H : Heap} {locs : List Loc} {ls : Array Slot} (hP : va_P D vwCl (wA cs ad (va_up Ls i L) Hs T) H) (hS : va_S (Afr ad s.heap.size) s.heap H locs) (hl : lv_has ls 6 [(0, .ref (ad (5 + 14 * i + 10))), (1, .int x1), (2, .int x2), (3, .int x3)]) (h : f_X4_lookAt_b10 K10 L x1 x2 x3 = some res) : W p l e rmX4_lookAt s m args below meth c H locs 0 0 (MQ below (va_Qi (fun r' (_ : Unit) => r' = res.1) (fun _ t => va_P D vwCl (wA cs ad (va_up Ls i res.2) Hs T) t.heap) (Afr ad s.heap.size)) args s 0 0 (Afr ad s.heap.size)) (F0 m 10 ls []) := by
  unfold f_X4_lookAt_b10 at h
  refine lv_iload_n C.1 C.2.1 dX4_lookAt_10 rfl (lv_at hl 3 rfl) ?_
  refine lv_aload_n C.1 C.2.1 dX4_lookAt_11 rfl (lv_at hl 0 rfl) ?_
  obtain ⟨v1, ev1, h⟩ := lt_out h
  refine k_geti C G hP (v_sto (i := i) hi) rfl 3 (by decide) n_X4_lookAt_X4 q_X4_lookAt_2 rfl ev1 dX4_lookAt_12 ?_
  refine lv_icmp_ge (tgt := 89) C.1 C.2.1 dX4_lookAt_15 (by decide) (fun c2 => ?_) (fun c2 => ?_)
  · have h := if_t c2 h
    refine lv_iload_n C.1 C.2.1 dX4_lookAt_89 rfl (lv_at hl 2 rfl) ?_
    cases h
    exact k_iret C hP hS dX4_lookAt_90
  · have h := if_f c2 h
    refine lv_aload_n C.1 C.2.1 dX4_lookAt_18 rfl (lv_at hl 0 rfl) ?_
    refine k_getf C G hP (v_sto (i := i) hi) rfl 1 (by decide) n_X4_lookAt_X4 q_X4_lookAt_3 (v := .ref (ad (5 + 14 * i + 12))) rfl dX4_lookAt_19 ?_
    refine lv_iload_n C.1 C.2.1 dX4_lookAt_22 rfl (lv_at hl 3 rfl) ?_
    obtain ⟨g3, h⟩ := gd_out h
    have g3 := chk_in g3
    obtain ⟨v4, ev4, h⟩ := lt_out h
    refine k_iald C G hP (v_sar (i := i) hi (k := 12) (by decide)) g3 (j := x3.toNatClampNeg) rfl ev4 dX4_lookAt_23 ?_
    refine lv_istore (lv' := [(4, .int v4), (0, .ref (ad (5 + 14 * i + 10))), (1, .int x1), (2, .int x2), (3, .int x3)]) C.1 C.2.1 dX4_lookAt_24 hl (by decide) rfl (fun ls hl => ?_)
    refine lv_iload C.1 C.2.1 dX4_lookAt_26 (lv_at hl 0 rfl) ?_
    refine lv_aload_n C.1 C.2.1 dX4_lookAt_28 rfl (lv_at hl 1 rfl) ?_
    refine k_getf C G hP (v_sto (i := i) hi) rfl 2 (by decide) n_X4_lookAt_X4 q_X4_lookAt_4 (v := .ref (ad (5 + 14 * i + 13))) rfl dX4_lookAt_29 ?_
    refine lv_iload_n C.1 C.2.1 dX4_lookAt_32 rfl (lv_at hl 4 rfl) ?_
    obtain ⟨v5, ev5, h⟩ := lt_out h
    refine k_iald C G hP (v_sar (i := i) hi (k := 13) (by decide)) g3 (j := x3.toNatClampNeg) rfl ev5 dX4_lookAt_33 ?_
    obtain ⟨v6, ev6, h⟩ := lt_out h
    refine k_iadd C ev6 dX4_lookAt_34 ?_
    refine lv_istore (lv' := [(5, .int v6), (4, .int v4), (0, .ref (ad (5 + 14 * i + 10))), (1, .int x1), (2, .int x2), (3, .int x3)]) C.1 C.2.1 dX4_lookAt_35 hl (by decide) rfl (fun ls hl => ?_)
    refine lv_iload C.1 C.2.1 dX4_lookAt_37 (lv_at hl 1 rfl) ?_
    refine lv_iload_n C.1 C.2.1 dX4_lookAt_39 rfl (lv_at hl 3 rfl) ?_
    refine lv_icmp_le (tgt := 53) C.1 C.2.1 dX4_lookAt_40 (by decide) (fun c7 => ?_) (fun c7 => ?_)
    · have h := if_t c7 h
      refine lv_iload C.1 C.2.1 dX4_lookAt_53 (lv_at hl 0 rfl) ?_
      refine lv_iload_n C.1 C.2.1 dX4_lookAt_55 rfl (lv_at hl 3 rfl) ?_
      refine lv_icmp_le (tgt := 83) C.1 C.2.1 dX4_lookAt_56 (by decide) (fun c8 => ?_) (fun c8 => ?_)
      · have h := if_t c8 h
        exact w_X4_lookAt_b83 C G hi hK10 hP hS (lv_sub hl [2, 3, 4, 5] rfl) h
      · have h := if_f c8 h
        refine lv_aload_n C.1 C.2.1 dX4_lookAt_59 rfl (lv_at hl 2 rfl) ?_
        refine lv_dup C.1 C.2.1 dX4_lookAt_60 rfl ?_
        obtain ⟨v9, ev9, h⟩ := lt_out h
        refine k_geti C G hP (v_sto (i := i) hi) rfl 4 (by decide) n_X4_lookAt_X4 q_X4_lookAt_1 rfl ev9 dX4_lookAt_61 ?_
        refine lv_iconst (v := 1) C.1 C.2.1 dX4_lookAt_64 (by decide) ?_
        refine lv_aload_n C.1 C.2.1 dX4_lookAt_65 rfl (lv_at hl 2 rfl) ?_
        refine k_getf C G hP (v_sto (i := i) hi) rfl 0 (by decide) n_X4_lookAt_X4 q_X4_lookAt_5 (v := .ref (ad (5 + 14 * i + 11))) rfl dX4_lookAt_66 ?_
        refine lv_iload_n C.1 C.2.1 dX4_lookAt_69 rfl (lv_at hl 5 rfl) ?_
        obtain ⟨v10, ev10, h⟩ := lt_out h
        refine k_iald C G hP (v_sar (i := i) hi (k := 11) (by decide)) g3 (j := x3.toNatClampNeg) rfl ev10 dX4_lookAt_70 ?_
        obtain ⟨v11, ev11, h⟩ := lt_out h
        refine k_ishl C ev11 dX4_lookAt_71 ?_
        obtain ⟨v12, ev12, h⟩ := lt_out h
        refine k_ior C ev12 dX4_lookAt_72 ?_
        obtain ⟨L13, eL13, h⟩ := lt_out h
        refine k_puti C G hP hS (v_sto (i := i) hi) rfl 4 (by decide) n_X4_lookAt_X4 q_X4_lookAt_1 tyX4_ok nmX4 rfl (tyX4_ok 4 (by decide)) (Nat.le_of_ble_eq_true rfl) (v_stoS4 (i := i) hi) dX4_lookAt_73 (fun H locs hP hS => ?_)
        rw [← eL13] at hP
        refine lv_iload_n C.1 C.2.1 dX4_lookAt_76 rfl (lv_at hl 4 rfl) ?_
        refine lv_iload C.1 C.2.1 dX4_lookAt_77 (lv_at hl 0 rfl) ?_
        obtain ⟨v14, ev14, h⟩ := lt_out h
        refine k_min C G hl.1 q_X4_lookAt_6 q_X4_lookAt_7 q_X4_lookAt_8 q_X4_lookAt_9 (Nat.le_of_ble_eq_true rfl) (Nat.le_of_ble_eq_true rfl) (Nat.le_of_ble_eq_true rfl) (Nat.le_of_ble_eq_true rfl) ev14 dX4_lookAt_79 ?_
        refine lv_istore_n (lv' := [(2, .int v14), (5, .int v6), (4, .int v4), (0, .ref (ad (5 + 14 * i + 10))), (1, .int x1), (3, .int x3)]) C.1 C.2.1 dX4_lookAt_82 rfl hl (by decide) rfl (fun ls hl => ?_)
        exact w_X4_lookAt_b83 C G hi hK10 hP hS (lv_sub hl [3, 4, 0, 5] rfl) h
    · have h := if_f c7 h
      refine lv_iload_n C.1 C.2.1 dX4_lookAt_43 rfl (lv_at hl 4 rfl) ?_
      refine lv_iload C.1 C.2.1 dX4_lookAt_44 (lv_at hl 1 rfl) ?_
      obtain ⟨v15, ev15, h⟩ := lt_out h
      refine k_min C G hl.1 q_X4_lookAt_6 q_X4_lookAt_7 q_X4_lookAt_8 q_X4_lookAt_9 (Nat.le_of_ble_eq_true rfl) (Nat.le_of_ble_eq_true rfl) (Nat.le_of_ble_eq_true rfl) (Nat.le_of_ble_eq_true rfl) ev15 dX4_lookAt_46 ?_
      refine lv_istore_n (lv' := [(2, .int v15), (5, .int v6), (4, .int v4), (0, .ref (ad (5 + 14 * i + 10))), (1, .int x1), (3, .int x3)]) C.1 C.2.1 dX4_lookAt_49 rfl hl (by decide) rfl (fun ls hl => ?_)
      refine lv_goto (tgt := 83) C.1 C.2.1 dX4_lookAt_50 (by decide) ?_
      exact w_X4_lookAt_b83 C G hi hK10 hP hS (lv_sub hl [3, 4, 0, 5] rfl) h
set_option maxRecDepth 100000 in
set_option maxHeartbeats 4000000 in
theorem w_X4_lookAt_h10 {res : Int32 × SL} (C : Cx p s m args meth c cX4_lookAt 6 (some .int) RX4 wsX4_lookAt) (G : Gx D cs ad s) {i : Nat} (hi : i < 6) {Ls : Nat → SL} {Hs : SL} {T : SL} : ∀ (n : Nat) {L : SL} {x1 : Int32} {x2 : Int32} {x3 : Int32} {H : Heap} {locs : List Loc} {ls : Array Slot}, va_P D vwCl (wA cs ad (va_up Ls i L) Hs T) H → va_S (Afr ad s.heap.size) s.heap H locs → lv_has ls 6 [(0, .ref (ad (5 + 14 * i + 10))), (1, .int x1), (2, .int x2), (3, .int x3)] → f_X4_lookAt_h10 n L x1 x2 x3 = some res → W p l e rmX4_lookAt s m args below meth c H locs 0 0 (MQ below (va_Qi (fun r' (_ : Unit) => r' = res.1) (fun _ t => va_P D vwCl (wA cs ad (va_up Ls i res.2) Hs T) t.heap) (Afr ad s.heap.size)) args s 0 0 (Afr ad s.heap.size)) (F0 m 10 ls []) := by
  intro n
  induction n with
  | zero => intro L x1 x2 x3 H locs ls hP hS hl  h; cases h
  | succ n ih => intro L x1 x2 x3 H locs ls hP hS hl  h; exact w_X4_lookAt_b10 C G  hi  ih hP hS hl  h
set_option maxRecDepth 100000 in
set_option maxHeartbeats 4000000 in
theorem w_X4_lookAt_e {res : Int32 × SL} (C : Cx p s m args meth c cX4_lookAt 6 (some .int) RX4 wsX4_lookAt) (G : Gx D cs ad s) {i : Nat} (hi : i < 6) {Ls : Nat → SL} {Hs : SL} {T : SL} {L : SL} {x1 : Int32} {H : Heap} {locs : List Loc} {ls : Array Slot} (hP : va_P D vwCl (wA cs ad (va_up Ls i L) Hs T) H) (hS : va_S (Afr ad s.heap.size) s.heap H locs) (hl : lv_has ls 6 [(0, .ref (ad (5 + 14 * i + 10))), (1, .int x1)]) (h : f_X4_lookAt L x1 = some res) : W p l e rmX4_lookAt s m args below meth c H locs 0 0 (MQ below (va_Qi (fun r' (_ : Unit) => r' = res.1) (fun _ t => va_P D vwCl (wA cs ad (va_up Ls i res.2) Hs T) t.heap) (Afr ad s.heap.size)) args s 0 0 (Afr ad s.heap.size)) (F0 m 0 ls []) := by
  unfold f_X4_lookAt at h
  refine k_ldci C G q_X4_lookAt_0 dX4_lookAt_0 ?_
  refine lv_istore_n (lv' := [(2, .int 1000000), (0, .ref (ad (5 + 14 * i + 10))), (1, .int x1)]) C.1 C.2.1 dX4_lookAt_2 rfl hl (by decide) rfl (fun ls hl => ?_)
  refine lv_aload_n C.1 C.2.1 dX4_lookAt_3 rfl (lv_at hl 1 rfl) ?_
  refine lv_iconst (v := 0) C.1 C.2.1 dX4_lookAt_4 (by decide) ?_
  obtain ⟨L1, eL1, h⟩ := lt_out h
  refine k_puti C G hP hS (v_sto (i := i) hi) rfl 4 (by decide) n_X4_lookAt_X4 q_X4_lookAt_1 tyX4_ok nmX4 rfl (tyX4_ok 4 (by decide)) (Nat.le_of_ble_eq_true rfl) (v_stoS4 (i := i) hi) dX4_lookAt_5 (fun H locs hP hS => ?_)
  rw [← eL1] at hP
  refine lv_iconst (v := 0) C.1 C.2.1 dX4_lookAt_8 (by decide) ?_
  refine lv_istore_n (lv' := [(3, .int 0), (2, .int 1000000), (0, .ref (ad (5 + 14 * i + 10))), (1, .int x1)]) C.1 C.2.1 dX4_lookAt_9 rfl hl (by decide) rfl (fun ls hl => ?_)
  exact w_X4_lookAt_h10 C G hi fuel hP hS (lv_sub hl [2, 3, 1, 0] rfl) h
set_option maxRecDepth 100000 in
set_option maxHeartbeats 4000000 in
theorem m_X4_lookAt (l : Launch) {D : va_G} {cs : Nat → ClassId} {ad : Nat → Nat} (hAd : adOK ad) (sz : Nat) {i : Nat} (hi : i < 6) {Ls : Nat → SL} {Hs : SL} {T : SL} {L : SL} {x1 : Int32} {res : Int32 × SL} (h : f_X4_lookAt L x1 = some res) : Met l yX4_lookAt wsX4_lookAt rmX4_lookAt (PA D cs sz (wA cs ad (va_up Ls i L) Hs T) [.ref (ad (5 + 14 * i + 10)), .int x1]) (va_Qi (fun r' (_ : Unit) => r' = res.1) (fun _ t => va_P D vwCl (wA cs ad (va_up Ls i res.2) Hs T) t.heap) (Afr ad sz)) 0 0 (Afr ad sz) :=
  k_met (by decide) rfl (Nat.le_of_ble_eq_true rfl) hAd (fun p e s m below meth c ls C G hP hsz hl hS => by
    subst hsz
    exact w_X4_lookAt_e C G hi hP hS hl  h)
/-! X4 isDown -/
abbrev rmX4_isDown : Room := { frames := 0, cells := 0, slots := 0, locals := 0 }
theorem q_X4_isDown_0 : Cond.fieldLink RX4 36 "LineBuffers$Stops" "downBits" "I" ∈ wsX4_isDown := List.mem_of_getElem? (i := 1) rfl
theorem n_X4_isDown_X4 : ∀ x ∈ u_ws RX4 TX4 5, x ∈ wsX4_isDown := fun x h => List.mem_cons_of_mem _ (List.mem_append_right _ h)
set_option maxRecDepth 100000 in
set_option maxHeartbeats 4000000 in
theorem w_X4_isDown_e {res : Int32} (C : Cx p s m args meth c cX4_isDown 2 (some .boolean) RX4 wsX4_isDown) (G : Gx D cs ad s) {i : Nat} (hi : i < 6) {Ls : Nat → SL} {Hs : SL} {T : SL} {L : SL} {x1 : Int32} {H : Heap} {locs : List Loc} {ls : Array Slot} (hP : va_P D vwCl (wA cs ad (va_up Ls i L) Hs T) H) (hS : va_S (Afr ad s.heap.size) s.heap H locs) (hl : lv_has ls 2 [(0, .ref (ad (5 + 14 * i + 10))), (1, .int x1)]) (h : f_X4_isDown L x1 = some res) : W p l e rmX4_isDown s m args below meth c H locs 0 0 (MQ below (va_Qi (fun r' (_ : Unit) => r' = res) (fun _ t => va_P D vwCl (wA cs ad (va_up Ls i L) Hs T) t.heap) (Afr ad s.heap.size)) args s 0 0 (Afr ad s.heap.size)) (F0 m 0 ls []) := by
  unfold f_X4_isDown at h
  refine lv_aload_n C.1 C.2.1 dX4_isDown_0 rfl (lv_at hl 0 rfl) ?_
  obtain ⟨v1, ev1, h⟩ := lt_out h
  refine k_geti C G hP (v_sto (i := i) hi) rfl 4 (by decide) n_X4_isDown_X4 q_X4_isDown_0 rfl ev1 dX4_isDown_1 ?_
  refine lv_iload_n C.1 C.2.1 dX4_isDown_4 rfl (lv_at hl 1 rfl) ?_
  obtain ⟨v2, ev2, h⟩ := lt_out h
  refine k_ishr C ev2 dX4_isDown_5 ?_
  refine lv_iconst (v := 1) C.1 C.2.1 dX4_isDown_6 (by decide) ?_
  obtain ⟨v3, ev3, h⟩ := lt_out h
  refine k_iand C ev3 dX4_isDown_7 ?_
  refine lv_iconst (v := 1) C.1 C.2.1 dX4_isDown_8 (by decide) ?_
  refine lv_icmp_ne (tgt := 16) C.1 C.2.1 dX4_isDown_9 (by decide) (fun c4 => ?_) (fun c4 => ?_)
  · have h := if_t c4 h
    refine lv_iconst (v := 0) C.1 C.2.1 dX4_isDown_16 (by decide) ?_
    cases h
    exact k_zret C hP hS nar_0 dX4_isDown_17
  · have h := if_n c4 h
    refine lv_iconst (v := 1) C.1 C.2.1 dX4_isDown_12 (by decide) ?_
    refine lv_goto (tgt := 17) C.1 C.2.1 dX4_isDown_13 (by decide) ?_
    cases h
    exact k_zret C hP hS nar_1 dX4_isDown_17
set_option maxRecDepth 100000 in
set_option maxHeartbeats 4000000 in
theorem m_X4_isDown (l : Launch) {D : va_G} {cs : Nat → ClassId} {ad : Nat → Nat} (hAd : adOK ad) (sz : Nat) {i : Nat} (hi : i < 6) {Ls : Nat → SL} {Hs : SL} {T : SL} {L : SL} {x1 : Int32} {res : Int32} (h : f_X4_isDown L x1 = some res) : Met l yX4_isDown wsX4_isDown rmX4_isDown (PA D cs sz (wA cs ad (va_up Ls i L) Hs T) [.ref (ad (5 + 14 * i + 10)), .int x1]) (va_Qi (fun r' (_ : Unit) => r' = res) (fun _ t => va_P D vwCl (wA cs ad (va_up Ls i L) Hs T) t.heap) (Afr ad sz)) 0 0 (Afr ad sz) :=
  k_met (by decide) rfl (Nat.le_of_ble_eq_true rfl) hAd (fun p e s m below meth c ls C G hP hsz hl hS => by
    subst hsz
    exact w_X4_isDown_e C G hi hP hS hl  h)
end GEN
