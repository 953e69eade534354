section GEN
variable {p : Program} {l : Launch} {e : Env} {s : State} {m : MethodId} {args : Array Value} {below : List Frame} {meth : Method} {c : Code} {D : va_G} {cs : Nat → ClassId} {ad : Nat → Nat}
/-! X5 needMachine -/
abbrev ormX5_needMachine : Room := { frames := 6, cells := 0, slots := 0, locals := 96 }
theorem oq_X5_needMachine_0 : Cond.fieldLink RX5 10 "LineBuffers" "line" "LLineBuffers$Line;" ∈ wsX5_needMachine := List.mem_of_getElem? (i := 3) rfl
theorem on_X5_needMachine_X5 : ∀ x ∈ u_ws RX5 TX5 4, x ∈ wsX5_needMachine := fun x h => List.mem_cons_of_mem _ (List.mem_append_left _ (List.mem_append_left _ (List.mem_append_right _ h)))
theorem on_X5_needMachine_X2 : ∀ x ∈ u_ws RX2 TX2 4, x ∈ wsX5_needMachine := fun x h => List.mem_cons_of_mem _ (List.mem_append_left _ (List.mem_append_right _ h))
set_option maxRecDepth 100000 in
set_option maxHeartbeats 4000000 in
theorem ow_X5_needMachine_b15 {res : Unit} (C : Cx p s m args meth c cX5_needMachine 2 none RX5 wsX5_needMachine) (G : Gx D cs ad s) {Hs : SL} {T : SL} {Ls : Nat → SL} {H : Heap} {locs : List Loc} {ls : Array Slot} (hP : va_P D vwCl (wA cs ad Ls Hs T) H) (hS : va_S (Afr ad s.heap.size) s.heap H locs) (hl : lv_has ls 2 []) (h : f_X5_needMachine_b15 Ls = some (Sum.inl res)) : W p l e ormX5_needMachine s m args below meth c H locs 0 0 (MQ below (va_Qv (fun (_ : Unit) => True) (fun _ t => va_P D vwCl (wA cs ad Ls Hs T) t.heap) (Afr ad s.heap.size)) args s 0 0 (Afr ad s.heap.size)) (F0 m 15 ls []) := by
  unfold f_X5_needMachine_b15 at h
  cases h
set_option maxRecDepth 100000 in
set_option maxHeartbeats 4000000 in
theorem ow_X5_needMachine_e {res : Unit} (C : Cx p s m args meth c cX5_needMachine 2 none RX5 wsX5_needMachine) (G : Gx D cs ad s) {Hs : SL} {T : SL} {Ls : Nat → SL} {x1 : Int32} {H : Heap} {locs : List Loc} {ls : Array Slot} (hP : va_P D vwCl (wA cs ad Ls Hs T) H) (hS : va_S (Afr ad s.heap.size) s.heap H locs) (hl : lv_has ls 2 [(0, .ref (ad 0)), (1, .int x1)]) (h : f_X5_needMachine Ls x1 = some (Sum.inl res)) : W p l e ormX5_needMachine s m args below meth c H locs 0 0 (MQ below (va_Qv (fun (_ : Unit) => True) (fun _ t => va_P D vwCl (wA cs ad Ls Hs T) t.heap) (Afr ad s.heap.size)) args s 0 0 (Afr ad s.heap.size)) (F0 m 0 ls []) := by
  unfold f_X5_needMachine at h
  refine lv_iload_n C.1 C.2.1 dX5_needMachine_0 rfl (lv_at hl 1 rfl) ?_
  refine lv_if_lt (tgt := 15) C.1 C.2.1 dX5_needMachine_1 (by decide) (fun c1 => ?_) (fun c1 => ?_)
  · have h := if_t c1 h
    exact ow_X5_needMachine_b15 C G hP hS (lv_sub hl [] rfl) h
  · have h := if_f c1 h
    refine lv_iload_n C.1 C.2.1 dX5_needMachine_4 rfl (lv_at hl 1 rfl) ?_
    refine lv_aload_n C.1 C.2.1 dX5_needMachine_5 rfl (lv_at hl 0 rfl) ?_
    refine k_getf C G hP g_obj rfl 0 (by decide) on_X5_needMachine_X5 oq_X5_needMachine_0 (v := .ref (ad (5 + 14 * 0 + 0))) rfl dX5_needMachine_6 ?_
    obtain ⟨v2, ev2, h⟩ := lt_out h
    refine k_getiN C G hP (c_obj (i := 0) (by decide)) rfl 2 (by decide) on_X5_needMachine_X2 (List.mem_of_getElem? (i := 3) rfl) rfl ev2 dX5_needMachine_9 ?_
    refine lv_icmp_lt (tgt := 25) C.1 C.2.1 dX5_needMachine_12 (by decide) (fun c3 => ?_) (fun c3 => ?_)
    · have h := if_t c3 h
      cases h
      exact k_vret C hP hS dX5_needMachine_25
    · have h := if_f c3 h
      exact ow_X5_needMachine_b15 C G hP hS (lv_sub hl [] rfl) h
set_option maxRecDepth 100000 in
set_option maxHeartbeats 4000000 in
theorem o_X5_needMachine (l : Launch) {D : va_G} {cs : Nat → ClassId} {ad : Nat → Nat} (hAd : adOK ad) (sz : Nat) {Ls : Nat → SL} {Hs : SL} {T : SL} {x1 : Int32} {res : Unit} (h : f_X5_needMachine Ls x1 = some (Sum.inl res)) : Met l yX5_needMachine wsX5_needMachine ormX5_needMachine (PA D cs sz (wA cs ad Ls Hs T) [.ref (ad 0), .int x1]) (va_Qv (fun (_ : Unit) => True) (fun _ t => va_P D vwCl (wA cs ad Ls Hs T) t.heap) (Afr ad sz)) 0 0 (Afr ad sz) :=
  k_met (by decide) rfl (Nat.le_of_ble_eq_true rfl) hAd (fun p e s m below meth c ls C G hP hsz hl hS => by
    subst hsz
    exact ow_X5_needMachine_e C G  hP hS hl  h)
/-! X5 needMachines -/
abbrev ormX5_needMachines : Room := { frames := 6, cells := 0, slots := 0, locals := 96 }
theorem oq_X5_needMachines_0 : Cond.fieldLink RX5 10 "LineBuffers" "line" "LLineBuffers$Line;" ∈ wsX5_needMachines := List.mem_of_getElem? (i := 3) rfl
theorem on_X5_needMachines_X5 : ∀ x ∈ u_ws RX5 TX5 4, x ∈ wsX5_needMachines := fun x h => List.mem_cons_of_mem _ (List.mem_append_left _ (List.mem_append_left _ (List.mem_append_right _ h)))
theorem on_X5_needMachines_X2 : ∀ x ∈ u_ws RX2 TX2 4, x ∈ wsX5_needMachines := fun x h => List.mem_cons_of_mem _ (List.mem_append_left _ (List.mem_append_right _ h))
set_option maxRecDepth 100000 in
set_option maxHeartbeats 4000000 in
theorem ow_X5_needMachines_e {res : Unit} (C : Cx p s m args meth c cX5_needMachines 2 none RX5 wsX5_needMachines) (G : Gx D cs ad s) {Hs : SL} {T : SL} {Ls : Nat → SL} {x1 : Int32} {H : Heap} {locs : List Loc} {ls : Array Slot} (hP : va_P D vwCl (wA cs ad Ls Hs T) H) (hS : va_S (Afr ad s.heap.size) s.heap H locs) (hl : lv_has ls 2 [(0, .ref (ad 0)), (1, .int x1)]) (h : f_X5_needMachines Ls x1 = some (Sum.inl res)) : W p l e ormX5_needMachines s m args below meth c H locs 0 0 (MQ below (va_Qv (fun (_ : Unit) => True) (fun _ t => va_P D vwCl (wA cs ad Ls Hs T) t.heap) (Afr ad s.heap.size)) args s 0 0 (Afr ad s.heap.size)) (F0 m 0 ls []) := by
  unfold f_X5_needMachines at h
  refine lv_aload_n C.1 C.2.1 dX5_needMachines_0 rfl (lv_at hl 0 rfl) ?_
  refine k_getf C G hP g_obj rfl 0 (by decide) on_X5_needMachines_X5 oq_X5_needMachines_0 (v := .ref (ad (5 + 14 * 0 + 0))) rfl dX5_needMachines_1 ?_
  obtain ⟨v1, ev1, h⟩ := lt_out h
  refine k_getiN C G hP (c_obj (i := 0) (by decide)) rfl 2 (by decide) on_X5_needMachines_X2 (List.mem_of_getElem? (i := 3) rfl) rfl ev1 dX5_needMachines_4 ?_
  refine lv_iload_n C.1 C.2.1 dX5_needMachines_7 rfl (lv_at hl 1 rfl) ?_
  refine lv_icmp_ge (tgt := 21) C.1 C.2.1 dX5_needMachines_8 (by decide) (fun c2 => ?_) (fun c2 => ?_)
  · have h := if_t c2 h
    cases h
    exact k_vret C hP hS dX5_needMachines_21
  · have h := if_f c2 h
    cases h
set_option maxRecDepth 100000 in
set_option maxHeartbeats 4000000 in
theorem o_X5_needMachines (l : Launch) {D : va_G} {cs : Nat → ClassId} {ad : Nat → Nat} (hAd : adOK ad) (sz : Nat) {Ls : Nat → SL} {Hs : SL} {T : SL} {x1 : Int32} {res : Unit} (h : f_X5_needMachines Ls x1 = some (Sum.inl res)) : Met l yX5_needMachines wsX5_needMachines ormX5_needMachines (PA D cs sz (wA cs ad Ls Hs T) [.ref (ad 0), .int x1]) (va_Qv (fun (_ : Unit) => True) (fun _ t => va_P D vwCl (wA cs ad Ls Hs T) t.heap) (Afr ad sz)) 0 0 (Afr ad sz) :=
  k_met (by decide) rfl (Nat.le_of_ble_eq_true rfl) hAd (fun p e s m below meth c ls C G hP hsz hl hS => by
    subst hsz
    exact ow_X5_needMachines_e C G  hP hS hl  h)
/-! X5 needWhat -/
abbrev ormX5_needWhat : Room := { frames := 6, cells := 0, slots := 0, locals := 96 }
set_option maxRecDepth 100000 in
set_option maxHeartbeats 4000000 in
theorem ow_X5_needWhat_b9 {res : Unit} (C : Cx p s m args meth c cX5_needWhat 2 none RX5 wsX5_needWhat) (G : Gx D cs ad s) {Ls : Nat → SL} {Hs : SL} {T : SL} {H : Heap} {locs : List Loc} {ls : Array Slot} (hP : va_P D vwCl (wA cs ad Ls Hs T) H) (hS : va_S (Afr ad s.heap.size) s.heap H locs) (hl : lv_has ls 2 []) (h : f_X5_needWhat_b9 = some (Sum.inl res)) : W p l e ormX5_needWhat s m args below meth c H locs 0 0 (MQ below (va_Qv (fun (_ : Unit) => True) (fun _ t => va_P D vwCl (wA cs ad Ls Hs T) t.heap) (Afr ad s.heap.size)) args s 0 0 (Afr ad s.heap.size)) (F0 m 9 ls []) := by
  unfold f_X5_needWhat_b9 at h
  cases h
set_option maxRecDepth 100000 in
set_option maxHeartbeats 4000000 in
theorem ow_X5_needWhat_e {res : Unit} (C : Cx p s m args meth c cX5_needWhat 2 none RX5 wsX5_needWhat) (G : Gx D cs ad s) {Ls : Nat → SL} {Hs : SL} {T : SL} {x0 : Int32} {x1 : Int32} {H : Heap} {locs : List Loc} {ls : Array Slot} (hP : va_P D vwCl (wA cs ad Ls Hs T) H) (hS : va_S (Afr ad s.heap.size) s.heap H locs) (hl : lv_has ls 2 [(0, .int x0), (1, .int x1)]) (h : f_X5_needWhat x0 x1 = some (Sum.inl res)) : W p l e ormX5_needWhat s m args below meth c H locs 0 0 (MQ below (va_Qv (fun (_ : Unit) => True) (fun _ t => va_P D vwCl (wA cs ad Ls Hs T) t.heap) (Afr ad s.heap.size)) args s 0 0 (Afr ad s.heap.size)) (F0 m 0 ls []) := by
  unfold f_X5_needWhat at h
  refine lv_iload_n C.1 C.2.1 dX5_needWhat_0 rfl (lv_at hl 0 rfl) ?_
  refine lv_if_lt (tgt := 9) C.1 C.2.1 dX5_needWhat_1 (by decide) (fun c1 => ?_) (fun c1 => ?_)
  · have h := if_t c1 h
    exact ow_X5_needWhat_b9 C G hP hS (lv_sub hl [] rfl) h
  · have h := if_f c1 h
    refine lv_iload_n C.1 C.2.1 dX5_needWhat_4 rfl (lv_at hl 0 rfl) ?_
    refine lv_iload_n C.1 C.2.1 dX5_needWhat_5 rfl (lv_at hl 1 rfl) ?_
    refine lv_icmp_lt (tgt := 19) C.1 C.2.1 dX5_needWhat_6 (by decide) (fun c2 => ?_) (fun c2 => ?_)
    · have h := if_t c2 h
      cases h
      exact k_vret C hP hS dX5_needWhat_19
    · have h := if_f c2 h
      exact ow_X5_needWhat_b9 C G hP hS (lv_sub hl [] rfl) h
set_option maxRecDepth 100000 in
set_option maxHeartbeats 4000000 in
theorem o_X5_needWhat (l : Launch) {D : va_G} {cs : Nat → ClassId} {ad : Nat → Nat} (hAd : adOK ad) (sz : Nat) {Ls : Nat → SL} {Hs : SL} {T : SL} {x0 : Int32} {x1 : Int32} {res : Unit} (h : f_X5_needWhat x0 x1 = some (Sum.inl res)) : Met l yX5_needWhat wsX5_needWhat ormX5_needWhat (PA D cs sz (wA cs ad Ls Hs T) [.int x0, .int x1]) (va_Qv (fun (_ : Unit) => True) (fun _ t => va_P D vwCl (wA cs ad Ls Hs T) t.heap) (Afr ad sz)) 0 0 (Afr ad sz) :=
  k_met (by decide) rfl (Nat.le_of_ble_eq_true rfl) hAd (fun p e s m below meth c ls C G hP hsz hl hS => by
    subst hsz
    exact ow_X5_needWhat_e C G  hP hS hl  h)
/-! X5 setting -/
abbrev ormX5_setting : Room := { frames := 7, cells := 0, slots := 0, locals := 117 }
theorem oq_X5_setting_0 : Cond.fieldLink RX5 10 "LineBuffers" "line" "LLineBuffers$Line;" ∈ wsX5_setting := List.mem_of_getElem? (i := 1) rfl
theorem on_X5_setting_X5 : ∀ x ∈ u_ws RX5 TX5 4, x ∈ wsX5_setting := fun x h => List.mem_cons_of_mem _ (List.mem_append_left _ (List.mem_append_left _ (List.mem_append_left _ (List.mem_append_right _ h))))
theorem on_X5_setting_X2 : ∀ x ∈ u_ws RX2 TX2 4, x ∈ wsX5_setting := fun x h => List.mem_cons_of_mem _ (List.mem_append_left _ (List.mem_append_left _ (List.mem_append_right _ h)))
set_option maxRecDepth 100000 in
set_option maxHeartbeats 4000000 in
theorem ow_X5_setting_e {res : Int32} (C : Cx p s m args meth c cX5_setting 3 (some .int) RX5 wsX5_setting) (G : Gx D cs ad s) {Hs : SL} {T : SL} {Ls : Nat → SL} {x1 : Int32} {x2 : Int32} {H : Heap} {locs : List Loc} {ls : Array Slot} (hP : va_P D vwCl (wA cs ad Ls Hs T) H) (hS : va_S (Afr ad s.heap.size) s.heap H locs) (hl : lv_has ls 3 [(0, .ref (ad 0)), (1, .int x1), (2, .int x2)]) (h : f_X5_setting Ls x1 x2 = some (Sum.inl res)) : W p l e ormX5_setting s m args below meth c H locs 0 0 (MQ below (va_Qi (fun r' (_ : Unit) => r' = res) (fun _ t => va_P D vwCl (wA cs ad Ls Hs T) t.heap) (Afr ad s.heap.size)) args s 0 0 (Afr ad s.heap.size)) (F0 m 0 ls []) := by
  unfold f_X5_setting at h
  refine lv_aload_n C.1 C.2.1 dX5_setting_0 rfl (lv_at hl 0 rfl) ?_
  refine lv_iload_n C.1 C.2.1 dX5_setting_1 rfl (lv_at hl 1 rfl) ?_
  obtain ⟨r1, c2, h⟩ := bd_out h
  cases r1 with
  | inr k => exact absurd h (by intro h; cases h)
  | inl u9 =>
  have h := sx_l h
  refine k_callVv C G hP hS (o_X5_needMachine l G.2.1 _ c2) g_obj rfl (cwV 1 C.2.2.2.2.2.1 gX5_setting_X5_needMachine rfl rfl rfl (by decide +kernel) ⟨Nat.le_of_ble_eq_true rfl, Nat.le_of_ble_eq_true rfl⟩) (As := [.int x1]) rfl hl.1 rfl (Nat.le_of_ble_eq_true rfl) dX5_setting_2 ⟨Nat.le_of_ble_eq_true rfl, Nat.le_of_ble_eq_true rfl⟩ (fun H locs hP hS => ?_)
  refine lv_iload_n C.1 C.2.1 dX5_setting_5 rfl (lv_at hl 2 rfl) ?_
  refine lv_iconst (v := 5) C.1 C.2.1 dX5_setting_6 (by decide) ?_
  obtain ⟨r3, c4, h⟩ := bd_out h
  cases r3 with
  | inr k => exact absurd h (by intro h; cases h)
  | inl u9 =>
  have h := sx_l h
  refine k_callSv C G hP hS (o_X5_needWhat l G.2.1 _ c4) (va_cwS 2 C.2.2.2.2.2.1 gX5_setting_X5_needWhat rfl rfl rfl (by decide +kernel) ⟨Nat.le_of_ble_eq_true rfl, Nat.le_of_ble_eq_true rfl⟩) (As := [.int x2, .int 5]) rfl hl.1 rfl (Nat.le_of_ble_eq_true rfl) dX5_setting_7 ⟨Nat.le_of_ble_eq_true rfl, Nat.le_of_ble_eq_true rfl⟩ (fun H locs hP hS => ?_)
  refine lv_aload_n C.1 C.2.1 dX5_setting_10 rfl (lv_at hl 0 rfl) ?_
  refine k_getf C G hP g_obj rfl 0 (by decide) on_X5_setting_X5 oq_X5_setting_0 (v := .ref (ad (5 + 14 * 0 + 0))) rfl dX5_setting_11 ?_
  refine k_getfN C G hP (c_obj (i := 0) (by decide)) rfl 0 (by decide) on_X5_setting_X2 (List.mem_of_getElem? (i := 1) rfl) (v := .ref (ad (5 + 14 * 0 + 1))) rfl dX5_setting_14 ?_
  refine lv_iload_n C.1 C.2.1 dX5_setting_17 rfl (lv_at hl 1 rfl) ?_
  obtain ⟨g5, h⟩ := gd_out h
  have g5 := chk_in g5
  obtain ⟨kq6, ekq6, h⟩ := lt_out h
  have hkq6 : 2 ≤ kq6 ∧ kq6 < 10 := row_k g5 ekq6
  refine k_aaldR C G hP (c_rows (i := 0) (by decide)) g5 (b := ad (5 + 14 * 0 + kq6)) (by rw [ekq6]) dX5_setting_18 ?_
  refine lv_iconst (v := 0) C.1 C.2.1 dX5_setting_19 (by decide) ?_
  refine lv_iload_n C.1 C.2.1 dX5_setting_20 rfl (lv_at hl 2 rfl) ?_
  obtain ⟨v7, ev7, h⟩ := lt_out h
  refine k_iadd C ev7 dX5_setting_21 ?_
  obtain ⟨g8, h⟩ := gd_out h
  have g8 := chk_in g8
  obtain ⟨v9, ev9, h⟩ := lt_out h
  refine k_iald C G hP (c_row (i := 0) (by decide) hkq6) g8 (j := v7.toNatClampNeg) rfl ev9 dX5_setting_22 ?_
  cases h
  exact k_iret C hP hS dX5_setting_23
set_option maxRecDepth 100000 in
set_option maxHeartbeats 4000000 in
theorem o_X5_setting (l : Launch) {D : va_G} {cs : Nat → ClassId} {ad : Nat → Nat} (hAd : adOK ad) (sz : Nat) {Ls : Nat → SL} {Hs : SL} {T : SL} {x1 : Int32} {x2 : Int32} {res : Int32} (h : f_X5_setting Ls x1 x2 = some (Sum.inl res)) : Met l yX5_setting wsX5_setting ormX5_setting (PA D cs sz (wA cs ad Ls Hs T) [.ref (ad 0), .int x1, .int x2]) (va_Qi (fun r' (_ : Unit) => r' = res) (fun _ t => va_P D vwCl (wA cs ad Ls Hs T) t.heap) (Afr ad sz)) 0 0 (Afr ad sz) :=
  k_met (by decide) rfl (Nat.le_of_ble_eq_true rfl) hAd (fun p e s m below meth c ls C G hP hsz hl hS => by
    subst hsz
    exact ow_X5_setting_e C G  hP hS hl  h)
/-! X5 machine -/
abbrev ormX5_machine : Room := { frames := 7, cells := 0, slots := 0, locals := 117 }
theorem oq_X5_machine_0 : Cond.fieldLink RX5 10 "LineBuffers" "line" "LLineBuffers$Line;" ∈ wsX5_machine := List.mem_of_getElem? (i := 1) rfl
theorem on_X5_machine_X5 : ∀ x ∈ u_ws RX5 TX5 4, x ∈ wsX5_machine := fun x h => List.mem_cons_of_mem _ (List.mem_append_left _ (List.mem_append_left _ (List.mem_append_left _ (List.mem_append_right _ h))))
theorem on_X5_machine_X2 : ∀ x ∈ u_ws RX2 TX2 4, x ∈ wsX5_machine := fun x h => List.mem_cons_of_mem _ (List.mem_append_left _ (List.mem_append_left _ (List.mem_append_right _ h)))
set_option maxRecDepth 100000 in
set_option maxHeartbeats 4000000 in
theorem ow_X5_machine_e {res : Int32} (C : Cx p s m args meth c cX5_machine 3 (some .int) RX5 wsX5_machine) (G : Gx D cs ad s) {Hs : SL} {T : SL} {Ls : Nat → SL} {x1 : Int32} {x2 : Int32} {H : Heap} {locs : List Loc} {ls : Array Slot} (hP : va_P D vwCl (wA cs ad Ls Hs T) H) (hS : va_S (Afr ad s.heap.size) s.heap H locs) (hl : lv_has ls 3 [(0, .ref (ad 0)), (1, .int x1), (2, .int x2)]) (h : f_X5_machine Ls x1 x2 = some (Sum.inl res)) : W p l e ormX5_machine s m args below meth c H locs 0 0 (MQ below (va_Qi (fun r' (_ : Unit) => r' = res) (fun _ t => va_P D vwCl (wA cs ad Ls Hs T) t.heap) (Afr ad s.heap.size)) args s 0 0 (Afr ad s.heap.size)) (F0 m 0 ls []) := by
  unfold f_X5_machine at h
  refine lv_aload_n C.1 C.2.1 dX5_machine_0 rfl (lv_at hl 0 rfl) ?_
  refine lv_iload_n C.1 C.2.1 dX5_machine_1 rfl (lv_at hl 1 rfl) ?_
  obtain ⟨r1, c2, h⟩ := bd_out h
  cases r1 with
  | inr k => exact absurd h (by intro h; cases h)
  | inl u9 =>
  have h := sx_l h
  refine k_callVv C G hP hS (o_X5_needMachine l G.2.1 _ c2) g_obj rfl (cwV 1 C.2.2.2.2.2.1 gX5_machine_X5_needMachine rfl rfl rfl (by decide +kernel) ⟨Nat.le_of_ble_eq_true rfl, Nat.le_of_ble_eq_true rfl⟩) (As := [.int x1]) rfl hl.1 rfl (Nat.le_of_ble_eq_true rfl) dX5_machine_2 ⟨Nat.le_of_ble_eq_true rfl, Nat.le_of_ble_eq_true rfl⟩ (fun H locs hP hS => ?_)
  refine lv_iload_n C.1 C.2.1 dX5_machine_5 rfl (lv_at hl 2 rfl) ?_
  refine lv_iconst (v := 4) C.1 C.2.1 dX5_machine_6 (by decide) ?_
  obtain ⟨r3, c4, h⟩ := bd_out h
  cases r3 with
  | inr k => exact absurd h (by intro h; cases h)
  | inl u9 =>
  have h := sx_l h
  refine k_callSv C G hP hS (o_X5_needWhat l G.2.1 _ c4) (va_cwS 2 C.2.2.2.2.2.1 gX5_machine_X5_needWhat rfl rfl rfl (by decide +kernel) ⟨Nat.le_of_ble_eq_true rfl, Nat.le_of_ble_eq_true rfl⟩) (As := [.int x2, .int 4]) rfl hl.1 rfl (Nat.le_of_ble_eq_true rfl) dX5_machine_7 ⟨Nat.le_of_ble_eq_true rfl, Nat.le_of_ble_eq_true rfl⟩ (fun H locs hP hS => ?_)
  refine lv_aload_n C.1 C.2.1 dX5_machine_10 rfl (lv_at hl 0 rfl) ?_
  refine k_getf C G hP g_obj rfl 0 (by decide) on_X5_machine_X5 oq_X5_machine_0 (v := .ref (ad (5 + 14 * 0 + 0))) rfl dX5_machine_11 ?_
  refine k_getfN C G hP (c_obj (i := 0) (by decide)) rfl 0 (by decide) on_X5_machine_X2 (List.mem_of_getElem? (i := 1) rfl) (v := .ref (ad (5 + 14 * 0 + 1))) rfl dX5_machine_14 ?_
  refine lv_iload_n C.1 C.2.1 dX5_machine_17 rfl (lv_at hl 1 rfl) ?_
  obtain ⟨g5, h⟩ := gd_out h
  have g5 := chk_in g5
  obtain ⟨kq6, ekq6, h⟩ := lt_out h
  have hkq6 : 2 ≤ kq6 ∧ kq6 < 10 := row_k g5 ekq6
  refine k_aaldR C G hP (c_rows (i := 0) (by decide)) g5 (b := ad (5 + 14 * 0 + kq6)) (by rw [ekq6]) dX5_machine_18 ?_
  refine lv_iconst (v := 5) C.1 C.2.1 dX5_machine_19 (by decide) ?_
  refine lv_iload_n C.1 C.2.1 dX5_machine_20 rfl (lv_at hl 2 rfl) ?_
  obtain ⟨v7, ev7, h⟩ := lt_out h
  refine k_iadd C ev7 dX5_machine_21 ?_
  obtain ⟨g8, h⟩ := gd_out h
  have g8 := chk_in g8
  obtain ⟨v9, ev9, h⟩ := lt_out h
  refine k_iald C G hP (c_row (i := 0) (by decide) hkq6) g8 (j := v7.toNatClampNeg) rfl ev9 dX5_machine_22 ?_
  cases h
  exact k_iret C hP hS dX5_machine_23
set_option maxRecDepth 100000 in
set_option maxHeartbeats 4000000 in
theorem o_X5_machine (l : Launch) {D : va_G} {cs : Nat → ClassId} {ad : Nat → Nat} (hAd : adOK ad) (sz : Nat) {Ls : Nat → SL} {Hs : SL} {T : SL} {x1 : Int32} {x2 : Int32} {res : Int32} (h : f_X5_machine Ls x1 x2 = some (Sum.inl res)) : Met l yX5_machine wsX5_machine ormX5_machine (PA D cs sz (wA cs ad Ls Hs T) [.ref (ad 0), .int x1, .int x2]) (va_Qi (fun r' (_ : Unit) => r' = res) (fun _ t => va_P D vwCl (wA cs ad Ls Hs T) t.heap) (Afr ad sz)) 0 0 (Afr ad sz) :=
  k_met (by decide) rfl (Nat.le_of_ble_eq_true rfl) hAd (fun p e s m below meth c ls C G hP hsz hl hS => by
    subst hsz
    exact ow_X5_machine_e C G  hP hS hl  h)
/-! X5 count -/
abbrev ormX5_count : Room := { frames := 7, cells := 0, slots := 0, locals := 117 }
theorem oq_X5_count_0 : Cond.fieldLink RX5 10 "LineBuffers" "line" "LLineBuffers$Line;" ∈ wsX5_count := List.mem_of_getElem? (i := 1) rfl
theorem on_X5_count_X5 : ∀ x ∈ u_ws RX5 TX5 4, x ∈ wsX5_count := fun x h => List.mem_cons_of_mem _ (List.mem_append_left _ (List.mem_append_left _ (List.mem_append_left _ (List.mem_append_right _ h))))
theorem on_X5_count_X2 : ∀ x ∈ u_ws RX2 TX2 4, x ∈ wsX5_count := fun x h => List.mem_cons_of_mem _ (List.mem_append_left _ (List.mem_append_left _ (List.mem_append_right _ h)))
set_option maxRecDepth 100000 in
set_option maxHeartbeats 4000000 in
theorem ow_X5_count_e {res : Int32} (C : Cx p s m args meth c cX5_count 3 (some .int) RX5 wsX5_count) (G : Gx D cs ad s) {Hs : SL} {T : SL} {Ls : Nat → SL} {x1 : Int32} {x2 : Int32} {H : Heap} {locs : List Loc} {ls : Array Slot} (hP : va_P D vwCl (wA cs ad Ls Hs T) H) (hS : va_S (Afr ad s.heap.size) s.heap H locs) (hl : lv_has ls 3 [(0, .ref (ad 0)), (1, .int x1), (2, .int x2)]) (h : f_X5_count Ls x1 x2 = some (Sum.inl res)) : W p l e ormX5_count s m args below meth c H locs 0 0 (MQ below (va_Qi (fun r' (_ : Unit) => r' = res) (fun _ t => va_P D vwCl (wA cs ad Ls Hs T) t.heap) (Afr ad s.heap.size)) args s 0 0 (Afr ad s.heap.size)) (F0 m 0 ls []) := by
  unfold f_X5_count at h
  refine lv_aload_n C.1 C.2.1 dX5_count_0 rfl (lv_at hl 0 rfl) ?_
  refine lv_iload_n C.1 C.2.1 dX5_count_1 rfl (lv_at hl 1 rfl) ?_
  obtain ⟨r1, c2, h⟩ := bd_out h
  cases r1 with
  | inr k => exact absurd h (by intro h; cases h)
  | inl u9 =>
  have h := sx_l h
  refine k_callVv C G hP hS (o_X5_needMachine l G.2.1 _ c2) g_obj rfl (cwV 1 C.2.2.2.2.2.1 gX5_count_X5_needMachine rfl rfl rfl (by decide +kernel) ⟨Nat.le_of_ble_eq_true rfl, Nat.le_of_ble_eq_true rfl⟩) (As := [.int x1]) rfl hl.1 rfl (Nat.le_of_ble_eq_true rfl) dX5_count_2 ⟨Nat.le_of_ble_eq_true rfl, Nat.le_of_ble_eq_true rfl⟩ (fun H locs hP hS => ?_)
  refine lv_iload_n C.1 C.2.1 dX5_count_5 rfl (lv_at hl 2 rfl) ?_
  refine lv_bipush (v := 6) C.1 C.2.1 dX5_count_6 (by decide) ?_
  obtain ⟨r3, c4, h⟩ := bd_out h
  cases r3 with
  | inr k => exact absurd h (by intro h; cases h)
  | inl u9 =>
  have h := sx_l h
  refine k_callSv C G hP hS (o_X5_needWhat l G.2.1 _ c4) (va_cwS 2 C.2.2.2.2.2.1 gX5_count_X5_needWhat rfl rfl rfl (by decide +kernel) ⟨Nat.le_of_ble_eq_true rfl, Nat.le_of_ble_eq_true rfl⟩) (As := [.int x2, .int 6]) rfl hl.1 rfl (Nat.le_of_ble_eq_true rfl) dX5_count_8 ⟨Nat.le_of_ble_eq_true rfl, Nat.le_of_ble_eq_true rfl⟩ (fun H locs hP hS => ?_)
  refine lv_aload_n C.1 C.2.1 dX5_count_11 rfl (lv_at hl 0 rfl) ?_
  refine k_getf C G hP g_obj rfl 0 (by decide) on_X5_count_X5 oq_X5_count_0 (v := .ref (ad (5 + 14 * 0 + 0))) rfl dX5_count_12 ?_
  refine k_getfN C G hP (c_obj (i := 0) (by decide)) rfl 0 (by decide) on_X5_count_X2 (List.mem_of_getElem? (i := 1) rfl) (v := .ref (ad (5 + 14 * 0 + 1))) rfl dX5_count_15 ?_
  refine lv_iload_n C.1 C.2.1 dX5_count_18 rfl (lv_at hl 1 rfl) ?_
  obtain ⟨g5, h⟩ := gd_out h
  have g5 := chk_in g5
  obtain ⟨kq6, ekq6, h⟩ := lt_out h
  have hkq6 : 2 ≤ kq6 ∧ kq6 < 10 := row_k g5 ekq6
  refine k_aaldR C G hP (c_rows (i := 0) (by decide)) g5 (b := ad (5 + 14 * 0 + kq6)) (by rw [ekq6]) dX5_count_19 ?_
  refine lv_bipush (v := 9) C.1 C.2.1 dX5_count_20 (by decide) ?_
  refine lv_iload_n C.1 C.2.1 dX5_count_22 rfl (lv_at hl 2 rfl) ?_
  obtain ⟨v7, ev7, h⟩ := lt_out h
  refine k_iadd C ev7 dX5_count_23 ?_
  obtain ⟨g8, h⟩ := gd_out h
  have g8 := chk_in g8
  obtain ⟨v9, ev9, h⟩ := lt_out h
  refine k_iald C G hP (c_row (i := 0) (by decide) hkq6) g8 (j := v7.toNatClampNeg) rfl ev9 dX5_count_24 ?_
  cases h
  exact k_iret C hP hS dX5_count_25
set_option maxRecDepth 100000 in
set_option maxHeartbeats 4000000 in
theorem o_X5_count (l : Launch) {D : va_G} {cs : Nat → ClassId} {ad : Nat → Nat} (hAd : adOK ad) (sz : Nat) {Ls : Nat → SL} {Hs : SL} {T : SL} {x1 : Int32} {x2 : Int32} {res : Int32} (h : f_X5_count Ls x1 x2 = some (Sum.inl res)) : Met l yX5_count wsX5_count ormX5_count (PA D cs sz (wA cs ad Ls Hs T) [.ref (ad 0), .int x1, .int x2]) (va_Qi (fun r' (_ : Unit) => r' = res) (fun _ t => va_P D vwCl (wA cs ad Ls Hs T) t.heap) (Afr ad sz)) 0 0 (Afr ad sz) :=
  k_met (by decide) rfl (Nat.le_of_ble_eq_true rfl) hAd (fun p e s m below meth c ls C G hP hsz hl hS => by
    subst hsz
    exact ow_X5_count_e C G  hP hS hl  h)
/-! X5 stop -/
abbrev ormX5_stop : Room := { frames := 7, cells := 0, slots := 0, locals := 117 }
theorem oq_X5_stop_0 : Cond.fieldLink RX5 10 "LineBuffers" "line" "LLineBuffers$Line;" ∈ wsX5_stop := List.mem_of_getElem? (i := 3) rfl
theorem on_X5_stop_X5 : ∀ x ∈ u_ws RX5 TX5 4, x ∈ wsX5_stop := fun x h => List.mem_cons_of_mem _ (List.mem_append_left _ (List.mem_append_left _ (List.mem_append_left _ (List.mem_append_left _ (List.mem_append_right _ h)))))
theorem on_X5_stop_X2 : ∀ x ∈ u_ws RX2 TX2 4, x ∈ wsX5_stop := fun x h => List.mem_cons_of_mem _ (List.mem_append_left _ (List.mem_append_left _ (List.mem_append_left _ (List.mem_append_right _ h))))
theorem on_X5_stop_X4 : ∀ x ∈ u_ws RX4 TX4 5, x ∈ wsX5_stop := fun x h => List.mem_cons_of_mem _ (List.mem_append_left _ (List.mem_append_left _ (List.mem_append_right _ h)))
set_option maxRecDepth 100000 in
set_option maxHeartbeats 4000000 in
theorem ow_X5_stop_b18 {res : Int32} (C : Cx p s m args meth c cX5_stop 3 (some .int) RX5 wsX5_stop) (G : Gx D cs ad s) {Hs : SL} {T : SL} {Ls : Nat → SL} {H : Heap} {locs : List Loc} {ls : Array Slot} (hP : va_P D vwCl (wA cs ad Ls Hs T) H) (hS : va_S (Afr ad s.heap.size) s.heap H locs) (hl : lv_has ls 3 []) (h : f_X5_stop_b18 Ls = some (Sum.inl res)) : W p l e ormX5_stop s m args below meth c H locs 0 0 (MQ below (va_Qi (fun r' (_ : Unit) => r' = res) (fun _ t => va_P D vwCl (wA cs ad Ls Hs T) t.heap) (Afr ad s.heap.size)) args s 0 0 (Afr ad s.heap.size)) (F0 m 18 ls []) := by
  unfold f_X5_stop_b18 at h
  cases h
set_option maxRecDepth 100000 in
set_option maxHeartbeats 4000000 in
theorem ow_X5_stop_e {res : Int32} (C : Cx p s m args meth c cX5_stop 3 (some .int) RX5 wsX5_stop) (G : Gx D cs ad s) {Hs : SL} {T : SL} {Ls : Nat → SL} {x1 : Int32} {x2 : Int32} {H : Heap} {locs : List Loc} {ls : Array Slot} (hP : va_P D vwCl (wA cs ad Ls Hs T) H) (hS : va_S (Afr ad s.heap.size) s.heap H locs) (hl : lv_has ls 3 [(0, .ref (ad 0)), (1, .int x1), (2, .int x2)]) (h : f_X5_stop Ls x1 x2 = some (Sum.inl res)) : W p l e ormX5_stop s m args below meth c H locs 0 0 (MQ below (va_Qi (fun r' (_ : Unit) => r' = res) (fun _ t => va_P D vwCl (wA cs ad Ls Hs T) t.heap) (Afr ad s.heap.size)) args s 0 0 (Afr ad s.heap.size)) (F0 m 0 ls []) := by
  unfold f_X5_stop at h
  refine lv_iload_n C.1 C.2.1 dX5_stop_0 rfl (lv_at hl 1 rfl) ?_
  refine lv_if_lt (tgt := 18) C.1 C.2.1 dX5_stop_1 (by decide) (fun c1 => ?_) (fun c1 => ?_)
  · have h := if_t c1 h
    exact ow_X5_stop_b18 C G hP hS (lv_sub hl [] rfl) h
  · have h := if_f c1 h
    refine lv_iload_n C.1 C.2.1 dX5_stop_4 rfl (lv_at hl 1 rfl) ?_
    refine lv_aload_n C.1 C.2.1 dX5_stop_5 rfl (lv_at hl 0 rfl) ?_
    refine k_getf C G hP g_obj rfl 0 (by decide) on_X5_stop_X5 oq_X5_stop_0 (v := .ref (ad (5 + 14 * 0 + 0))) rfl dX5_stop_6 ?_
    refine k_getfN C G hP (c_obj (i := 0) (by decide)) rfl 1 (by decide) on_X5_stop_X2 (List.mem_of_getElem? (i := 2) rfl) (v := .ref (ad (5 + 14 * 0 + 10))) rfl dX5_stop_9 ?_
    obtain ⟨v2, ev2, h⟩ := lt_out h
    refine k_getiN C G hP (c_sto (i := 0) (by decide)) rfl 3 (by decide) on_X5_stop_X4 (List.mem_of_getElem? (i := 0) rfl) rfl ev2 dX5_stop_12 ?_
    refine lv_icmp_lt (tgt := 28) C.1 C.2.1 dX5_stop_15 (by decide) (fun c3 => ?_) (fun c3 => ?_)
    · have h := if_t c3 h
      refine lv_iload_n C.1 C.2.1 dX5_stop_28 rfl (lv_at hl 2 rfl) ?_
      refine lv_iconst (v := 3) C.1 C.2.1 dX5_stop_29 (by decide) ?_
      obtain ⟨r4, c5, h⟩ := bd_out h
      cases r4 with
      | inr k => exact absurd h (by intro h; cases h)
      | inl u9 =>
      have h := sx_l h
      refine k_callSv C G hP hS (o_X5_needWhat l G.2.1 _ c5) (va_cwS 2 C.2.2.2.2.2.1 gX5_stop_X5_needWhat rfl rfl rfl (by decide +kernel) ⟨Nat.le_of_ble_eq_true rfl, Nat.le_of_ble_eq_true rfl⟩) (As := [.int x2, .int 3]) rfl hl.1 rfl (Nat.le_of_ble_eq_true rfl) dX5_stop_30 ⟨Nat.le_of_ble_eq_true rfl, Nat.le_of_ble_eq_true rfl⟩ (fun H locs hP hS => ?_)
      refine lv_aload_n C.1 C.2.1 dX5_stop_33 rfl (lv_at hl 0 rfl) ?_
      refine k_getf C G hP g_obj rfl 0 (by decide) on_X5_stop_X5 oq_X5_stop_0 (v := .ref (ad (5 + 14 * 0 + 0))) rfl dX5_stop_34 ?_
      refine k_getfN C G hP (c_obj (i := 0) (by decide)) rfl 1 (by decide) on_X5_stop_X2 (List.mem_of_getElem? (i := 2) rfl) (v := .ref (ad (5 + 14 * 0 + 10))) rfl dX5_stop_37 ?_
      refine lv_iload_n C.1 C.2.1 dX5_stop_40 rfl (lv_at hl 1 rfl) ?_
      refine lv_iload_n C.1 C.2.1 dX5_stop_41 rfl (lv_at hl 2 rfl) ?_
      obtain ⟨r6, c7, h⟩ := bd_out h
      have hP := up_in (i := 0) hP
      refine k_callVi C G hP hS (m_X4_value l G.2.1 _ (i := 0) (by decide) c7) (v_sto (i := 0) (by decide)) rfl (cwV 2 C.2.2.2.2.2.1 gX5_stop_X4_value rfl rfl rfl (by decide +kernel) ⟨Nat.le_of_ble_eq_true rfl, Nat.le_of_ble_eq_true rfl⟩) (As := [.int x1, .int x2]) rfl hl.1 rfl (Nat.le_of_ble_eq_true rfl) dX5_stop_42 ⟨Nat.le_of_ble_eq_true rfl, Nat.le_of_ble_eq_true rfl⟩ (fun H locs hP hS => ?_)
      have hP := up_ou hP
      cases h
      exact k_iret C hP hS dX5_stop_45
    · have h := if_f c3 h
      exact ow_X5_stop_b18 C G hP hS (lv_sub hl [] rfl) h
set_option maxRecDepth 100000 in
set_option maxHeartbeats 4000000 in
theorem o_X5_stop (l : Launch) {D : va_G} {cs : Nat → ClassId} {ad : Nat → Nat} (hAd : adOK ad) (sz : Nat) {Ls : Nat → SL} {Hs : SL} {T : SL} {x1 : Int32} {x2 : Int32} {res : Int32} (h : f_X5_stop Ls x1 x2 = some (Sum.inl res)) : Met l yX5_stop wsX5_stop ormX5_stop (PA D cs sz (wA cs ad Ls Hs T) [.ref (ad 0), .int x1, .int x2]) (va_Qi (fun r' (_ : Unit) => r' = res) (fun _ t => va_P D vwCl (wA cs ad Ls Hs T) t.heap) (Afr ad sz)) 0 0 (Afr ad sz) :=
  k_met (by decide) rfl (Nat.le_of_ble_eq_true rfl) hAd (fun p e s m below meth c ls C G hP hsz hl hS => by
    subst hsz
    exact ow_X5_stop_e C G  hP hS hl  h)
/-! X5 limiting -/
abbrev ormX5_limiting : Room := { frames := 7, cells := 0, slots := 0, locals := 117 }
theorem oq_X5_limiting_0 : Cond.fieldLink RX5 10 "LineBuffers" "line" "LLineBuffers$Line;" ∈ wsX5_limiting := List.mem_of_getElem? (i := 1) rfl
theorem on_X5_limiting_X5 : ∀ x ∈ u_ws RX5 TX5 4, x ∈ wsX5_limiting := fun x h => List.mem_cons_of_mem _ (List.mem_append_left _ (List.mem_append_left _ (List.mem_append_right _ h)))
set_option maxRecDepth 100000 in
set_option maxHeartbeats 4000000 in
theorem ow_X5_limiting_e {res : Int32} (C : Cx p s m args meth c cX5_limiting 1 (some .int) RX5 wsX5_limiting) (G : Gx D cs ad s) {Hs : SL} {T : SL} {Ls : Nat → SL} {H : Heap} {locs : List Loc} {ls : Array Slot} (hP : va_P D vwCl (wA cs ad Ls Hs T) H) (hS : va_S (Afr ad s.heap.size) s.heap H locs) (hl : lv_has ls 1 [(0, .ref (ad 0))]) (h : f_X5_limiting Ls = some (Sum.inl res)) : W p l e ormX5_limiting s m args below meth c H locs 0 0 (MQ below (va_Qi (fun r' (_ : Unit) => r' = res) (fun _ t => va_P D vwCl (wA cs ad Ls Hs T) t.heap) (Afr ad s.heap.size)) args s 0 0 (Afr ad s.heap.size)) (F0 m 0 ls []) := by
  unfold f_X5_limiting at h
  refine lv_aload_n C.1 C.2.1 dX5_limiting_0 rfl (lv_at hl 0 rfl) ?_
  refine lv_iconst (v := 1) C.1 C.2.1 dX5_limiting_1 (by decide) ?_
  obtain ⟨r1, c2, h⟩ := bd_out h
  cases r1 with
  | inr k => exact absurd h (by intro h; cases h)
  | inl u9 =>
  have h := sx_l h
  refine k_callVv C G hP hS (o_X5_needMachines l G.2.1 _ c2) g_obj rfl (cwV 1 C.2.2.2.2.2.1 gX5_limiting_X5_needMachines rfl rfl rfl (by decide +kernel) ⟨Nat.le_of_ble_eq_true rfl, Nat.le_of_ble_eq_true rfl⟩) (As := [.int 1]) rfl hl.1 rfl (Nat.le_of_ble_eq_true rfl) dX5_limiting_2 ⟨Nat.le_of_ble_eq_true rfl, Nat.le_of_ble_eq_true rfl⟩ (fun H locs hP hS => ?_)
  refine lv_aload_n C.1 C.2.1 dX5_limiting_5 rfl (lv_at hl 0 rfl) ?_
  refine k_getf C G hP g_obj rfl 0 (by decide) on_X5_limiting_X5 oq_X5_limiting_0 (v := .ref (ad (5 + 14 * 0 + 0))) rfl dX5_limiting_6 ?_
  obtain ⟨r3, c4, h⟩ := bd_out h
  have hP := up_in (i := 0) hP
  refine k_callVi C G hP hS (m_X2_findLimiting l G.2.1 _ (i := 0) (by decide) c4) (v_obj (i := 0) (by decide)) rfl (cwV 0 C.2.2.2.2.2.1 gX5_limiting_X2_findLimiting rfl rfl rfl (by decide +kernel) ⟨Nat.le_of_ble_eq_true rfl, Nat.le_of_ble_eq_true rfl⟩) (As := []) rfl hl.1 rfl (Nat.le_of_ble_eq_true rfl) dX5_limiting_9 ⟨Nat.le_of_ble_eq_true rfl, Nat.le_of_ble_eq_true rfl⟩ (fun H locs hP hS => ?_)
  have hP := up_ou hP
  cases h
  exact k_iret C hP hS dX5_limiting_12
set_option maxRecDepth 100000 in
set_option maxHeartbeats 4000000 in
theorem o_X5_limiting (l : Launch) {D : va_G} {cs : Nat → ClassId} {ad : Nat → Nat} (hAd : adOK ad) (sz : Nat) {Ls : Nat → SL} {Hs : SL} {T : SL} {res : Int32} (h : f_X5_limiting Ls = some (Sum.inl res)) : Met l yX5_limiting wsX5_limiting ormX5_limiting (PA D cs sz (wA cs ad Ls Hs T) [.ref (ad 0)]) (va_Qi (fun r' (_ : Unit) => r' = res) (fun _ t => va_P D vwCl (wA cs ad Ls Hs T) t.heap) (Afr ad sz)) 0 0 (Afr ad sz) :=
  k_met (by decide) rfl (Nat.le_of_ble_eq_true rfl) hAd (fun p e s m below meth c ls C G hP hsz hl hS => by
    subst hsz
    exact ow_X5_limiting_e C G  hP hS hl  h)
end GEN
