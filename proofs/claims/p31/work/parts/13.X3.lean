section GEN
variable {p : Program} {l : Launch} {e : Env} {s : State} {m : MethodId} {args : Array Value} {below : List Frame} {meth : Method} {c : Code} {D : va_G} {cs : Nat → ClassId} {ad : Nat → Nat}
/-! X3 put -/
abbrev rmX3_put : Room := { frames := 0, cells := 0, slots := 0, locals := 0 }
theorem q_X3_put_0 : Cond.fieldLink RX3 15 "LineBuffers$LineText" "length" "I" ∈ wsX3_put := List.mem_of_getElem? (i := 1) rfl
theorem q_X3_put_1 : Cond.fieldLink RX3 9 "LineBuffers$LineText" "bytes" "[I" ∈ wsX3_put := List.mem_of_getElem? (i := 2) rfl
theorem n_X3_put_X3 : ∀ x ∈ u_ws RX3 TX3 4, x ∈ wsX3_put := fun x h => List.mem_cons_of_mem _ (List.mem_append_right _ h)
set_option maxRecDepth 100000 in
set_option maxHeartbeats 4000000 in
theorem w_X3_put_e {res : SL} (C : Cx p s m args meth c cX3_put 2 none RX3 wsX3_put) (G : Gx D cs ad s) {Ls : Nat → SL} {Hs : SL} {T : SL} {x1 : Int32} {H : Heap} {locs : List Loc} {ls : Array Slot} (hP : va_P D vwCl (wA cs ad Ls Hs T) H) (hS : va_S (Afr ad s.heap.size) s.heap H locs) (hl : lv_has ls 2 [(0, .ref (ad 3)), (1, .int x1)]) (h : f_X3_put T x1 = some res) : W p l e rmX3_put s m args below meth c H locs 0 0 (MQ below (va_Qv (fun (_ : Unit) => True) (fun _ t => va_P D vwCl (wA cs ad Ls Hs res) t.heap) (Afr ad s.heap.size)) args s 0 0 (Afr ad s.heap.size)) (F0 m 0 ls []) := by
  unfold f_X3_put at h
  refine lv_aload_n C.1 C.2.1 dX3_put_0 rfl (lv_at hl 0 rfl) ?_
  obtain ⟨v1, ev1, h⟩ := lt_out h
  refine k_geti C G hP g_txt rfl 1 (by decide) n_X3_put_X3 q_X3_put_0 rfl ev1 dX3_put_1 ?_
  refine lv_bipush (v := 120) C.1 C.2.1 dX3_put_4 (by decide) ?_
  refine lv_icmp_ge (tgt := 29) C.1 C.2.1 dX3_put_6 (by decide) (fun c2 => ?_) (fun c2 => ?_)
  · have h := if_t c2 h
    cases h
    exact k_vret C hP hS dX3_put_29
  · have h := if_f c2 h
    refine lv_aload_n C.1 C.2.1 dX3_put_9 rfl (lv_at hl 0 rfl) ?_
    refine k_getf C G hP g_txt rfl 0 (by decide) n_X3_put_X3 q_X3_put_1 (v := .ref (ad 4)) rfl dX3_put_10 ?_
    refine lv_aload_n C.1 C.2.1 dX3_put_13 rfl (lv_at hl 0 rfl) ?_
    obtain ⟨v3, ev3, h⟩ := lt_out h
    refine k_geti C G hP g_txt rfl 1 (by decide) n_X3_put_X3 q_X3_put_0 rfl ev3 dX3_put_14 ?_
    refine lv_iload_n C.1 C.2.1 dX3_put_17 rfl (lv_at hl 1 rfl) ?_
    obtain ⟨g4, h⟩ := gd_out h
    have g4 := chk_in g4
    obtain ⟨T5, eT5, h⟩ := lt_out h
    refine k_iast C G hP hS g_byt g4 (j := v3.toNatClampNeg) rfl g_bytS dX3_put_18 (fun H locs hP hS => ?_)
    rw [← eT5] at hP
    refine lv_aload_n C.1 C.2.1 dX3_put_19 rfl (lv_at hl 0 rfl) ?_
    refine lv_dup C.1 C.2.1 dX3_put_20 rfl ?_
    obtain ⟨v6, ev6, h⟩ := lt_out h
    refine k_geti C G hP g_txt rfl 1 (by decide) n_X3_put_X3 q_X3_put_0 rfl ev6 dX3_put_21 ?_
    refine lv_iconst (v := 1) C.1 C.2.1 dX3_put_24 (by decide) ?_
    obtain ⟨v7, ev7, h⟩ := lt_out h
    refine k_iadd C ev7 dX3_put_25 ?_
    obtain ⟨T8, eT8, h⟩ := lt_out h
    refine k_puti C G hP hS g_txt rfl 1 (by decide) n_X3_put_X3 q_X3_put_0 tyX3_ok nmX3 rfl (tyX3_ok 1 (by decide)) (Nat.le_of_ble_eq_true rfl) g_txtS1 dX3_put_26 (fun H locs hP hS => ?_)
    rw [← eT8] at hP
    cases h
    exact k_vret C hP hS dX3_put_29
set_option maxRecDepth 100000 in
set_option maxHeartbeats 4000000 in
theorem m_X3_put (l : Launch) {D : va_G} {cs : Nat → ClassId} {ad : Nat → Nat} (hAd : adOK ad) (sz : Nat) {Ls : Nat → SL} {Hs : SL} {T : SL} {x1 : Int32} {res : SL} (h : f_X3_put T x1 = some res) : Met l yX3_put wsX3_put rmX3_put (PA D cs sz (wA cs ad Ls Hs T) [.ref (ad 3), .int x1]) (va_Qv (fun (_ : Unit) => True) (fun _ t => va_P D vwCl (wA cs ad Ls Hs res) t.heap) (Afr ad sz)) 0 0 (Afr ad sz) :=
  k_met (by decide) rfl (Nat.le_of_ble_eq_true rfl) hAd (fun p e s m below meth c ls C G hP hsz hl hS => by
    subst hsz
    exact w_X3_put_e C G  hP hS hl  h)
end GEN
