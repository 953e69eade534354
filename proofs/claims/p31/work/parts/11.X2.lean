section GEN
variable {p : Program} {l : Launch} {e : Env} {s : State} {m : MethodId} {args : Array Value} {below : List Frame} {meth : Method} {c : Code} {D : va_G} {cs : Nat → ClassId} {ad : Nat → Nat}
/-! X2 copy -/
abbrev rmX2_copy : Room := { frames := 2, cells := 0, slots := 0, locals := 70 }
theorem q_X2_copy_0 : Cond.fieldLink RX2 23 "LineBuffers$Line" "machines" "I" ∈ wsX2_copy := List.mem_of_getElem? (i := 1) rfl
theorem q_X2_copy_1 : Cond.fieldLink RX2 19 "LineBuffers$Line" "stops" "LLineBuffers$Stops;" ∈ wsX2_copy := List.mem_of_getElem? (i := 7) rfl
theorem q_X2_copy_2 : Cond.fieldLink RX2 37 "LineBuffers$Line" "tick" "I" ∈ wsX2_copy := List.mem_of_getElem? (i := 8) rfl
theorem q_X2_copy_3 : Cond.fieldLink RX2 11 "LineBuffers$Line" "rows" "[[I" ∈ wsX2_copy := List.mem_of_getElem? (i := 2) rfl
theorem q_X2_copy_4 : Cond.methodLink RX2 27 arraycopyName ∈ wsX2_copy := List.mem_of_getElem? (i := 3) rfl
theorem q_X2_copy_5 : Cond.native arraycopyName ∈ wsX2_copy := List.mem_of_getElem? (i := 4) rfl
theorem q_X2_copy_6 : Cond.static arraycopyName ∈ wsX2_copy := List.mem_of_getElem? (i := 5) rfl
theorem q_X2_copy_7 : Cond.initialized "java/lang/System" ∈ wsX2_copy := List.mem_of_getElem? (i := 6) rfl
theorem n_X2_copy_X2 : ∀ x ∈ u_ws RX2 TX2 4, x ∈ wsX2_copy := fun x h => List.mem_cons_of_mem _ (List.mem_append_left _ (List.mem_append_right _ h))
set_option maxRecDepth 100000 in
set_option maxHeartbeats 4000000 in
theorem w_X2_copy_b11 {res : (Nat → SL)} (C : Cx p s m args meth c cX2_copy 3 none RX2 wsX2_copy) (G : Gx D cs ad s) {i : Nat} (hi : i < 6) {j : Nat} (hj : j < 6) {Hs : SL} {T : SL} {K11 : (Nat → SL) → Int32 → Option ((Nat → SL))} (hK11 : ∀ {Ls : Nat → SL} {x2 : Int32} {H : Heap} {locs : List Loc} {ls : Array Slot}, va_P D vwCl (wA cs ad Ls Hs T) H → va_S (Afr ad s.heap.size) s.heap H locs → lv_has ls 3 [(0, .ref (ad (5 + 14 * i + 0))), (1, .ref (ad (5 + 14 * j + 0))), (2, .int x2)] → K11 Ls x2 = some res → W p l e rmX2_copy s m args below meth c H locs 0 0 (MQ below (va_Qv (fun (_ : Unit) => True) (fun _ t => va_P D vwCl (wA cs ad res Hs T) t.heap) (Afr ad s.heap.size)) args s 0 0 (Afr ad s.heap.size)) (F0 m 11 ls [])) {Ls : Nat → SL} {x2 : Int32} {H : Heap} {locs : List Loc} {ls : Array Slot} (hP : va_P D vwCl (wA cs ad Ls Hs T) H) (hS : va_S (Afr ad s.heap.size) s.heap H locs) (hl : lv_has ls 3 [(0, .ref (ad (5 + 14 * i + 0))), (1, .ref (ad (5 + 14 * j + 0))), (2, .int x2)]) (h : f_X2_copy_b11 i j K11 Ls x2 = some res) : W p l e rmX2_copy s m args below meth c H locs 0 0 (MQ below (va_Qv (fun (_ : Unit) => True) (fun _ t => va_P D vwCl (wA cs ad res Hs T) t.heap) (Afr ad s.heap.size)) args s 0 0 (Afr ad s.heap.size)) (F0 m 11 ls []) := by
  unfold f_X2_copy_b11 at h
  refine lv_iload_n C.1 C.2.1 dX2_copy_11 rfl (lv_at hl 2 rfl) ?_
  refine lv_aload_n C.1 C.2.1 dX2_copy_12 rfl (lv_at hl 0 rfl) ?_
  obtain ⟨v1, ev1, h⟩ := lt_out h
  refine k_geti C G hP (c_obj (i := i) hi) rfl 2 (by decide) n_X2_copy_X2 q_X2_copy_0 rfl ev1 dX2_copy_13 ?_
  refine lv_icmp_ge (tgt := 44) C.1 C.2.1 dX2_copy_16 (by decide) (fun c2 => ?_) (fun c2 => ?_)
  · have h := if_t c2 h
    refine lv_aload_n C.1 C.2.1 dX2_copy_44 rfl (lv_at hl 0 rfl) ?_
    refine k_getf C G hP (c_obj (i := i) hi) rfl 1 (by decide) n_X2_copy_X2 q_X2_copy_1 (v := .ref (ad (5 + 14 * i + 10))) rfl dX2_copy_45 ?_
    refine lv_aload_n C.1 C.2.1 dX2_copy_48 rfl (lv_at hl 1 rfl) ?_
    refine k_getf C G hP (c_obj (i := j) hj) rfl 1 (by decide) n_X2_copy_X2 q_X2_copy_1 (v := .ref (ad (5 + 14 * j + 10))) rfl dX2_copy_49 ?_
    obtain ⟨Ls3, c4, h⟩ := bd_out h
    refine k_callSv C G hP hS (m_X4_copy l G.2.1 _ (i := i) (j := j) hi hj c4) (va_cwS 2 C.2.2.2.2.2.1 gX2_copy_X4_copy rfl rfl rfl (by decide +kernel) ⟨Nat.le_of_ble_eq_true rfl, Nat.le_of_ble_eq_true rfl⟩) (As := [.ref (ad (5 + 14 * i + 10)), .ref (ad (5 + 14 * j + 10))]) rfl hl.1 rfl (Nat.le_of_ble_eq_true rfl) dX2_copy_52 ⟨Nat.le_of_ble_eq_true rfl, Nat.le_of_ble_eq_true rfl⟩ (fun H locs hP hS => ?_)
    refine lv_aload_n C.1 C.2.1 dX2_copy_55 rfl (lv_at hl 1 rfl) ?_
    refine lv_aload_n C.1 C.2.1 dX2_copy_56 rfl (lv_at hl 0 rfl) ?_
    obtain ⟨v5, ev5, h⟩ := lt_out h
    refine k_geti C G hP (c_obj (i := i) hi) rfl 2 (by decide) n_X2_copy_X2 q_X2_copy_0 rfl ev5 dX2_copy_57 ?_
    obtain ⟨Ls6, eLs6, h⟩ := lt_out h
    refine k_puti C G hP hS (c_obj (i := j) hj) rfl 2 (by decide) n_X2_copy_X2 q_X2_copy_0 tyX2_ok nmX2 rfl (tyX2_ok 2 (by decide)) (Nat.le_of_ble_eq_true rfl) (c_objS2 (i := j) hj) dX2_copy_60 (fun H locs hP hS => ?_)
    rw [← eLs6] at hP
    refine lv_aload_n C.1 C.2.1 dX2_copy_63 rfl (lv_at hl 1 rfl) ?_
    refine lv_aload_n C.1 C.2.1 dX2_copy_64 rfl (lv_at hl 0 rfl) ?_
    obtain ⟨v7, ev7, h⟩ := lt_out h
    refine k_geti C G hP (c_obj (i := i) hi) rfl 3 (by decide) n_X2_copy_X2 q_X2_copy_2 rfl ev7 dX2_copy_65 ?_
    obtain ⟨Ls8, eLs8, h⟩ := lt_out h
    refine k_puti C G hP hS (c_obj (i := j) hj) rfl 3 (by decide) n_X2_copy_X2 q_X2_copy_2 tyX2_ok nmX2 rfl (tyX2_ok 3 (by decide)) (Nat.le_of_ble_eq_true rfl) (c_objS3 (i := j) hj) dX2_copy_68 (fun H locs hP hS => ?_)
    rw [← eLs8] at hP
    cases h
    exact k_vret C hP hS dX2_copy_71
  · have h := if_f c2 h
    refine lv_aload_n C.1 C.2.1 dX2_copy_19 rfl (lv_at hl 0 rfl) ?_
    refine k_getf C G hP (c_obj (i := i) hi) rfl 0 (by decide) n_X2_copy_X2 q_X2_copy_3 (v := .ref (ad (5 + 14 * i + 1))) rfl dX2_copy_20 ?_
    refine lv_iload_n C.1 C.2.1 dX2_copy_23 rfl (lv_at hl 2 rfl) ?_
    obtain ⟨g9, h⟩ := gd_out h
    have g9 := chk_in g9
    obtain ⟨kq10, ekq10, h⟩ := lt_out h
    have hkq10 : 2 ≤ kq10 ∧ kq10 < 10 := row_k g9 ekq10
    refine k_aaldR C G hP (c_rows (i := i) hi) g9 (b := ad (5 + 14 * i + kq10)) (by rw [ekq10]) dX2_copy_24 ?_
    refine lv_iconst (v := 0) C.1 C.2.1 dX2_copy_25 (by decide) ?_
    refine lv_aload_n C.1 C.2.1 dX2_copy_26 rfl (lv_at hl 1 rfl) ?_
    refine k_getf C G hP (c_obj (i := j) hj) rfl 0 (by decide) n_X2_copy_X2 q_X2_copy_3 (v := .ref (ad (5 + 14 * j + 1))) rfl dX2_copy_27 ?_
    refine lv_iload_n C.1 C.2.1 dX2_copy_30 rfl (lv_at hl 2 rfl) ?_
    obtain ⟨kq11, ekq11, h⟩ := lt_out h
    have hkq11 : 2 ≤ kq11 ∧ kq11 < 10 := row_k g9 ekq11
    refine k_aaldR C G hP (c_rows (i := j) hj) g9 (b := ad (5 + 14 * j + kq11)) (by rw [ekq11]) dX2_copy_31 ?_
    refine lv_iconst (v := 0) C.1 C.2.1 dX2_copy_32 (by decide) ?_
    refine lv_bipush (v := 16) C.1 C.2.1 dX2_copy_33 (by decide) ?_
    obtain ⟨Ls12, eLs12, h⟩ := lt_out h
    refine k_copy C G hP hS hl.1 q_X2_copy_4 q_X2_copy_5 q_X2_copy_6 q_X2_copy_7 (c_row (i := i) hi hkq10) (c_row (i := j) hj hkq11) (by decide) (Nat.le_of_ble_eq_true rfl) (Nat.le_of_ble_eq_true rfl) (j := 16) rfl (Nat.le_of_ble_eq_true rfl) (Nat.le_of_ble_eq_true rfl) (c_rowF hj hkq11) dX2_copy_35 (fun H locs hP hS => ?_)
    rw [← eLs12] at hP
    obtain ⟨z13, ez13, h⟩ := lt_out h
    refine lv_iinc (v := z13) (lv' := [(2, .int z13), (0, .ref (ad (5 + 14 * i + 0))), (1, .ref (ad (5 + 14 * j + 0)))]) C.1 C.2.1 dX2_copy_38 hl (k := 2) rfl (by rw [ez13]; rfl) (by decide) rfl (fun ls hl => ?_)
    refine lv_goto (tgt := 11) C.1 C.2.1 dX2_copy_41 (by decide) ?_
    exact hK11 hP hS (lv_sub hl [1, 2, 0] rfl)  h
set_option maxRecDepth 100000 in
set_option maxHeartbeats 4000000 in
theorem w_X2_copy_h11 {res : (Nat → SL)} (C : Cx p s m args meth c cX2_copy 3 none RX2 wsX2_copy) (G : Gx D cs ad s) {i : Nat} (hi : i < 6) {j : Nat} (hj : j < 6) {Hs : SL} {T : SL} : ∀ (n : Nat) {Ls : Nat → SL} {x2 : Int32} {H : Heap} {locs : List Loc} {ls : Array Slot}, va_P D vwCl (wA cs ad Ls Hs T) H → va_S (Afr ad s.heap.size) s.heap H locs → lv_has ls 3 [(0, .ref (ad (5 + 14 * i + 0))), (1, .ref (ad (5 + 14 * j + 0))), (2, .int x2)] → f_X2_copy_h11 i j n Ls x2 = some res → W p l e rmX2_copy s m args below meth c H locs 0 0 (MQ below (va_Qv (fun (_ : Unit) => True) (fun _ t => va_P D vwCl (wA cs ad res Hs T) t.heap) (Afr ad s.heap.size)) args s 0 0 (Afr ad s.heap.size)) (F0 m 11 ls []) := by
  intro n
  induction n with
  | zero => intro Ls x2 H locs ls hP hS hl  h; cases h
  | succ n ih => intro Ls x2 H locs ls hP hS hl  h; exact w_X2_copy_b11 C G  hi hj  ih hP hS hl  h
set_option maxRecDepth 100000 in
set_option maxHeartbeats 4000000 in
theorem w_X2_copy_e {res : (Nat → SL)} (C : Cx p s m args meth c cX2_copy 3 none RX2 wsX2_copy) (G : Gx D cs ad s) {i : Nat} (hi : i < 6) {j : Nat} (hj : j < 6) {Hs : SL} {T : SL} {Ls : Nat → SL} {H : Heap} {locs : List Loc} {ls : Array Slot} (hP : va_P D vwCl (wA cs ad Ls Hs T) H) (hS : va_S (Afr ad s.heap.size) s.heap H locs) (hl : lv_has ls 3 [(0, .ref (ad (5 + 14 * i + 0))), (1, .ref (ad (5 + 14 * j + 0)))]) (h : f_X2_copy i j Ls = some res) : W p l e rmX2_copy s m args below meth c H locs 0 0 (MQ below (va_Qv (fun (_ : Unit) => True) (fun _ t => va_P D vwCl (wA cs ad res Hs T) t.heap) (Afr ad s.heap.size)) args s 0 0 (Afr ad s.heap.size)) (F0 m 0 ls []) := by
  unfold f_X2_copy at h
  refine lv_aload_n C.1 C.2.1 dX2_copy_0 rfl (lv_at hl 0 rfl) ?_
  refine lv_ifnull C.1 C.2.1 dX2_copy_1 ?_
  refine lv_aload_n C.1 C.2.1 dX2_copy_4 rfl (lv_at hl 1 rfl) ?_
  refine lv_ifnonnull (tgt := 9) C.1 C.2.1 dX2_copy_5 (by decide) ?_
  refine lv_iconst (v := 0) C.1 C.2.1 dX2_copy_9 (by decide) ?_
  refine lv_istore_n (lv' := [(2, .int 0), (0, .ref (ad (5 + 14 * i + 0))), (1, .ref (ad (5 + 14 * j + 0)))]) C.1 C.2.1 dX2_copy_10 rfl hl (by decide) rfl (fun ls hl => ?_)
  exact w_X2_copy_h11 C G hi hj fuel hP hS (lv_sub hl [1, 2, 0] rfl) h
set_option maxRecDepth 100000 in
set_option maxHeartbeats 4000000 in
theorem m_X2_copy (l : Launch) {D : va_G} {cs : Nat → ClassId} {ad : Nat → Nat} (hAd : adOK ad) (sz : Nat) {i : Nat} (hi : i < 6) {j : Nat} (hj : j < 6) {Ls : Nat → SL} {Hs : SL} {T : SL} {res : (Nat → SL)} (h : f_X2_copy i j Ls = some res) : Met l yX2_copy wsX2_copy rmX2_copy (PA D cs sz (wA cs ad Ls Hs T) [.ref (ad (5 + 14 * i + 0)), .ref (ad (5 + 14 * j + 0))]) (va_Qv (fun (_ : Unit) => True) (fun _ t => va_P D vwCl (wA cs ad res Hs T) t.heap) (Afr ad sz)) 0 0 (Afr ad sz) :=
  k_met (by decide) rfl (Nat.le_of_ble_eq_true rfl) hAd (fun p e s m below meth c ls C G hP hsz hl hS => by
    subst hsz
    exact w_X2_copy_e C G hi hj hP hS hl  h)
/-! X2 empty -/
abbrev rmX2_empty : Room := { frames := 0, cells := 0, slots := 0, locals := 0 }
set_option maxRecDepth 100000 in
set_option maxHeartbeats 4000000 in
theorem w_X2_empty_b2 {res : SL} (C : Cx p s m args meth c cX2_empty 2 none RX2 wsX2_empty) (G : Gx D cs ad s) {i : Nat} (hi : i < 6) {Ls : Nat → SL} {Hs : SL} {T : SL} {K2 : SL → Nat → Int32 → Option (SL)} (hK2 : ∀ {L : SL} {k0 : Nat} {x1 : Int32} {H : Heap} {locs : List Loc} {ls : Array Slot}, va_P D vwCl (wA cs ad (va_up Ls i L) Hs T) H → va_S (Afr ad s.heap.size) s.heap H locs → lv_has ls 2 [(0, .ref (ad (5 + 14 * i + k0))), (1, .int x1)] → (2 ≤ k0 ∧ k0 < 10) → K2 L k0 x1 = some res → W p l e rmX2_empty s m args below meth c H locs 0 0 (MQ below (va_Qv (fun (_ : Unit) => True) (fun _ t => va_P D vwCl (wA cs ad (va_up Ls i res) Hs T) t.heap) (Afr ad s.heap.size)) args s 0 0 (Afr ad s.heap.size)) (F0 m 2 ls [])) {L : SL} {k0 : Nat} {x1 : Int32} {H : Heap} {locs : List Loc} {ls : Array Slot} (hP : va_P D vwCl (wA cs ad (va_up Ls i L) Hs T) H) (hS : va_S (Afr ad s.heap.size) s.heap H locs) (hl : lv_has ls 2 [(0, .ref (ad (5 + 14 * i + k0))), (1, .int x1)]) (hk0 : 2 ≤ k0 ∧ k0 < 10) (h : f_X2_empty_b2 K2 L k0 x1 = some res) : W p l e rmX2_empty s m args below meth c H locs 0 0 (MQ below (va_Qv (fun (_ : Unit) => True) (fun _ t => va_P D vwCl (wA cs ad (va_up Ls i res) Hs T) t.heap) (Afr ad s.heap.size)) args s 0 0 (Afr ad s.heap.size)) (F0 m 2 ls []) := by
  unfold f_X2_empty_b2 at h
  refine lv_iload_n C.1 C.2.1 dX2_empty_2 rfl (lv_at hl 1 rfl) ?_
  refine lv_bipush (v := 16) C.1 C.2.1 dX2_empty_3 (by decide) ?_
  refine lv_icmp_ge (tgt := 18) C.1 C.2.1 dX2_empty_5 (by decide) (fun c1 => ?_) (fun c1 => ?_)
  · have h := if_t c1 h
    refine lv_aload_n C.1 C.2.1 dX2_empty_18 rfl (lv_at hl 0 rfl) ?_
    refine lv_bipush (v := 6) C.1 C.2.1 dX2_empty_19 (by decide) ?_
    refine lv_iconst (v := (-1)) C.1 C.2.1 dX2_empty_21 (by decide) ?_
    obtain ⟨L2, eL2, h⟩ := lt_out h
    refine k_iast C G hP hS (v_row (i := i) hi hk0) (chk_in rfl) (j := 6) rfl (v_rowS (i := i) hi hk0) dX2_empty_22 (fun H locs hP hS => ?_)
    rw [← eL2] at hP
    refine lv_aload_n C.1 C.2.1 dX2_empty_23 rfl (lv_at hl 0 rfl) ?_
    refine lv_bipush (v := 7) C.1 C.2.1 dX2_empty_24 (by decide) ?_
    refine lv_iconst (v := 1) C.1 C.2.1 dX2_empty_26 (by decide) ?_
    obtain ⟨L3, eL3, h⟩ := lt_out h
    refine k_iast C G hP hS (v_row (i := i) hi hk0) (chk_in rfl) (j := 7) rfl (v_rowS (i := i) hi hk0) dX2_empty_27 (fun H locs hP hS => ?_)
    rw [← eL3] at hP
    cases h
    exact k_vret C hP hS dX2_empty_28
  · have h := if_f c1 h
    refine lv_aload_n C.1 C.2.1 dX2_empty_8 rfl (lv_at hl 0 rfl) ?_
    refine lv_iload_n C.1 C.2.1 dX2_empty_9 rfl (lv_at hl 1 rfl) ?_
    refine lv_iconst (v := 0) C.1 C.2.1 dX2_empty_10 (by decide) ?_
    obtain ⟨g4, h⟩ := gd_out h
    have g4 := chk_in g4
    obtain ⟨L5, eL5, h⟩ := lt_out h
    refine k_iast C G hP hS (v_row (i := i) hi hk0) g4 (j := x1.toNatClampNeg) rfl (v_rowS (i := i) hi hk0) dX2_empty_11 (fun H locs hP hS => ?_)
    rw [← eL5] at hP
    obtain ⟨z6, ez6, h⟩ := lt_out h
    refine lv_iinc (v := z6) (lv' := [(1, .int z6), (0, .ref (ad (5 + 14 * i + k0)))]) C.1 C.2.1 dX2_empty_12 hl (k := 1) rfl (by rw [ez6]; rfl) (by decide) rfl (fun ls hl => ?_)
    refine lv_goto (tgt := 2) C.1 C.2.1 dX2_empty_15 (by decide) ?_
    exact hK2 hP hS (lv_sub hl [1, 0] rfl) hk0 h
set_option maxRecDepth 100000 in
set_option maxHeartbeats 4000000 in
theorem w_X2_empty_h2 {res : SL} (C : Cx p s m args meth c cX2_empty 2 none RX2 wsX2_empty) (G : Gx D cs ad s) {i : Nat} (hi : i < 6) {Ls : Nat → SL} {Hs : SL} {T : SL} : ∀ (n : Nat) {L : SL} {k0 : Nat} {x1 : Int32} {H : Heap} {locs : List Loc} {ls : Array Slot}, va_P D vwCl (wA cs ad (va_up Ls i L) Hs T) H → va_S (Afr ad s.heap.size) s.heap H locs → lv_has ls 2 [(0, .ref (ad (5 + 14 * i + k0))), (1, .int x1)] → (2 ≤ k0 ∧ k0 < 10) → f_X2_empty_h2 n L k0 x1 = some res → W p l e rmX2_empty s m args below meth c H locs 0 0 (MQ below (va_Qv (fun (_ : Unit) => True) (fun _ t => va_P D vwCl (wA cs ad (va_up Ls i res) Hs T) t.heap) (Afr ad s.heap.size)) args s 0 0 (Afr ad s.heap.size)) (F0 m 2 ls []) := by
  intro n
  induction n with
  | zero => intro L k0 x1 H locs ls hP hS hl hk0 h; cases h
  | succ n ih => intro L k0 x1 H locs ls hP hS hl hk0 h; exact w_X2_empty_b2 C G  hi  ih hP hS hl hk0 h
set_option maxRecDepth 100000 in
set_option maxHeartbeats 4000000 in
theorem w_X2_empty_e {res : SL} (C : Cx p s m args meth c cX2_empty 2 none RX2 wsX2_empty) (G : Gx D cs ad s) {i : Nat} (hi : i < 6) {Ls : Nat → SL} {Hs : SL} {T : SL} {L : SL} {k0 : Nat} {H : Heap} {locs : List Loc} {ls : Array Slot} (hP : va_P D vwCl (wA cs ad (va_up Ls i L) Hs T) H) (hS : va_S (Afr ad s.heap.size) s.heap H locs) (hl : lv_has ls 2 [(0, .ref (ad (5 + 14 * i + k0)))]) (hk0 : 2 ≤ k0 ∧ k0 < 10) (h : f_X2_empty k0 L = some res) : W p l e rmX2_empty s m args below meth c H locs 0 0 (MQ below (va_Qv (fun (_ : Unit) => True) (fun _ t => va_P D vwCl (wA cs ad (va_up Ls i res) Hs T) t.heap) (Afr ad s.heap.size)) args s 0 0 (Afr ad s.heap.size)) (F0 m 0 ls []) := by
  unfold f_X2_empty at h
  refine lv_iconst (v := 5) C.1 C.2.1 dX2_empty_0 (by decide) ?_
  refine lv_istore_n (lv' := [(1, .int 5), (0, .ref (ad (5 + 14 * i + k0)))]) C.1 C.2.1 dX2_empty_1 rfl hl (by decide) rfl (fun ls hl => ?_)
  exact w_X2_empty_h2 C G hi fuel hP hS (lv_sub hl [1, 0] rfl) hk0 h
set_option maxRecDepth 100000 in
set_option maxHeartbeats 4000000 in
theorem m_X2_empty (l : Launch) {D : va_G} {cs : Nat → ClassId} {ad : Nat → Nat} (hAd : adOK ad) (sz : Nat) {i : Nat} (hi : i < 6) {k0 : Nat} (hk0 : 2 ≤ k0 ∧ k0 < 10) {Ls : Nat → SL} {Hs : SL} {T : SL} {L : SL} {res : SL} (h : f_X2_empty k0 L = some res) : Met l yX2_empty wsX2_empty rmX2_empty (PA D cs sz (wA cs ad (va_up Ls i L) Hs T) [.ref (ad (5 + 14 * i + k0))]) (va_Qv (fun (_ : Unit) => True) (fun _ t => va_P D vwCl (wA cs ad (va_up Ls i res) Hs T) t.heap) (Afr ad sz)) 0 0 (Afr ad sz) :=
  k_met (by decide) rfl (Nat.le_of_ble_eq_true rfl) hAd (fun p e s m below meth c ls C G hP hsz hl hS => by
    subst hsz
    exact w_X2_empty_e C G hi hP hS hl hk0 h)
/-! X2 join -/
abbrev rmX2_join : Room := { frames := 1, cells := 0, slots := 0, locals := 21 }
theorem q_X2_join_0 : Cond.fieldLink RX2 23 "LineBuffers$Line" "machines" "I" ∈ wsX2_join := List.mem_of_getElem? (i := 1) rfl
theorem q_X2_join_1 : Cond.fieldLink RX2 11 "LineBuffers$Line" "rows" "[[I" ∈ wsX2_join := List.mem_of_getElem? (i := 2) rfl
theorem n_X2_join_X2 : ∀ x ∈ u_ws RX2 TX2 4, x ∈ wsX2_join := fun x h => List.mem_cons_of_mem _ (List.mem_append_right _ h)
set_option maxRecDepth 100000 in
set_option maxHeartbeats 4000000 in
theorem w_X2_join_e {res : Int32 × SL} (C : Cx p s m args meth c cX2_join 5 (some .int) RX2 wsX2_join) (G : Gx D cs ad s) {i : Nat} (hi : i < 6) {Ls : Nat → SL} {Hs : SL} {T : SL} {L : SL} {x1 : Int32} {x2 : Int32} {x3 : Int32} {H : Heap} {locs : List Loc} {ls : Array Slot} (hP : va_P D vwCl (wA cs ad (va_up Ls i L) Hs T) H) (hS : va_S (Afr ad s.heap.size) s.heap H locs) (hl : lv_has ls 5 [(0, .ref (ad (5 + 14 * i + 0))), (1, .int x1), (2, .int x2), (3, .int x3)]) (h : f_X2_join L x1 x2 x3 = some res) : W p l e rmX2_join s m args below meth c H locs 0 0 (MQ below (va_Qi (fun r' (_ : Unit) => r' = res.1) (fun _ t => va_P D vwCl (wA cs ad (va_up Ls i res.2) Hs T) t.heap) (Afr ad s.heap.size)) args s 0 0 (Afr ad s.heap.size)) (F0 m 0 ls []) := by
  unfold f_X2_join at h
  refine lv_aload_n C.1 C.2.1 dX2_join_0 rfl (lv_at hl 0 rfl) ?_
  obtain ⟨v1, ev1, h⟩ := lt_out h
  refine k_geti C G hP (v_obj (i := i) hi) rfl 2 (by decide) n_X2_join_X2 q_X2_join_0 rfl ev1 dX2_join_1 ?_
  refine lv_bipush (v := 8) C.1 C.2.1 dX2_join_4 (by decide) ?_
  refine lv_icmp_lt (tgt := 11) C.1 C.2.1 dX2_join_6 (by decide) (fun c2 => ?_) (fun c2 => ?_)
  · have h := if_t c2 h
    refine lv_aload_n C.1 C.2.1 dX2_join_11 rfl (lv_at hl 0 rfl) ?_
    refine k_getf C G hP (v_obj (i := i) hi) rfl 0 (by decide) n_X2_join_X2 q_X2_join_1 (v := .ref (ad (5 + 14 * i + 1))) rfl dX2_join_12 ?_
    refine lv_aload_n C.1 C.2.1 dX2_join_15 rfl (lv_at hl 0 rfl) ?_
    obtain ⟨v3, ev3, h⟩ := lt_out h
    refine k_geti C G hP (v_obj (i := i) hi) rfl 2 (by decide) n_X2_join_X2 q_X2_join_0 rfl ev3 dX2_join_16 ?_
    obtain ⟨g4, h⟩ := gd_out h
    have g4 := chk_in g4
    obtain ⟨kq5, ekq5, h⟩ := lt_out h
    have hkq5 : 2 ≤ kq5 ∧ kq5 < 10 := row_k g4 ekq5
    refine k_aaldR C G hP (v_rows (i := i) hi) g4 (b := ad (5 + 14 * i + kq5)) (by rw [ekq5]) dX2_join_19 ?_
    refine lv_astore (lv' := [(4, .ref (ad (5 + 14 * i + kq5))), (0, .ref (ad (5 + 14 * i + 0))), (1, .int x1), (2, .int x2), (3, .int x3)]) C.1 C.2.1 dX2_join_20 hl (by decide) rfl (fun ls hl => ?_)
    refine lv_aload C.1 C.2.1 dX2_join_22 (lv_at hl 0 rfl) ?_
    refine lv_iconst (v := 0) C.1 C.2.1 dX2_join_24 (by decide) ?_
    refine lv_iload_n C.1 C.2.1 dX2_join_25 rfl (lv_at hl 2 rfl) ?_
    obtain ⟨L6, eL6, h⟩ := lt_out h
    refine k_iast C G hP hS (v_row (i := i) hi hkq5) (chk_in rfl) (j := 0) rfl (v_rowS (i := i) hi hkq5) dX2_join_26 (fun H locs hP hS => ?_)
    rw [← eL6] at hP
    refine lv_aload C.1 C.2.1 dX2_join_27 (lv_at hl 0 rfl) ?_
    refine lv_iconst (v := 1) C.1 C.2.1 dX2_join_29 (by decide) ?_
    refine lv_iload_n C.1 C.2.1 dX2_join_30 rfl (lv_at hl 3 rfl) ?_
    obtain ⟨L7, eL7, h⟩ := lt_out h
    refine k_iast C G hP hS (v_row (i := i) hi hkq5) (chk_in rfl) (j := 1) rfl (v_rowS (i := i) hi hkq5) dX2_join_31 (fun H locs hP hS => ?_)
    rw [← eL7] at hP
    refine lv_aload C.1 C.2.1 dX2_join_32 (lv_at hl 0 rfl) ?_
    refine lv_iconst (v := 2) C.1 C.2.1 dX2_join_34 (by decide) ?_
    refine lv_iconst (v := 0) C.1 C.2.1 dX2_join_35 (by decide) ?_
    obtain ⟨L8, eL8, h⟩ := lt_out h
    refine k_iast C G hP hS (v_row (i := i) hi hkq5) (chk_in rfl) (j := 2) rfl (v_rowS (i := i) hi hkq5) dX2_join_36 (fun H locs hP hS => ?_)
    rw [← eL8] at hP
    refine lv_aload C.1 C.2.1 dX2_join_37 (lv_at hl 0 rfl) ?_
    refine lv_iconst (v := 3) C.1 C.2.1 dX2_join_39 (by decide) ?_
    refine lv_bipush (v := 40) C.1 C.2.1 dX2_join_40 (by decide) ?_
    obtain ⟨L9, eL9, h⟩ := lt_out h
    refine k_iast C G hP hS (v_row (i := i) hi hkq5) (chk_in rfl) (j := 3) rfl (v_rowS (i := i) hi hkq5) dX2_join_42 (fun H locs hP hS => ?_)
    rw [← eL9] at hP
    refine lv_aload C.1 C.2.1 dX2_join_43 (lv_at hl 0 rfl) ?_
    refine lv_iconst (v := 4) C.1 C.2.1 dX2_join_45 (by decide) ?_
    refine lv_iload_n C.1 C.2.1 dX2_join_46 rfl (lv_at hl 4 rfl) ?_
    obtain ⟨L10, eL10, h⟩ := lt_out h
    refine k_iast C G hP hS (v_row (i := i) hi hkq5) (chk_in rfl) (j := 4) rfl (v_rowS (i := i) hi hkq5) dX2_join_47 (fun H locs hP hS => ?_)
    rw [← eL10] at hP
    refine lv_aload C.1 C.2.1 dX2_join_48 (lv_at hl 0 rfl) ?_
    obtain ⟨L11, c12, h⟩ := bd_out h
    refine k_callSv C G hP hS (m_X2_empty l G.2.1 _ (i := i) hi hkq5 c12) (va_cwS 1 C.2.2.2.2.2.1 gX2_join_X2_empty rfl rfl rfl (by decide +kernel) ⟨Nat.le_of_ble_eq_true rfl, Nat.le_of_ble_eq_true rfl⟩) (As := [.ref (ad (5 + 14 * i + kq5))]) rfl hl.1 rfl (Nat.le_of_ble_eq_true rfl) dX2_join_50 ⟨Nat.le_of_ble_eq_true rfl, Nat.le_of_ble_eq_true rfl⟩ (fun H locs hP hS => ?_)
    refine lv_aload_n C.1 C.2.1 dX2_join_53 rfl (lv_at hl 1 rfl) ?_
    refine lv_dup C.1 C.2.1 dX2_join_54 rfl ?_
    obtain ⟨v13, ev13, h⟩ := lt_out h
    refine k_geti C G hP (v_obj (i := i) hi) rfl 2 (by decide) n_X2_join_X2 q_X2_join_0 rfl ev13 dX2_join_55 ?_
    refine lv_iconst (v := 1) C.1 C.2.1 dX2_join_58 (by decide) ?_
    obtain ⟨v14, ev14, h⟩ := lt_out h
    refine k_iadd C ev14 dX2_join_59 ?_
    obtain ⟨L15, eL15, h⟩ := lt_out h
    refine k_puti C G hP hS (v_obj (i := i) hi) rfl 2 (by decide) n_X2_join_X2 q_X2_join_0 tyX2_ok nmX2 rfl (tyX2_ok 2 (by decide)) (Nat.le_of_ble_eq_true rfl) (v_objS2 (i := i) hi) dX2_join_60 (fun H locs hP hS => ?_)
    rw [← eL15] at hP
    refine lv_aload_n C.1 C.2.1 dX2_join_63 rfl (lv_at hl 1 rfl) ?_
    obtain ⟨v16, ev16, h⟩ := lt_out h
    refine k_geti C G hP (v_obj (i := i) hi) rfl 2 (by decide) n_X2_join_X2 q_X2_join_0 rfl ev16 dX2_join_64 ?_
    refine lv_iconst (v := 1) C.1 C.2.1 dX2_join_67 (by decide) ?_
    obtain ⟨v17, ev17, h⟩ := lt_out h
    refine k_isub C ev17 dX2_join_68 ?_
    cases h
    exact k_iret C hP hS dX2_join_69
  · have h := if_f c2 h
    refine lv_iconst (v := (-1)) C.1 C.2.1 dX2_join_9 (by decide) ?_
    cases h
    exact k_iret C hP hS dX2_join_10
set_option maxRecDepth 100000 in
set_option maxHeartbeats 4000000 in
theorem m_X2_join (l : Launch) {D : va_G} {cs : Nat → ClassId} {ad : Nat → Nat} (hAd : adOK ad) (sz : Nat) {i : Nat} (hi : i < 6) {Ls : Nat → SL} {Hs : SL} {T : SL} {L : SL} {x1 : Int32} {x2 : Int32} {x3 : Int32} {res : Int32 × SL} (h : f_X2_join L x1 x2 x3 = some res) : Met l yX2_join wsX2_join rmX2_join (PA D cs sz (wA cs ad (va_up Ls i L) Hs T) [.ref (ad (5 + 14 * i + 0)), .int x1, .int x2, .int x3]) (va_Qi (fun r' (_ : Unit) => r' = res.1) (fun _ t => va_P D vwCl (wA cs ad (va_up Ls i res.2) Hs T) t.heap) (Afr ad sz)) 0 0 (Afr ad sz) :=
  k_met (by decide) rfl (Nat.le_of_ble_eq_true rfl) hAd (fun p e s m below meth c ls C G hP hsz hl hS => by
    subst hsz
    exact w_X2_join_e C G hi hP hS hl  h)
/-! X2 mark -/
abbrev rmX2_mark : Room := { frames := 0, cells := 0, slots := 0, locals := 0 }
theorem q_X2_mark_0 : Cond.fieldLink RX2 23 "LineBuffers$Line" "machines" "I" ∈ wsX2_mark := List.mem_of_getElem? (i := 1) rfl
theorem q_X2_mark_1 : Cond.fieldLink RX2 11 "LineBuffers$Line" "rows" "[[I" ∈ wsX2_mark := List.mem_of_getElem? (i := 2) rfl
theorem n_X2_mark_X2 : ∀ x ∈ u_ws RX2 TX2 4, x ∈ wsX2_mark := fun x h => List.mem_cons_of_mem _ (List.mem_append_right _ h)
set_option maxRecDepth 100000 in
set_option maxHeartbeats 4000000 in
theorem w_X2_mark_e {res : SL} (C : Cx p s m args meth c cX2_mark 4 none RX2 wsX2_mark) (G : Gx D cs ad s) {i : Nat} (hi : i < 6) {Ls : Nat → SL} {Hs : SL} {T : SL} {L : SL} {x1 : Int32} {x2 : Int32} {x3 : Int32} {H : Heap} {locs : List Loc} {ls : Array Slot} (hP : va_P D vwCl (wA cs ad (va_up Ls i L) Hs T) H) (hS : va_S (Afr ad s.heap.size) s.heap H locs) (hl : lv_has ls 4 [(0, .ref (ad (5 + 14 * i + 0))), (1, .int x1), (2, .int x2), (3, .int x3)]) (h : f_X2_mark L x1 x2 x3 = some res) : W p l e rmX2_mark s m args below meth c H locs 0 0 (MQ below (va_Qv (fun (_ : Unit) => True) (fun _ t => va_P D vwCl (wA cs ad (va_up Ls i res) Hs T) t.heap) (Afr ad s.heap.size)) args s 0 0 (Afr ad s.heap.size)) (F0 m 0 ls []) := by
  unfold f_X2_mark at h
  refine lv_iload_n C.1 C.2.1 dX2_mark_0 rfl (lv_at hl 1 rfl) ?_
  refine lv_if_lt (tgt := 30) C.1 C.2.1 dX2_mark_1 (by decide) (fun c1 => ?_) (fun c1 => ?_)
  · have h := if_t c1 h
    cases h
    exact k_vret C hP hS dX2_mark_30
  · have h := if_f c1 h
    refine lv_iload_n C.1 C.2.1 dX2_mark_4 rfl (lv_at hl 1 rfl) ?_
    refine lv_aload_n C.1 C.2.1 dX2_mark_5 rfl (lv_at hl 0 rfl) ?_
    obtain ⟨v2, ev2, h⟩ := lt_out h
    refine k_geti C G hP (v_obj (i := i) hi) rfl 2 (by decide) n_X2_mark_X2 q_X2_mark_0 rfl ev2 dX2_mark_6 ?_
    refine lv_icmp_ge (tgt := 30) C.1 C.2.1 dX2_mark_9 (by decide) (fun c3 => ?_) (fun c3 => ?_)
    · have h := if_t c3 h
      cases h
      exact k_vret C hP hS dX2_mark_30
    · have h := if_f c3 h
      refine lv_aload_n C.1 C.2.1 dX2_mark_12 rfl (lv_at hl 0 rfl) ?_
      refine k_getf C G hP (v_obj (i := i) hi) rfl 0 (by decide) n_X2_mark_X2 q_X2_mark_1 (v := .ref (ad (5 + 14 * i + 1))) rfl dX2_mark_13 ?_
      refine lv_iload_n C.1 C.2.1 dX2_mark_16 rfl (lv_at hl 1 rfl) ?_
      obtain ⟨g4, h⟩ := gd_out h
      have g4 := chk_in g4
      obtain ⟨kq5, ekq5, h⟩ := lt_out h
      have hkq5 : 2 ≤ kq5 ∧ kq5 < 10 := row_k g4 ekq5
      refine k_aaldR C G hP (v_rows (i := i) hi) g4 (b := ad (5 + 14 * i + kq5)) (by rw [ekq5]) dX2_mark_17 ?_
      refine lv_iconst (v := 2) C.1 C.2.1 dX2_mark_18 (by decide) ?_
      refine lv_iload_n C.1 C.2.1 dX2_mark_19 rfl (lv_at hl 2 rfl) ?_
      obtain ⟨L6, eL6, h⟩ := lt_out h
      refine k_iast C G hP hS (v_row (i := i) hi hkq5) (chk_in rfl) (j := 2) rfl (v_rowS (i := i) hi hkq5) dX2_mark_20 (fun H locs hP hS => ?_)
      rw [← eL6] at hP
      refine lv_aload_n C.1 C.2.1 dX2_mark_21 rfl (lv_at hl 0 rfl) ?_
      refine k_getf C G hP (v_obj (i := i) hi) rfl 0 (by decide) n_X2_mark_X2 q_X2_mark_1 (v := .ref (ad (5 + 14 * i + 1))) rfl dX2_mark_22 ?_
      refine lv_iload_n C.1 C.2.1 dX2_mark_25 rfl (lv_at hl 1 rfl) ?_
      obtain ⟨kq7, ekq7, h⟩ := lt_out h
      have hkq7 : 2 ≤ kq7 ∧ kq7 < 10 := row_k g4 ekq7
      refine k_aaldR C G hP (v_rows (i := i) hi) g4 (b := ad (5 + 14 * i + kq7)) (by rw [ekq7]) dX2_mark_26 ?_
      refine lv_iconst (v := 3) C.1 C.2.1 dX2_mark_27 (by decide) ?_
      refine lv_iload_n C.1 C.2.1 dX2_mark_28 rfl (lv_at hl 3 rfl) ?_
      obtain ⟨L8, eL8, h⟩ := lt_out h
      refine k_iast C G hP hS (v_row (i := i) hi hkq7) (chk_in rfl) (j := 3) rfl (v_rowS (i := i) hi hkq7) dX2_mark_29 (fun H locs hP hS => ?_)
      rw [← eL8] at hP
      cases h
      exact k_vret C hP hS dX2_mark_30
set_option maxRecDepth 100000 in
set_option maxHeartbeats 4000000 in
theorem m_X2_mark (l : Launch) {D : va_G} {cs : Nat → ClassId} {ad : Nat → Nat} (hAd : adOK ad) (sz : Nat) {i : Nat} (hi : i < 6) {Ls : Nat → SL} {Hs : SL} {T : SL} {L : SL} {x1 : Int32} {x2 : Int32} {x3 : Int32} {res : SL} (h : f_X2_mark L x1 x2 x3 = some res) : Met l yX2_mark wsX2_mark rmX2_mark (PA D cs sz (wA cs ad (va_up Ls i L) Hs T) [.ref (ad (5 + 14 * i + 0)), .int x1, .int x2, .int x3]) (va_Qv (fun (_ : Unit) => True) (fun _ t => va_P D vwCl (wA cs ad (va_up Ls i res) Hs T) t.heap) (Afr ad sz)) 0 0 (Afr ad sz) :=
  k_met (by decide) rfl (Nat.le_of_ble_eq_true rfl) hAd (fun p e s m below meth c ls C G hP hsz hl hS => by
    subst hsz
    exact w_X2_mark_e C G hi hP hS hl  h)
/-! X2 beginAnew -/
abbrev rmX2_beginAnew : Room := { frames := 1, cells := 0, slots := 0, locals := 21 }
theorem q_X2_beginAnew_0 : Cond.fieldLink RX2 37 "LineBuffers$Line" "tick" "I" ∈ wsX2_beginAnew := List.mem_of_getElem? (i := 1) rfl
theorem q_X2_beginAnew_1 : Cond.fieldLink RX2 23 "LineBuffers$Line" "machines" "I" ∈ wsX2_beginAnew := List.mem_of_getElem? (i := 2) rfl
theorem q_X2_beginAnew_2 : Cond.fieldLink RX2 11 "LineBuffers$Line" "rows" "[[I" ∈ wsX2_beginAnew := List.mem_of_getElem? (i := 3) rfl
theorem n_X2_beginAnew_X2 : ∀ x ∈ u_ws RX2 TX2 4, x ∈ wsX2_beginAnew := fun x h => List.mem_cons_of_mem _ (List.mem_append_right _ h)
set_option maxRecDepth 100000 in
set_option maxHeartbeats 4000000 in
theorem w_X2_beginAnew_b7 {res : SL} (C : Cx p s m args meth c cX2_beginAnew 2 none RX2 wsX2_beginAnew) (G : Gx D cs ad s) {i : Nat} (hi : i < 6) {Ls : Nat → SL} {Hs : SL} {T : SL} {K7 : SL → Int32 → Option (SL)} (hK7 : ∀ {L : SL} {x1 : Int32} {H : Heap} {locs : List Loc} {ls : Array Slot}, va_P D vwCl (wA cs ad (va_up Ls i L) Hs T) H → va_S (Afr ad s.heap.size) s.heap H locs → lv_has ls 2 [(0, .ref (ad (5 + 14 * i + 0))), (1, .int x1)] → K7 L x1 = some res → W p l e rmX2_beginAnew s m args below meth c H locs 0 0 (MQ below (va_Qv (fun (_ : Unit) => True) (fun _ t => va_P D vwCl (wA cs ad (va_up Ls i res) Hs T) t.heap) (Afr ad s.heap.size)) args s 0 0 (Afr ad s.heap.size)) (F0 m 7 ls [])) {L : SL} {x1 : Int32} {H : Heap} {locs : List Loc} {ls : Array Slot} (hP : va_P D vwCl (wA cs ad (va_up Ls i L) Hs T) H) (hS : va_S (Afr ad s.heap.size) s.heap H locs) (hl : lv_has ls 2 [(0, .ref (ad (5 + 14 * i + 0))), (1, .int x1)]) (h : f_X2_beginAnew_b7 K7 L x1 = some res) : W p l e rmX2_beginAnew s m args below meth c H locs 0 0 (MQ below (va_Qv (fun (_ : Unit) => True) (fun _ t => va_P D vwCl (wA cs ad (va_up Ls i res) Hs T) t.heap) (Afr ad s.heap.size)) args s 0 0 (Afr ad s.heap.size)) (F0 m 7 ls []) := by
  unfold f_X2_beginAnew_b7 at h
  refine lv_iload_n C.1 C.2.1 dX2_beginAnew_7 rfl (lv_at hl 1 rfl) ?_
  refine lv_aload_n C.1 C.2.1 dX2_beginAnew_8 rfl (lv_at hl 0 rfl) ?_
  obtain ⟨v1, ev1, h⟩ := lt_out h
  refine k_geti C G hP (v_obj (i := i) hi) rfl 2 (by decide) n_X2_beginAnew_X2 q_X2_beginAnew_1 rfl ev1 dX2_beginAnew_9 ?_
  refine lv_icmp_ge (tgt := 30) C.1 C.2.1 dX2_beginAnew_12 (by decide) (fun c2 => ?_) (fun c2 => ?_)
  · have h := if_t c2 h
    cases h
    exact k_vret C hP hS dX2_beginAnew_30
  · have h := if_f c2 h
    refine lv_aload_n C.1 C.2.1 dX2_beginAnew_15 rfl (lv_at hl 0 rfl) ?_
    refine k_getf C G hP (v_obj (i := i) hi) rfl 0 (by decide) n_X2_beginAnew_X2 q_X2_beginAnew_2 (v := .ref (ad (5 + 14 * i + 1))) rfl dX2_beginAnew_16 ?_
    refine lv_iload_n C.1 C.2.1 dX2_beginAnew_19 rfl (lv_at hl 1 rfl) ?_
    obtain ⟨g3, h⟩ := gd_out h
    have g3 := chk_in g3
    obtain ⟨kq4, ekq4, h⟩ := lt_out h
    have hkq4 : 2 ≤ kq4 ∧ kq4 < 10 := row_k g3 ekq4
    refine k_aaldR C G hP (v_rows (i := i) hi) g3 (b := ad (5 + 14 * i + kq4)) (by rw [ekq4]) dX2_beginAnew_20 ?_
    obtain ⟨L5, c6, h⟩ := bd_out h
    refine k_callSv C G hP hS (m_X2_empty l G.2.1 _ (i := i) hi hkq4 c6) (va_cwS 1 C.2.2.2.2.2.1 gX2_beginAnew_X2_empty rfl rfl rfl (by decide +kernel) ⟨Nat.le_of_ble_eq_true rfl, Nat.le_of_ble_eq_true rfl⟩) (As := [.ref (ad (5 + 14 * i + kq4))]) rfl hl.1 rfl (Nat.le_of_ble_eq_true rfl) dX2_beginAnew_21 ⟨Nat.le_of_ble_eq_true rfl, Nat.le_of_ble_eq_true rfl⟩ (fun H locs hP hS => ?_)
    obtain ⟨z7, ez7, h⟩ := lt_out h
    refine lv_iinc (v := z7) (lv' := [(1, .int z7), (0, .ref (ad (5 + 14 * i + 0)))]) C.1 C.2.1 dX2_beginAnew_24 hl (k := 1) rfl (by rw [ez7]; rfl) (by decide) rfl (fun ls hl => ?_)
    refine lv_goto (tgt := 7) C.1 C.2.1 dX2_beginAnew_27 (by decide) ?_
    exact hK7 hP hS (lv_sub hl [1, 0] rfl)  h
set_option maxRecDepth 100000 in
set_option maxHeartbeats 4000000 in
theorem w_X2_beginAnew_h7 {res : SL} (C : Cx p s m args meth c cX2_beginAnew 2 none RX2 wsX2_beginAnew) (G : Gx D cs ad s) {i : Nat} (hi : i < 6) {Ls : Nat → SL} {Hs : SL} {T : SL} : ∀ (n : Nat) {L : SL} {x1 : Int32} {H : Heap} {locs : List Loc} {ls : Array Slot}, va_P D vwCl (wA cs ad (va_up Ls i L) Hs T) H → va_S (Afr ad s.heap.size) s.heap H locs → lv_has ls 2 [(0, .ref (ad (5 + 14 * i + 0))), (1, .int x1)] → f_X2_beginAnew_h7 n L x1 = some res → W p l e rmX2_beginAnew s m args below meth c H locs 0 0 (MQ below (va_Qv (fun (_ : Unit) => True) (fun _ t => va_P D vwCl (wA cs ad (va_up Ls i res) Hs T) t.heap) (Afr ad s.heap.size)) args s 0 0 (Afr ad s.heap.size)) (F0 m 7 ls []) := by
  intro n
  induction n with
  | zero => intro L x1 H locs ls hP hS hl  h; cases h
  | succ n ih => intro L x1 H locs ls hP hS hl  h; exact w_X2_beginAnew_b7 C G  hi  ih hP hS hl  h
set_option maxRecDepth 100000 in
set_option maxHeartbeats 4000000 in
theorem w_X2_beginAnew_e {res : SL} (C : Cx p s m args meth c cX2_beginAnew 2 none RX2 wsX2_beginAnew) (G : Gx D cs ad s) {i : Nat} (hi : i < 6) {Ls : Nat → SL} {Hs : SL} {T : SL} {L : SL} {H : Heap} {locs : List Loc} {ls : Array Slot} (hP : va_P D vwCl (wA cs ad (va_up Ls i L) Hs T) H) (hS : va_S (Afr ad s.heap.size) s.heap H locs) (hl : lv_has ls 2 [(0, .ref (ad (5 + 14 * i + 0)))]) (h : f_X2_beginAnew L = some res) : W p l e rmX2_beginAnew s m args below meth c H locs 0 0 (MQ below (va_Qv (fun (_ : Unit) => True) (fun _ t => va_P D vwCl (wA cs ad (va_up Ls i res) Hs T) t.heap) (Afr ad s.heap.size)) args s 0 0 (Afr ad s.heap.size)) (F0 m 0 ls []) := by
  unfold f_X2_beginAnew at h
  refine lv_aload_n C.1 C.2.1 dX2_beginAnew_0 rfl (lv_at hl 0 rfl) ?_
  refine lv_iconst (v := 0) C.1 C.2.1 dX2_beginAnew_1 (by decide) ?_
  obtain ⟨L1, eL1, h⟩ := lt_out h
  refine k_puti C G hP hS (v_obj (i := i) hi) rfl 3 (by decide) n_X2_beginAnew_X2 q_X2_beginAnew_0 tyX2_ok nmX2 rfl (tyX2_ok 3 (by decide)) (Nat.le_of_ble_eq_true rfl) (v_objS3 (i := i) hi) dX2_beginAnew_2 (fun H locs hP hS => ?_)
  rw [← eL1] at hP
  refine lv_iconst (v := 0) C.1 C.2.1 dX2_beginAnew_5 (by decide) ?_
  refine lv_istore_n (lv' := [(1, .int 0), (0, .ref (ad (5 + 14 * i + 0)))]) C.1 C.2.1 dX2_beginAnew_6 rfl hl (by decide) rfl (fun ls hl => ?_)
  exact w_X2_beginAnew_h7 C G hi fuel hP hS (lv_sub hl [1, 0] rfl) h
set_option maxRecDepth 100000 in
set_option maxHeartbeats 4000000 in
theorem m_X2_beginAnew (l : Launch) {D : va_G} {cs : Nat → ClassId} {ad : Nat → Nat} (hAd : adOK ad) (sz : Nat) {i : Nat} (hi : i < 6) {Ls : Nat → SL} {Hs : SL} {T : SL} {L : SL} {res : SL} (h : f_X2_beginAnew L = some res) : Met l yX2_beginAnew wsX2_beginAnew rmX2_beginAnew (PA D cs sz (wA cs ad (va_up Ls i L) Hs T) [.ref (ad (5 + 14 * i + 0))]) (va_Qv (fun (_ : Unit) => True) (fun _ t => va_P D vwCl (wA cs ad (va_up Ls i res) Hs T) t.heap) (Afr ad sz)) 0 0 (Afr ad sz) :=
  k_met (by decide) rfl (Nat.le_of_ble_eq_true rfl) hAd (fun p e s m below meth c ls C G hP hsz hl hS => by
    subst hsz
    exact w_X2_beginAnew_e C G hi hP hS hl  h)
/-! X2 countFills -/
abbrev rmX2_countFills : Room := { frames := 0, cells := 0, slots := 0, locals := 0 }
theorem q_X2_countFills_0 : Cond.fieldLink RX2 23 "LineBuffers$Line" "machines" "I" ∈ wsX2_countFills := List.mem_of_getElem? (i := 1) rfl
theorem q_X2_countFills_1 : Cond.fieldLink RX2 11 "LineBuffers$Line" "rows" "[[I" ∈ wsX2_countFills := List.mem_of_getElem? (i := 2) rfl
theorem n_X2_countFills_X2 : ∀ x ∈ u_ws RX2 TX2 4, x ∈ wsX2_countFills := fun x h => List.mem_cons_of_mem _ (List.mem_append_right _ h)
set_option maxRecDepth 100000 in
set_option maxHeartbeats 4000000 in
theorem w_X2_countFills_b46 {res : SL} (C : Cx p s m args meth c cX2_countFills 3 none RX2 wsX2_countFills) (G : Gx D cs ad s) {i : Nat} (hi : i < 6) {Ls : Nat → SL} {Hs : SL} {T : SL} {K2 : SL → Int32 → Option (SL)} (hK2 : ∀ {L : SL} {x1 : Int32} {H : Heap} {locs : List Loc} {ls : Array Slot}, va_P D vwCl (wA cs ad (va_up Ls i L) Hs T) H → va_S (Afr ad s.heap.size) s.heap H locs → lv_has ls 3 [(0, .ref (ad (5 + 14 * i + 0))), (1, .int x1)] → K2 L x1 = some res → W p l e rmX2_countFills s m args below meth c H locs 0 0 (MQ below (va_Qv (fun (_ : Unit) => True) (fun _ t => va_P D vwCl (wA cs ad (va_up Ls i res) Hs T) t.heap) (Afr ad s.heap.size)) args s 0 0 (Afr ad s.heap.size)) (F0 m 2 ls [])) {L : SL} {x1 : Int32} {H : Heap} {locs : List Loc} {ls : Array Slot} (hP : va_P D vwCl (wA cs ad (va_up Ls i L) Hs T) H) (hS : va_S (Afr ad s.heap.size) s.heap H locs) (hl : lv_has ls 3 [(0, .ref (ad (5 + 14 * i + 0))), (1, .int x1)]) (h : f_X2_countFills_b46 K2 L x1 = some res) : W p l e rmX2_countFills s m args below meth c H locs 0 0 (MQ below (va_Qv (fun (_ : Unit) => True) (fun _ t => va_P D vwCl (wA cs ad (va_up Ls i res) Hs T) t.heap) (Afr ad s.heap.size)) args s 0 0 (Afr ad s.heap.size)) (F0 m 46 ls []) := by
  unfold f_X2_countFills_b46 at h
  obtain ⟨z1, ez1, h⟩ := lt_out h
  refine lv_iinc (v := z1) (lv' := [(1, .int z1), (0, .ref (ad (5 + 14 * i + 0)))]) C.1 C.2.1 dX2_countFills_46 hl (k := 1) rfl (by rw [ez1]; rfl) (by decide) rfl (fun ls hl => ?_)
  refine lv_goto (tgt := 2) C.1 C.2.1 dX2_countFills_49 (by decide) ?_
  exact hK2 hP hS (lv_sub hl [1, 0] rfl)  h
set_option maxRecDepth 100000 in
set_option maxHeartbeats 4000000 in
theorem w_X2_countFills_b2 {res : SL} (C : Cx p s m args meth c cX2_countFills 3 none RX2 wsX2_countFills) (G : Gx D cs ad s) {i : Nat} (hi : i < 6) {Ls : Nat → SL} {Hs : SL} {T : SL} {K2 : SL → Int32 → Option (SL)} (hK2 : ∀ {L : SL} {x1 : Int32} {H : Heap} {locs : List Loc} {ls : Array Slot}, va_P D vwCl (wA cs ad (va_up Ls i L) Hs T) H → va_S (Afr ad s.heap.size) s.heap H locs → lv_has ls 3 [(0, .ref (ad (5 + 14 * i + 0))), (1, .int x1)] → K2 L x1 = some res → W p l e rmX2_countFills s m args below meth c H locs 0 0 (MQ below (va_Qv (fun (_ : Unit) => True) (fun _ t => va_P D vwCl (wA cs ad (va_up Ls i res) Hs T) t.heap) (Afr ad s.heap.size)) args s 0 0 (Afr ad s.heap.size)) (F0 m 2 ls [])) {L : SL} {x1 : Int32} {H : Heap} {locs : List Loc} {ls : Array Slot} (hP : va_P D vwCl (wA cs ad (va_up Ls i L) Hs T) H) (hS : va_S (Afr ad s.heap.size) s.heap H locs) (hl : lv_has ls 3 [(0, .ref (ad (5 + 14 * i + 0))), (1, .int x1)]) (h : f_X2_countFills_b2 K2 L x1 = some res) : W p l e rmX2_countFills s m args below meth c H locs 0 0 (MQ below (va_Qv (fun (_ : Unit) => True) (fun _ t => va_P D vwCl (wA cs ad (va_up Ls i res) Hs T) t.heap) (Afr ad s.heap.size)) args s 0 0 (Afr ad s.heap.size)) (F0 m 2 ls []) := by
  unfold f_X2_countFills_b2 at h
  refine lv_iload_n C.1 C.2.1 dX2_countFills_2 rfl (lv_at hl 1 rfl) ?_
  refine lv_aload_n C.1 C.2.1 dX2_countFills_3 rfl (lv_at hl 0 rfl) ?_
  obtain ⟨v1, ev1, h⟩ := lt_out h
  refine k_geti C G hP (v_obj (i := i) hi) rfl 2 (by decide) n_X2_countFills_X2 q_X2_countFills_0 rfl ev1 dX2_countFills_4 ?_
  refine lv_iconst (v := 1) C.1 C.2.1 dX2_countFills_7 (by decide) ?_
  obtain ⟨v2, ev2, h⟩ := lt_out h
  refine k_isub C ev2 dX2_countFills_8 ?_
  refine lv_icmp_ge (tgt := 52) C.1 C.2.1 dX2_countFills_9 (by decide) (fun c3 => ?_) (fun c3 => ?_)
  · have h := if_t c3 h
    cases h
    exact k_vret C hP hS dX2_countFills_52
  · have h := if_f c3 h
    refine lv_aload_n C.1 C.2.1 dX2_countFills_12 rfl (lv_at hl 0 rfl) ?_
    refine k_getf C G hP (v_obj (i := i) hi) rfl 0 (by decide) n_X2_countFills_X2 q_X2_countFills_1 (v := .ref (ad (5 + 14 * i + 1))) rfl dX2_countFills_13 ?_
    refine lv_iload_n C.1 C.2.1 dX2_countFills_16 rfl (lv_at hl 1 rfl) ?_
    obtain ⟨g4, h⟩ := gd_out h
    have g4 := chk_in g4
    obtain ⟨kq5, ekq5, h⟩ := lt_out h
    have hkq5 : 2 ≤ kq5 ∧ kq5 < 10 := row_k g4 ekq5
    refine k_aaldR C G hP (v_rows (i := i) hi) g4 (b := ad (5 + 14 * i + kq5)) (by rw [ekq5]) dX2_countFills_17 ?_
    refine lv_astore_n (lv' := [(2, .ref (ad (5 + 14 * i + kq5))), (0, .ref (ad (5 + 14 * i + 0))), (1, .int x1)]) C.1 C.2.1 dX2_countFills_18 rfl hl (by decide) rfl (fun ls hl => ?_)
    refine lv_aload_n C.1 C.2.1 dX2_countFills_19 rfl (lv_at hl 0 rfl) ?_
    refine lv_bipush (v := 15) C.1 C.2.1 dX2_countFills_20 (by decide) ?_
    refine lv_dup2_11 C.1 C.2.1 dX2_countFills_22 rfl rfl ?_
    obtain ⟨v6, ev6, h⟩ := lt_out h
    refine k_iald C G hP (v_row (i := i) hi hkq5) (chk_in rfl) (j := 15) rfl ev6 dX2_countFills_23 ?_
    refine lv_aload_n C.1 C.2.1 dX2_countFills_24 rfl (lv_at hl 0 rfl) ?_
    refine lv_iconst (v := 5) C.1 C.2.1 dX2_countFills_25 (by decide) ?_
    obtain ⟨v7, ev7, h⟩ := lt_out h
    refine k_iald C G hP (v_row (i := i) hi hkq5) (chk_in rfl) (j := 5) rfl ev7 dX2_countFills_26 ?_
    obtain ⟨v8, ev8, h⟩ := lt_out h
    refine k_iadd C ev8 dX2_countFills_27 ?_
    obtain ⟨L9, eL9, h⟩ := lt_out h
    refine k_iast C G hP hS (v_row (i := i) hi hkq5) (chk_in rfl) (j := 15) rfl (v_rowS (i := i) hi hkq5) dX2_countFills_28 (fun H locs hP hS => ?_)
    rw [← eL9] at hP
    refine lv_aload_n C.1 C.2.1 dX2_countFills_29 rfl (lv_at hl 0 rfl) ?_
    refine lv_iconst (v := 5) C.1 C.2.1 dX2_countFills_30 (by decide) ?_
    obtain ⟨v10, ev10, h⟩ := lt_out h
    refine k_iald C G hP (v_row (i := i) hi hkq5) (chk_in rfl) (j := 5) rfl ev10 dX2_countFills_31 ?_
    refine lv_aload_n C.1 C.2.1 dX2_countFills_32 rfl (lv_at hl 0 rfl) ?_
    refine lv_iconst (v := 4) C.1 C.2.1 dX2_countFills_33 (by decide) ?_
    obtain ⟨v11, ev11, h⟩ := lt_out h
    refine k_iald C G hP (v_row (i := i) hi hkq5) (chk_in rfl) (j := 4) rfl ev11 dX2_countFills_34 ?_
    refine lv_icmp_lt (tgt := 46) C.1 C.2.1 dX2_countFills_35 (by decide) (fun c12 => ?_) (fun c12 => ?_)
    · have h := if_t c12 h
      exact w_X2_countFills_b46 C G hi hK2 hP hS (lv_sub hl [1, 2] rfl) h
    · have h := if_f c12 h
      refine lv_aload_n C.1 C.2.1 dX2_countFills_38 rfl (lv_at hl 0 rfl) ?_
      refine lv_bipush (v := 14) C.1 C.2.1 dX2_countFills_39 (by decide) ?_
      refine lv_dup2_11 C.1 C.2.1 dX2_countFills_41 rfl rfl ?_
      obtain ⟨v13, ev13, h⟩ := lt_out h
      refine k_iald C G hP (v_row (i := i) hi hkq5) (chk_in rfl) (j := 14) rfl ev13 dX2_countFills_42 ?_
      refine lv_iconst (v := 1) C.1 C.2.1 dX2_countFills_43 (by decide) ?_
      obtain ⟨v14, ev14, h⟩ := lt_out h
      refine k_iadd C ev14 dX2_countFills_44 ?_
      obtain ⟨L15, eL15, h⟩ := lt_out h
      refine k_iast C G hP hS (v_row (i := i) hi hkq5) (chk_in rfl) (j := 14) rfl (v_rowS (i := i) hi hkq5) dX2_countFills_45 (fun H locs hP hS => ?_)
      rw [← eL15] at hP
      exact w_X2_countFills_b46 C G hi hK2 hP hS (lv_sub hl [1, 2] rfl) h
set_option maxRecDepth 100000 in
set_option maxHeartbeats 4000000 in
theorem w_X2_countFills_h2 {res : SL} (C : Cx p s m args meth c cX2_countFills 3 none RX2 wsX2_countFills) (G : Gx D cs ad s) {i : Nat} (hi : i < 6) {Ls : Nat → SL} {Hs : SL} {T : SL} : ∀ (n : Nat) {L : SL} {x1 : Int32} {H : Heap} {locs : List Loc} {ls : Array Slot}, va_P D vwCl (wA cs ad (va_up Ls i L) Hs T) H → va_S (Afr ad s.heap.size) s.heap H locs → lv_has ls 3 [(0, .ref (ad (5 + 14 * i + 0))), (1, .int x1)] → f_X2_countFills_h2 n L x1 = some res → W p l e rmX2_countFills s m args below meth c H locs 0 0 (MQ below (va_Qv (fun (_ : Unit) => True) (fun _ t => va_P D vwCl (wA cs ad (va_up Ls i res) Hs T) t.heap) (Afr ad s.heap.size)) args s 0 0 (Afr ad s.heap.size)) (F0 m 2 ls []) := by
  intro n
  induction n with
  | zero => intro L x1 H locs ls hP hS hl  h; cases h
  | succ n ih => intro L x1 H locs ls hP hS hl  h; exact w_X2_countFills_b2 C G  hi  ih hP hS hl  h
set_option maxRecDepth 100000 in
set_option maxHeartbeats 4000000 in
theorem w_X2_countFills_e {res : SL} (C : Cx p s m args meth c cX2_countFills 3 none RX2 wsX2_countFills) (G : Gx D cs ad s) {i : Nat} (hi : i < 6) {Ls : Nat → SL} {Hs : SL} {T : SL} {L : SL} {H : Heap} {locs : List Loc} {ls : Array Slot} (hP : va_P D vwCl (wA cs ad (va_up Ls i L) Hs T) H) (hS : va_S (Afr ad s.heap.size) s.heap H locs) (hl : lv_has ls 3 [(0, .ref (ad (5 + 14 * i + 0)))]) (h : f_X2_countFills L = some res) : W p l e rmX2_countFills s m args below meth c H locs 0 0 (MQ below (va_Qv (fun (_ : Unit) => True) (fun _ t => va_P D vwCl (wA cs ad (va_up Ls i res) Hs T) t.heap) (Afr ad s.heap.size)) args s 0 0 (Afr ad s.heap.size)) (F0 m 0 ls []) := by
  unfold f_X2_countFills at h
  refine lv_iconst (v := 0) C.1 C.2.1 dX2_countFills_0 (by decide) ?_
  refine lv_istore_n (lv' := [(1, .int 0), (0, .ref (ad (5 + 14 * i + 0)))]) C.1 C.2.1 dX2_countFills_1 rfl hl (by decide) rfl (fun ls hl => ?_)
  exact w_X2_countFills_h2 C G hi fuel hP hS (lv_sub hl [1, 0] rfl) h
set_option maxRecDepth 100000 in
set_option maxHeartbeats 4000000 in
theorem m_X2_countFills (l : Launch) {D : va_G} {cs : Nat → ClassId} {ad : Nat → Nat} (hAd : adOK ad) (sz : Nat) {i : Nat} (hi : i < 6) {Ls : Nat → SL} {Hs : SL} {T : SL} {L : SL} {res : SL} (h : f_X2_countFills L = some res) : Met l yX2_countFills wsX2_countFills rmX2_countFills (PA D cs sz (wA cs ad (va_up Ls i L) Hs T) [.ref (ad (5 + 14 * i + 0))]) (va_Qv (fun (_ : Unit) => True) (fun _ t => va_P D vwCl (wA cs ad (va_up Ls i res) Hs T) t.heap) (Afr ad sz)) 0 0 (Afr ad sz) :=
  k_met (by decide) rfl (Nat.le_of_ble_eq_true rfl) hAd (fun p e s m below meth c ls C G hP hsz hl hS => by
    subst hsz
    exact w_X2_countFills_e C G hi hP hS hl  h)
/-! X2 chooseSpeed -/
abbrev rmX2_chooseSpeed : Room := { frames := 0, cells := 0, slots := 0, locals := 0 }
theorem q_X2_chooseSpeed_0 : Cond.fieldLink RX2 11 "LineBuffers$Line" "rows" "[[I" ∈ wsX2_chooseSpeed := List.mem_of_getElem? (i := 1) rfl
theorem q_X2_chooseSpeed_1 : Cond.fieldLink RX2 23 "LineBuffers$Line" "machines" "I" ∈ wsX2_chooseSpeed := List.mem_of_getElem? (i := 2) rfl
theorem n_X2_chooseSpeed_X2 : ∀ x ∈ u_ws RX2 TX2 4, x ∈ wsX2_chooseSpeed := fun x h => List.mem_cons_of_mem _ (List.mem_append_right _ h)
set_option maxRecDepth 100000 in
set_option maxHeartbeats 4000000 in
theorem w_X2_chooseSpeed_b26 {res : SL} (C : Cx p s m args meth c cX2_chooseSpeed 3 none RX2 wsX2_chooseSpeed) (G : Gx D cs ad s) {i : Nat} (hi : i < 6) {Ls : Nat → SL} {Hs : SL} {T : SL} {L : SL} {k2 : Nat} {H : Heap} {locs : List Loc} {ls : Array Slot} (hP : va_P D vwCl (wA cs ad (va_up Ls i L) Hs T) H) (hS : va_S (Afr ad s.heap.size) s.heap H locs) (hl : lv_has ls 3 [(2, .ref (ad (5 + 14 * i + k2)))]) (hk2 : 2 ≤ k2 ∧ k2 < 10) (h : f_X2_chooseSpeed_b26 L k2 = some res) : W p l e rmX2_chooseSpeed s m args below meth c H locs 0 0 (MQ below (va_Qv (fun (_ : Unit) => True) (fun _ t => va_P D vwCl (wA cs ad (va_up Ls i res) Hs T) t.heap) (Afr ad s.heap.size)) args s 0 0 (Afr ad s.heap.size)) (F0 m 26 ls []) := by
  unfold f_X2_chooseSpeed_b26 at h
  refine lv_aload_n C.1 C.2.1 dX2_chooseSpeed_26 rfl (lv_at hl 0 rfl) ?_
  refine lv_bipush (v := 7) C.1 C.2.1 dX2_chooseSpeed_27 (by decide) ?_
  refine lv_iconst (v := 1) C.1 C.2.1 dX2_chooseSpeed_29 (by decide) ?_
  obtain ⟨L1, eL1, h⟩ := lt_out h
  refine k_iast C G hP hS (v_row (i := i) hi hk2) (chk_in rfl) (j := 7) rfl (v_rowS (i := i) hi hk2) dX2_chooseSpeed_30 (fun H locs hP hS => ?_)
  rw [← eL1] at hP
  refine lv_goto (tgt := 48) C.1 C.2.1 dX2_chooseSpeed_31 (by decide) ?_
  cases h
  exact k_vret C hP hS dX2_chooseSpeed_48
set_option maxRecDepth 100000 in
set_option maxHeartbeats 4000000 in
theorem w_X2_chooseSpeed_e {res : SL} (C : Cx p s m args meth c cX2_chooseSpeed 3 none RX2 wsX2_chooseSpeed) (G : Gx D cs ad s) {i : Nat} (hi : i < 6) {Ls : Nat → SL} {Hs : SL} {T : SL} {L : SL} {x1 : Int32} {H : Heap} {locs : List Loc} {ls : Array Slot} (hP : va_P D vwCl (wA cs ad (va_up Ls i L) Hs T) H) (hS : va_S (Afr ad s.heap.size) s.heap H locs) (hl : lv_has ls 3 [(0, .ref (ad (5 + 14 * i + 0))), (1, .int x1)]) (h : f_X2_chooseSpeed L x1 = some res) : W p l e rmX2_chooseSpeed s m args below meth c H locs 0 0 (MQ below (va_Qv (fun (_ : Unit) => True) (fun _ t => va_P D vwCl (wA cs ad (va_up Ls i res) Hs T) t.heap) (Afr ad s.heap.size)) args s 0 0 (Afr ad s.heap.size)) (F0 m 0 ls []) := by
  unfold f_X2_chooseSpeed at h
  refine lv_aload_n C.1 C.2.1 dX2_chooseSpeed_0 rfl (lv_at hl 0 rfl) ?_
  refine k_getf C G hP (v_obj (i := i) hi) rfl 0 (by decide) n_X2_chooseSpeed_X2 q_X2_chooseSpeed_0 (v := .ref (ad (5 + 14 * i + 1))) rfl dX2_chooseSpeed_1 ?_
  refine lv_iload_n C.1 C.2.1 dX2_chooseSpeed_4 rfl (lv_at hl 1 rfl) ?_
  obtain ⟨g1, h⟩ := gd_out h
  have g1 := chk_in g1
  obtain ⟨kq2, ekq2, h⟩ := lt_out h
  have hkq2 : 2 ≤ kq2 ∧ kq2 < 10 := row_k g1 ekq2
  refine k_aaldR C G hP (v_rows (i := i) hi) g1 (b := ad (5 + 14 * i + kq2)) (by rw [ekq2]) dX2_chooseSpeed_5 ?_
  refine lv_astore_n (lv' := [(2, .ref (ad (5 + 14 * i + kq2))), (0, .ref (ad (5 + 14 * i + 0))), (1, .int x1)]) C.1 C.2.1 dX2_chooseSpeed_6 rfl hl (by decide) rfl (fun ls hl => ?_)
  refine lv_iload_n C.1 C.2.1 dX2_chooseSpeed_7 rfl (lv_at hl 2 rfl) ?_
  refine lv_aload_n C.1 C.2.1 dX2_chooseSpeed_8 rfl (lv_at hl 1 rfl) ?_
  obtain ⟨v3, ev3, h⟩ := lt_out h
  refine k_geti C G hP (v_obj (i := i) hi) rfl 2 (by decide) n_X2_chooseSpeed_X2 q_X2_chooseSpeed_1 rfl ev3 dX2_chooseSpeed_9 ?_
  refine lv_iconst (v := 1) C.1 C.2.1 dX2_chooseSpeed_12 (by decide) ?_
  obtain ⟨v4, ev4, h⟩ := lt_out h
  refine k_isub C ev4 dX2_chooseSpeed_13 ?_
  refine lv_icmp_eq (tgt := 26) C.1 C.2.1 dX2_chooseSpeed_14 (by decide) (fun c5 => ?_) (fun c5 => ?_)
  · have h := if_t c5 h
    exact w_X2_chooseSpeed_b26 C G hi hP hS (lv_sub hl [0] rfl) hkq2 h
  · have h := if_f c5 h
    refine lv_aload_n C.1 C.2.1 dX2_chooseSpeed_17 rfl (lv_at hl 0 rfl) ?_
    refine lv_iconst (v := 5) C.1 C.2.1 dX2_chooseSpeed_18 (by decide) ?_
    obtain ⟨v6, ev6, h⟩ := lt_out h
    refine k_iald C G hP (v_row (i := i) hi hkq2) (chk_in rfl) (j := 5) rfl ev6 dX2_chooseSpeed_19 ?_
    refine lv_aload_n C.1 C.2.1 dX2_chooseSpeed_20 rfl (lv_at hl 0 rfl) ?_
    refine lv_iconst (v := 2) C.1 C.2.1 dX2_chooseSpeed_21 (by decide) ?_
    obtain ⟨v7, ev7, h⟩ := lt_out h
    refine k_iald C G hP (v_row (i := i) hi hkq2) (chk_in rfl) (j := 2) rfl ev7 dX2_chooseSpeed_22 ?_
    refine lv_icmp_gt (tgt := 34) C.1 C.2.1 dX2_chooseSpeed_23 (by decide) (fun c8 => ?_) (fun c8 => ?_)
    · have h := if_t c8 h
      refine lv_aload_n C.1 C.2.1 dX2_chooseSpeed_34 rfl (lv_at hl 0 rfl) ?_
      refine lv_iconst (v := 5) C.1 C.2.1 dX2_chooseSpeed_35 (by decide) ?_
      obtain ⟨v9, ev9, h⟩ := lt_out h
      refine k_iald C G hP (v_row (i := i) hi hkq2) (chk_in rfl) (j := 5) rfl ev9 dX2_chooseSpeed_36 ?_
      refine lv_aload_n C.1 C.2.1 dX2_chooseSpeed_37 rfl (lv_at hl 0 rfl) ?_
      refine lv_iconst (v := 3) C.1 C.2.1 dX2_chooseSpeed_38 (by decide) ?_
      obtain ⟨v10, ev10, h⟩ := lt_out h
      refine k_iald C G hP (v_row (i := i) hi hkq2) (chk_in rfl) (j := 3) rfl ev10 dX2_chooseSpeed_39 ?_
      refine lv_icmp_lt (tgt := 48) C.1 C.2.1 dX2_chooseSpeed_40 (by decide) (fun c11 => ?_) (fun c11 => ?_)
      · have h := if_t c11 h
        cases h
        exact k_vret C hP hS dX2_chooseSpeed_48
      · have h := if_f c11 h
        refine lv_aload_n C.1 C.2.1 dX2_chooseSpeed_43 rfl (lv_at hl 0 rfl) ?_
        refine lv_bipush (v := 7) C.1 C.2.1 dX2_chooseSpeed_44 (by decide) ?_
        refine lv_iconst (v := 0) C.1 C.2.1 dX2_chooseSpeed_46 (by decide) ?_
        obtain ⟨L12, eL12, h⟩ := lt_out h
        refine k_iast C G hP hS (v_row (i := i) hi hkq2) (chk_in rfl) (j := 7) rfl (v_rowS (i := i) hi hkq2) dX2_chooseSpeed_47 (fun H locs hP hS => ?_)
        rw [← eL12] at hP
        cases h
        exact k_vret C hP hS dX2_chooseSpeed_48
    · have h := if_f c8 h
      exact w_X2_chooseSpeed_b26 C G hi hP hS (lv_sub hl [0] rfl) hkq2 h
set_option maxRecDepth 100000 in
set_option maxHeartbeats 4000000 in
theorem m_X2_chooseSpeed (l : Launch) {D : va_G} {cs : Nat → ClassId} {ad : Nat → Nat} (hAd : adOK ad) (sz : Nat) {i : Nat} (hi : i < 6) {Ls : Nat → SL} {Hs : SL} {T : SL} {L : SL} {x1 : Int32} {res : SL} (h : f_X2_chooseSpeed L x1 = some res) : Met l yX2_chooseSpeed wsX2_chooseSpeed rmX2_chooseSpeed (PA D cs sz (wA cs ad (va_up Ls i L) Hs T) [.ref (ad (5 + 14 * i + 0)), .int x1]) (va_Qv (fun (_ : Unit) => True) (fun _ t => va_P D vwCl (wA cs ad (va_up Ls i res) Hs T) t.heap) (Afr ad sz)) 0 0 (Afr ad sz) :=
  k_met (by decide) rfl (Nat.le_of_ble_eq_true rfl) hAd (fun p e s m below meth c ls C G hP hsz hl hS => by
    subst hsz
    exact w_X2_chooseSpeed_e C G hi hP hS hl  h)
/-! X2 noteTurn -/
abbrev rmX2_noteTurn : Room := { frames := 0, cells := 0, slots := 0, locals := 0 }
set_option maxRecDepth 100000 in
set_option maxHeartbeats 4000000 in
theorem w_X2_noteTurn_e {res : SL} (C : Cx p s m args meth c cX2_noteTurn 2 none RX2 wsX2_noteTurn) (G : Gx D cs ad s) {i : Nat} (hi : i < 6) {Ls : Nat → SL} {Hs : SL} {T : SL} {L : SL} {k0 : Nat} {x1 : Int32} {H : Heap} {locs : List Loc} {ls : Array Slot} (hP : va_P D vwCl (wA cs ad (va_up Ls i L) Hs T) H) (hS : va_S (Afr ad s.heap.size) s.heap H locs) (hl : lv_has ls 2 [(0, .ref (ad (5 + 14 * i + k0))), (1, .int x1)]) (hk0 : 2 ≤ k0 ∧ k0 < 10) (h : f_X2_noteTurn k0 L x1 = some res) : W p l e rmX2_noteTurn s m args below meth c H locs 0 0 (MQ below (va_Qv (fun (_ : Unit) => True) (fun _ t => va_P D vwCl (wA cs ad (va_up Ls i res) Hs T) t.heap) (Afr ad s.heap.size)) args s 0 0 (Afr ad s.heap.size)) (F0 m 0 ls []) := by
  unfold f_X2_noteTurn at h
  refine lv_aload_n C.1 C.2.1 dX2_noteTurn_0 rfl (lv_at hl 0 rfl) ?_
  refine lv_bipush (v := 8) C.1 C.2.1 dX2_noteTurn_1 (by decide) ?_
  refine lv_iload_n C.1 C.2.1 dX2_noteTurn_3 rfl (lv_at hl 1 rfl) ?_
  obtain ⟨L1, eL1, h⟩ := lt_out h
  refine k_iast C G hP hS (v_row (i := i) hi hk0) (chk_in rfl) (j := 8) rfl (v_rowS (i := i) hi hk0) dX2_noteTurn_4 (fun H locs hP hS => ?_)
  rw [← eL1] at hP
  refine lv_aload_n C.1 C.2.1 dX2_noteTurn_5 rfl (lv_at hl 0 rfl) ?_
  refine lv_bipush (v := 9) C.1 C.2.1 dX2_noteTurn_6 (by decide) ?_
  refine lv_iload_n C.1 C.2.1 dX2_noteTurn_8 rfl (lv_at hl 1 rfl) ?_
  obtain ⟨v2, ev2, h⟩ := lt_out h
  refine k_iadd C ev2 dX2_noteTurn_9 ?_
  refine lv_iconst (v := 1) C.1 C.2.1 dX2_noteTurn_10 (by decide) ?_
  obtain ⟨v3, ev3, h⟩ := lt_out h
  refine k_isub C ev3 dX2_noteTurn_11 ?_
  refine lv_dup2_11 C.1 C.2.1 dX2_noteTurn_12 rfl rfl ?_
  obtain ⟨g4, h⟩ := gd_out h
  have g4 := chk_in g4
  obtain ⟨v5, ev5, h⟩ := lt_out h
  refine k_iald C G hP (v_row (i := i) hi hk0) g4 (j := v3.toNatClampNeg) rfl ev5 dX2_noteTurn_13 ?_
  refine lv_iconst (v := 1) C.1 C.2.1 dX2_noteTurn_14 (by decide) ?_
  obtain ⟨v6, ev6, h⟩ := lt_out h
  refine k_iadd C ev6 dX2_noteTurn_15 ?_
  obtain ⟨L7, eL7, h⟩ := lt_out h
  refine k_iast C G hP hS (v_row (i := i) hi hk0) g4 (j := v3.toNatClampNeg) rfl (v_rowS (i := i) hi hk0) dX2_noteTurn_16 (fun H locs hP hS => ?_)
  rw [← eL7] at hP
  cases h
  exact k_vret C hP hS dX2_noteTurn_17
set_option maxRecDepth 100000 in
set_option maxHeartbeats 4000000 in
theorem m_X2_noteTurn (l : Launch) {D : va_G} {cs : Nat → ClassId} {ad : Nat → Nat} (hAd : adOK ad) (sz : Nat) {i : Nat} (hi : i < 6) {k0 : Nat} (hk0 : 2 ≤ k0 ∧ k0 < 10) {Ls : Nat → SL} {Hs : SL} {T : SL} {L : SL} {x1 : Int32} {res : SL} (h : f_X2_noteTurn k0 L x1 = some res) : Met l yX2_noteTurn wsX2_noteTurn rmX2_noteTurn (PA D cs sz (wA cs ad (va_up Ls i L) Hs T) [.ref (ad (5 + 14 * i + k0)), .int x1]) (va_Qv (fun (_ : Unit) => True) (fun _ t => va_P D vwCl (wA cs ad (va_up Ls i res) Hs T) t.heap) (Afr ad sz)) 0 0 (Afr ad sz) :=
  k_met (by decide) rfl (Nat.le_of_ble_eq_true rfl) hAd (fun p e s m below meth c ls C G hP hsz hl hS => by
    subst hsz
    exact w_X2_noteTurn_e C G hi hP hS hl hk0 h)
/-! X2 presentCycle -/
abbrev rmX2_presentCycle : Room := { frames := 0, cells := 0, slots := 0, locals := 0 }
set_option maxRecDepth 100000 in
set_option maxHeartbeats 4000000 in
theorem w_X2_presentCycle_e {res : Int32} (C : Cx p s m args meth c cX2_presentCycle 1 (some .int) RX2 wsX2_presentCycle) (G : Gx D cs ad s) {i : Nat} (hi : i < 6) {Ls : Nat → SL} {Hs : SL} {T : SL} {L : SL} {k0 : Nat} {H : Heap} {locs : List Loc} {ls : Array Slot} (hP : va_P D vwCl (wA cs ad (va_up Ls i L) Hs T) H) (hS : va_S (Afr ad s.heap.size) s.heap H locs) (hl : lv_has ls 1 [(0, .ref (ad (5 + 14 * i + k0)))]) (hk0 : 2 ≤ k0 ∧ k0 < 10) (h : f_X2_presentCycle k0 L = some res) : W p l e rmX2_presentCycle s m args below meth c H locs 0 0 (MQ below (va_Qi (fun r' (_ : Unit) => r' = res) (fun _ t => va_P D vwCl (wA cs ad (va_up Ls i L) Hs T) t.heap) (Afr ad s.heap.size)) args s 0 0 (Afr ad s.heap.size)) (F0 m 0 ls []) := by
  unfold f_X2_presentCycle at h
  refine lv_aload_n C.1 C.2.1 dX2_presentCycle_0 rfl (lv_at hl 0 rfl) ?_
  refine lv_bipush (v := 7) C.1 C.2.1 dX2_presentCycle_1 (by decide) ?_
  obtain ⟨v1, ev1, h⟩ := lt_out h
  refine k_iald C G hP (v_row (i := i) hi hk0) (chk_in rfl) (j := 7) rfl ev1 dX2_presentCycle_3 ?_
  refine lv_iconst (v := 1) C.1 C.2.1 dX2_presentCycle_4 (by decide) ?_
  refine lv_icmp_ne (tgt := 14) C.1 C.2.1 dX2_presentCycle_5 (by decide) (fun c2 => ?_) (fun c2 => ?_)
  · have h := if_t c2 h
    refine lv_aload_n C.1 C.2.1 dX2_presentCycle_14 rfl (lv_at hl 0 rfl) ?_
    refine lv_iconst (v := 0) C.1 C.2.1 dX2_presentCycle_15 (by decide) ?_
    obtain ⟨v3, ev3, h⟩ := lt_out h
    refine k_iald C G hP (v_row (i := i) hi hk0) (chk_in rfl) (j := 0) rfl ev3 dX2_presentCycle_16 ?_
    cases h
    exact k_iret C hP hS dX2_presentCycle_17
  · have h := if_n c2 h
    refine lv_aload_n C.1 C.2.1 dX2_presentCycle_8 rfl (lv_at hl 0 rfl) ?_
    refine lv_iconst (v := 1) C.1 C.2.1 dX2_presentCycle_9 (by decide) ?_
    obtain ⟨v4, ev4, h⟩ := lt_out h
    refine k_iald C G hP (v_row (i := i) hi hk0) (chk_in rfl) (j := 1) rfl ev4 dX2_presentCycle_10 ?_
    refine lv_goto (tgt := 17) C.1 C.2.1 dX2_presentCycle_11 (by decide) ?_
    cases h
    exact k_iret C hP hS dX2_presentCycle_17
set_option maxRecDepth 100000 in
set_option maxHeartbeats 4000000 in
theorem m_X2_presentCycle (l : Launch) {D : va_G} {cs : Nat → ClassId} {ad : Nat → Nat} (hAd : adOK ad) (sz : Nat) {i : Nat} (hi : i < 6) {k0 : Nat} (hk0 : 2 ≤ k0 ∧ k0 < 10) {Ls : Nat → SL} {Hs : SL} {T : SL} {L : SL} {res : Int32} (h : f_X2_presentCycle k0 L = some res) : Met l yX2_presentCycle wsX2_presentCycle rmX2_presentCycle (PA D cs sz (wA cs ad (va_up Ls i L) Hs T) [.ref (ad (5 + 14 * i + k0))]) (va_Qi (fun r' (_ : Unit) => r' = res) (fun _ t => va_P D vwCl (wA cs ad (va_up Ls i L) Hs T) t.heap) (Afr ad sz)) 0 0 (Afr ad sz) :=
  k_met (by decide) rfl (Nat.le_of_ble_eq_true rfl) hAd (fun p e s m below meth c ls C G hP hsz hl hS => by
    subst hsz
    exact w_X2_presentCycle_e C G hi hP hS hl hk0 h)
/-! X2 release -/
abbrev rmX2_release : Room := { frames := 1, cells := 0, slots := 0, locals := 21 }
theorem q_X2_release_0 : Cond.fieldLink RX2 11 "LineBuffers$Line" "rows" "[[I" ∈ wsX2_release := List.mem_of_getElem? (i := 1) rfl
theorem q_X2_release_1 : Cond.fieldLink RX2 23 "LineBuffers$Line" "machines" "I" ∈ wsX2_release := List.mem_of_getElem? (i := 2) rfl
theorem q_X2_release_2 : Cond.fieldLink RX2 19 "LineBuffers$Line" "stops" "LLineBuffers$Stops;" ∈ wsX2_release := List.mem_of_getElem? (i := 3) rfl
theorem n_X2_release_X2 : ∀ x ∈ u_ws RX2 TX2 4, x ∈ wsX2_release := fun x h => List.mem_cons_of_mem _ (List.mem_append_left _ (List.mem_append_right _ h))
set_option maxRecDepth 100000 in
set_option maxHeartbeats 4000000 in
theorem w_X2_release_b84 {res : SL} (C : Cx p s m args meth c cX2_release 4 none RX2 wsX2_release) (G : Gx D cs ad s) {i : Nat} (hi : i < 6) {Ls : Nat → SL} {Hs : SL} {T : SL} {L : SL} {k2 : Nat} {H : Heap} {locs : List Loc} {ls : Array Slot} (hP : va_P D vwCl (wA cs ad (va_up Ls i L) Hs T) H) (hS : va_S (Afr ad s.heap.size) s.heap H locs) (hl : lv_has ls 4 [(2, .ref (ad (5 + 14 * i + k2)))]) (hk2 : 2 ≤ k2 ∧ k2 < 10) (h : f_X2_release_b84 L k2 = some res) : W p l e rmX2_release s m args below meth c H locs 0 0 (MQ below (va_Qv (fun (_ : Unit) => True) (fun _ t => va_P D vwCl (wA cs ad (va_up Ls i res) Hs T) t.heap) (Afr ad s.heap.size)) args s 0 0 (Afr ad s.heap.size)) (F0 m 84 ls []) := by
  unfold f_X2_release_b84 at h
  refine lv_aload_n C.1 C.2.1 dX2_release_84 rfl (lv_at hl 0 rfl) ?_
  refine lv_bipush (v := 6) C.1 C.2.1 dX2_release_85 (by decide) ?_
  refine lv_iconst (v := (-1)) C.1 C.2.1 dX2_release_87 (by decide) ?_
  obtain ⟨L1, eL1, h⟩ := lt_out h
  refine k_iast C G hP hS (v_row (i := i) hi hk2) (chk_in rfl) (j := 6) rfl (v_rowS (i := i) hi hk2) dX2_release_88 (fun H locs hP hS => ?_)
  rw [← eL1] at hP
  refine lv_aload_n C.1 C.2.1 dX2_release_89 rfl (lv_at hl 0 rfl) ?_
  refine lv_bipush (v := 13) C.1 C.2.1 dX2_release_90 (by decide) ?_
  refine lv_dup2_11 C.1 C.2.1 dX2_release_92 rfl rfl ?_
  obtain ⟨v2, ev2, h⟩ := lt_out h
  refine k_iald C G hP (v_row (i := i) hi hk2) (chk_in rfl) (j := 13) rfl ev2 dX2_release_93 ?_
  refine lv_iconst (v := 1) C.1 C.2.1 dX2_release_94 (by decide) ?_
  obtain ⟨v3, ev3, h⟩ := lt_out h
  refine k_iadd C ev3 dX2_release_95 ?_
  obtain ⟨L4, eL4, h⟩ := lt_out h
  refine k_iast C G hP hS (v_row (i := i) hi hk2) (chk_in rfl) (j := 13) rfl (v_rowS (i := i) hi hk2) dX2_release_96 (fun H locs hP hS => ?_)
  rw [← eL4] at hP
  cases h
  exact k_vret C hP hS dX2_release_97
set_option maxRecDepth 100000 in
set_option maxHeartbeats 4000000 in
theorem w_X2_release_b64 {res : SL} (C : Cx p s m args meth c cX2_release 4 none RX2 wsX2_release) (G : Gx D cs ad s) {i : Nat} (hi : i < 6) {Ls : Nat → SL} {Hs : SL} {T : SL} {L : SL} {k2 : Nat} {H : Heap} {locs : List Loc} {ls : Array Slot} (hP : va_P D vwCl (wA cs ad (va_up Ls i L) Hs T) H) (hS : va_S (Afr ad s.heap.size) s.heap H locs) (hl : lv_has ls 4 [(2, .ref (ad (5 + 14 * i + k2)))]) (hk2 : 2 ≤ k2 ∧ k2 < 10) (h : f_X2_release_b64 L k2 = some res) : W p l e rmX2_release s m args below meth c H locs 0 0 (MQ below (va_Qv (fun (_ : Unit) => True) (fun _ t => va_P D vwCl (wA cs ad (va_up Ls i res) Hs T) t.heap) (Afr ad s.heap.size)) args s 0 0 (Afr ad s.heap.size)) (F0 m 64 ls []) := by
  unfold f_X2_release_b64 at h
  refine lv_aload_n C.1 C.2.1 dX2_release_64 rfl (lv_at hl 0 rfl) ?_
  refine lv_iconst (v := 5) C.1 C.2.1 dX2_release_65 (by decide) ?_
  obtain ⟨v1, ev1, h⟩ := lt_out h
  refine k_iald C G hP (v_row (i := i) hi hk2) (chk_in rfl) (j := 5) rfl ev1 dX2_release_66 ?_
  refine lv_aload_n C.1 C.2.1 dX2_release_67 rfl (lv_at hl 0 rfl) ?_
  refine lv_iconst (v := 4) C.1 C.2.1 dX2_release_68 (by decide) ?_
  obtain ⟨v2, ev2, h⟩ := lt_out h
  refine k_iald C G hP (v_row (i := i) hi hk2) (chk_in rfl) (j := 4) rfl ev2 dX2_release_69 ?_
  refine lv_icmp_ge (tgt := 83) C.1 C.2.1 dX2_release_70 (by decide) (fun c3 => ?_) (fun c3 => ?_)
  · have h := if_t c3 h
    cases h
    exact k_vret C hP hS dX2_release_83
  · have h := if_f c3 h
    refine lv_aload_n C.1 C.2.1 dX2_release_73 rfl (lv_at hl 0 rfl) ?_
    refine lv_iconst (v := 5) C.1 C.2.1 dX2_release_74 (by decide) ?_
    refine lv_dup2_11 C.1 C.2.1 dX2_release_75 rfl rfl ?_
    obtain ⟨v4, ev4, h⟩ := lt_out h
    refine k_iald C G hP (v_row (i := i) hi hk2) (chk_in rfl) (j := 5) rfl ev4 dX2_release_76 ?_
    refine lv_iconst (v := 1) C.1 C.2.1 dX2_release_77 (by decide) ?_
    obtain ⟨v5, ev5, h⟩ := lt_out h
    refine k_iadd C ev5 dX2_release_78 ?_
    obtain ⟨L6, eL6, h⟩ := lt_out h
    refine k_iast C G hP hS (v_row (i := i) hi hk2) (chk_in rfl) (j := 5) rfl (v_rowS (i := i) hi hk2) dX2_release_79 (fun H locs hP hS => ?_)
    rw [← eL6] at hP
    refine lv_goto (tgt := 84) C.1 C.2.1 dX2_release_80 (by decide) ?_
    exact w_X2_release_b84 C G hi hP hS (lv_sub hl [0] rfl) hk2 h
set_option maxRecDepth 100000 in
set_option maxHeartbeats 4000000 in
theorem w_X2_release_e {res : SL} (C : Cx p s m args meth c cX2_release 4 none RX2 wsX2_release) (G : Gx D cs ad s) {i : Nat} (hi : i < 6) {Ls : Nat → SL} {Hs : SL} {T : SL} {L : SL} {x1 : Int32} {H : Heap} {locs : List Loc} {ls : Array Slot} (hP : va_P D vwCl (wA cs ad (va_up Ls i L) Hs T) H) (hS : va_S (Afr ad s.heap.size) s.heap H locs) (hl : lv_has ls 4 [(0, .ref (ad (5 + 14 * i + 0))), (1, .int x1)]) (h : f_X2_release L x1 = some res) : W p l e rmX2_release s m args below meth c H locs 0 0 (MQ below (va_Qv (fun (_ : Unit) => True) (fun _ t => va_P D vwCl (wA cs ad (va_up Ls i res) Hs T) t.heap) (Afr ad s.heap.size)) args s 0 0 (Afr ad s.heap.size)) (F0 m 0 ls []) := by
  unfold f_X2_release at h
  refine lv_aload_n C.1 C.2.1 dX2_release_0 rfl (lv_at hl 0 rfl) ?_
  refine k_getf C G hP (v_obj (i := i) hi) rfl 0 (by decide) n_X2_release_X2 q_X2_release_0 (v := .ref (ad (5 + 14 * i + 1))) rfl dX2_release_1 ?_
  refine lv_iload_n C.1 C.2.1 dX2_release_4 rfl (lv_at hl 1 rfl) ?_
  obtain ⟨g1, h⟩ := gd_out h
  have g1 := chk_in g1
  obtain ⟨kq2, ekq2, h⟩ := lt_out h
  have hkq2 : 2 ≤ kq2 ∧ kq2 < 10 := row_k g1 ekq2
  refine k_aaldR C G hP (v_rows (i := i) hi) g1 (b := ad (5 + 14 * i + kq2)) (by rw [ekq2]) dX2_release_5 ?_
  refine lv_astore_n (lv' := [(2, .ref (ad (5 + 14 * i + kq2))), (0, .ref (ad (5 + 14 * i + 0))), (1, .int x1)]) C.1 C.2.1 dX2_release_6 rfl hl (by decide) rfl (fun ls hl => ?_)
  refine lv_iload_n C.1 C.2.1 dX2_release_7 rfl (lv_at hl 2 rfl) ?_
  refine lv_aload_n C.1 C.2.1 dX2_release_8 rfl (lv_at hl 1 rfl) ?_
  obtain ⟨v3, ev3, h⟩ := lt_out h
  refine k_geti C G hP (v_obj (i := i) hi) rfl 2 (by decide) n_X2_release_X2 q_X2_release_1 rfl ev3 dX2_release_9 ?_
  refine lv_iconst (v := 1) C.1 C.2.1 dX2_release_12 (by decide) ?_
  obtain ⟨v4, ev4, h⟩ := lt_out h
  refine k_isub C ev4 dX2_release_13 ?_
  refine lv_icmp_ge (tgt := 84) C.1 C.2.1 dX2_release_14 (by decide) (fun c5 => ?_) (fun c5 => ?_)
  · have h := if_t c5 h
    exact w_X2_release_b84 C G hi hP hS (lv_sub hl [0] rfl) hkq2 h
  · have h := if_f c5 h
    refine lv_aload_n C.1 C.2.1 dX2_release_17 rfl (lv_at hl 1 rfl) ?_
    refine k_getf C G hP (v_obj (i := i) hi) rfl 0 (by decide) n_X2_release_X2 q_X2_release_0 (v := .ref (ad (5 + 14 * i + 1))) rfl dX2_release_18 ?_
    refine lv_iload_n C.1 C.2.1 dX2_release_21 rfl (lv_at hl 2 rfl) ?_
    refine lv_iconst (v := 1) C.1 C.2.1 dX2_release_22 (by decide) ?_
    obtain ⟨v6, ev6, h⟩ := lt_out h
    refine k_iadd C ev6 dX2_release_23 ?_
    obtain ⟨g7, h⟩ := gd_out h
    have g7 := chk_in g7
    obtain ⟨kq8, ekq8, h⟩ := lt_out h
    have hkq8 : 2 ≤ kq8 ∧ kq8 < 10 := row_k g7 ekq8
    refine k_aaldR C G hP (v_rows (i := i) hi) g7 (b := ad (5 + 14 * i + kq8)) (by rw [ekq8]) dX2_release_24 ?_
    refine lv_astore_n (lv' := [(3, .ref (ad (5 + 14 * i + kq8))), (2, .ref (ad (5 + 14 * i + kq2))), (0, .ref (ad (5 + 14 * i + 0))), (1, .int x1)]) C.1 C.2.1 dX2_release_25 rfl hl (by decide) rfl (fun ls hl => ?_)
    refine lv_aload_n C.1 C.2.1 dX2_release_26 rfl (lv_at hl 1 rfl) ?_
    refine lv_iconst (v := 5) C.1 C.2.1 dX2_release_27 (by decide) ?_
    obtain ⟨v9, ev9, h⟩ := lt_out h
    refine k_iald C G hP (v_row (i := i) hi hkq2) (chk_in rfl) (j := 5) rfl ev9 dX2_release_28 ?_
    refine lv_if_ne (tgt := 64) C.1 C.2.1 dX2_release_29 (by decide) (fun c10 => ?_) (fun c10 => ?_)
    · have h := if_t c10 h
      exact w_X2_release_b64 C G hi hP hS (lv_sub hl [1] rfl) hkq2 h
    · have h := if_n c10 h
      refine lv_aload_n C.1 C.2.1 dX2_release_32 rfl (lv_at hl 0 rfl) ?_
      refine lv_bipush (v := 6) C.1 C.2.1 dX2_release_33 (by decide) ?_
      obtain ⟨v11, ev11, h⟩ := lt_out h
      refine k_iald C G hP (v_row (i := i) hi hkq8) (chk_in rfl) (j := 6) rfl ev11 dX2_release_35 ?_
      refine lv_iconst (v := (-1)) C.1 C.2.1 dX2_release_36 (by decide) ?_
      refine lv_icmp_ne (tgt := 64) C.1 C.2.1 dX2_release_37 (by decide) (fun c12 => ?_) (fun c12 => ?_)
      · have h := if_t c12 h
        exact w_X2_release_b64 C G hi hP hS (lv_sub hl [1] rfl) hkq2 h
      · have h := if_n c12 h
        refine lv_aload_n C.1 C.2.1 dX2_release_40 rfl (lv_at hl 2 rfl) ?_
        refine k_getf C G hP (v_obj (i := i) hi) rfl 1 (by decide) n_X2_release_X2 q_X2_release_2 (v := .ref (ad (5 + 14 * i + 10))) rfl dX2_release_41 ?_
        refine lv_iload_n C.1 C.2.1 dX2_release_44 rfl (lv_at hl 3 rfl) ?_
        refine lv_iconst (v := 1) C.1 C.2.1 dX2_release_45 (by decide) ?_
        obtain ⟨v13, ev13, h⟩ := lt_out h
        refine k_iadd C ev13 dX2_release_46 ?_
        obtain ⟨r14, c15, h⟩ := bd_out h
        refine k_callVi C G hP hS (m_X4_isDown l G.2.1 _ (i := i) hi c15) (v_sto (i := i) hi) rfl (cwV 1 C.2.2.2.2.2.1 gX2_release_X4_isDown rfl rfl rfl (by decide +kernel) ⟨Nat.le_of_ble_eq_true rfl, Nat.le_of_ble_eq_true rfl⟩) (As := [.int v13]) rfl hl.1 rfl (Nat.le_of_ble_eq_true rfl) dX2_release_47 ⟨Nat.le_of_ble_eq_true rfl, Nat.le_of_ble_eq_true rfl⟩ (fun H locs hP hS => ?_)
        refine lv_if_ne (tgt := 64) C.1 C.2.1 dX2_release_50 (by decide) (fun c16 => ?_) (fun c16 => ?_)
        · have h := if_t c16 h
          exact w_X2_release_b64 C G hi hP hS (lv_sub hl [1] rfl) hkq2 h
        · have h := if_n c16 h
          refine lv_aload_n C.1 C.2.1 dX2_release_53 rfl (lv_at hl 0 rfl) ?_
          refine lv_bipush (v := 6) C.1 C.2.1 dX2_release_54 (by decide) ?_
          refine lv_aload_n C.1 C.2.1 dX2_release_56 rfl (lv_at hl 0 rfl) ?_
          obtain ⟨r17, c18, h⟩ := bd_out h
          refine k_callSi C G hP hS (m_X2_presentCycle l G.2.1 _ (i := i) hi hkq8 c18) (va_cwS 1 C.2.2.2.2.2.1 gX2_release_X2_presentCycle rfl rfl rfl (by decide +kernel) ⟨Nat.le_of_ble_eq_true rfl, Nat.le_of_ble_eq_true rfl⟩) (As := [.ref (ad (5 + 14 * i + kq8))]) rfl hl.1 rfl (Nat.le_of_ble_eq_true rfl) dX2_release_57 ⟨Nat.le_of_ble_eq_true rfl, Nat.le_of_ble_eq_true rfl⟩ (fun H locs hP hS => ?_)
          obtain ⟨L19, eL19, h⟩ := lt_out h
          refine k_iast C G hP hS (v_row (i := i) hi hkq8) (chk_in rfl) (j := 6) rfl (v_rowS (i := i) hi hkq8) dX2_release_60 (fun H locs hP hS => ?_)
          rw [← eL19] at hP
          refine lv_goto (tgt := 84) C.1 C.2.1 dX2_release_61 (by decide) ?_
          exact w_X2_release_b84 C G hi hP hS (lv_sub hl [1] rfl) hkq2 h
set_option maxRecDepth 100000 in
set_option maxHeartbeats 4000000 in
theorem m_X2_release (l : Launch) {D : va_G} {cs : Nat → ClassId} {ad : Nat → Nat} (hAd : adOK ad) (sz : Nat) {i : Nat} (hi : i < 6) {Ls : Nat → SL} {Hs : SL} {T : SL} {L : SL} {x1 : Int32} {res : SL} (h : f_X2_release L x1 = some res) : Met l yX2_release wsX2_release rmX2_release (PA D cs sz (wA cs ad (va_up Ls i L) Hs T) [.ref (ad (5 + 14 * i + 0)), .int x1]) (va_Qv (fun (_ : Unit) => True) (fun _ t => va_P D vwCl (wA cs ad (va_up Ls i res) Hs T) t.heap) (Afr ad sz)) 0 0 (Afr ad sz) :=
  k_met (by decide) rfl (Nat.le_of_ble_eq_true rfl) hAd (fun p e s m below meth c ls C G hP hsz hl hS => by
    subst hsz
    exact w_X2_release_e C G hi hP hS hl  h)
/-! X2 takeBottle -/
abbrev rmX2_takeBottle : Room := { frames := 1, cells := 0, slots := 0, locals := 20 }
theorem q_X2_takeBottle_0 : Cond.fieldLink RX2 11 "LineBuffers$Line" "rows" "[[I" ∈ wsX2_takeBottle := List.mem_of_getElem? (i := 1) rfl
theorem n_X2_takeBottle_X2 : ∀ x ∈ u_ws RX2 TX2 4, x ∈ wsX2_takeBottle := fun x h => List.mem_cons_of_mem _ (List.mem_append_right _ h)
set_option maxRecDepth 100000 in
set_option maxHeartbeats 4000000 in
theorem w_X2_takeBottle_b34 {res : SL} (C : Cx p s m args meth c cX2_takeBottle 4 none RX2 wsX2_takeBottle) (G : Gx D cs ad s) {i : Nat} (hi : i < 6) {Ls : Nat → SL} {Hs : SL} {T : SL} {L : SL} {k2 : Nat} {H : Heap} {locs : List Loc} {ls : Array Slot} (hP : va_P D vwCl (wA cs ad (va_up Ls i L) Hs T) H) (hS : va_S (Afr ad s.heap.size) s.heap H locs) (hl : lv_has ls 4 [(2, .ref (ad (5 + 14 * i + k2)))]) (hk2 : 2 ≤ k2 ∧ k2 < 10) (h : f_X2_takeBottle_b34 L k2 = some res) : W p l e rmX2_takeBottle s m args below meth c H locs 0 0 (MQ below (va_Qv (fun (_ : Unit) => True) (fun _ t => va_P D vwCl (wA cs ad (va_up Ls i res) Hs T) t.heap) (Afr ad s.heap.size)) args s 0 0 (Afr ad s.heap.size)) (F0 m 34 ls []) := by
  unfold f_X2_takeBottle_b34 at h
  refine lv_aload_n C.1 C.2.1 dX2_takeBottle_34 rfl (lv_at hl 0 rfl) ?_
  refine lv_bipush (v := 6) C.1 C.2.1 dX2_takeBottle_35 (by decide) ?_
  refine lv_aload_n C.1 C.2.1 dX2_takeBottle_37 rfl (lv_at hl 0 rfl) ?_
  obtain ⟨r1, c2, h⟩ := bd_out h
  refine k_callSi C G hP hS (m_X2_presentCycle l G.2.1 _ (i := i) hi hk2 c2) (va_cwS 1 C.2.2.2.2.2.1 gX2_takeBottle_X2_presentCycle rfl rfl rfl (by decide +kernel) ⟨Nat.le_of_ble_eq_true rfl, Nat.le_of_ble_eq_true rfl⟩) (As := [.ref (ad (5 + 14 * i + k2))]) rfl hl.1 rfl (Nat.le_of_ble_eq_true rfl) dX2_takeBottle_38 ⟨Nat.le_of_ble_eq_true rfl, Nat.le_of_ble_eq_true rfl⟩ (fun H locs hP hS => ?_)
  obtain ⟨L3, eL3, h⟩ := lt_out h
  refine k_iast C G hP hS (v_row (i := i) hi hk2) (chk_in rfl) (j := 6) rfl (v_rowS (i := i) hi hk2) dX2_takeBottle_41 (fun H locs hP hS => ?_)
  rw [← eL3] at hP
  cases h
  exact k_vret C hP hS dX2_takeBottle_42
set_option maxRecDepth 100000 in
set_option maxHeartbeats 4000000 in
theorem w_X2_takeBottle_e {res : SL} (C : Cx p s m args meth c cX2_takeBottle 4 none RX2 wsX2_takeBottle) (G : Gx D cs ad s) {i : Nat} (hi : i < 6) {Ls : Nat → SL} {Hs : SL} {T : SL} {L : SL} {x1 : Int32} {H : Heap} {locs : List Loc} {ls : Array Slot} (hP : va_P D vwCl (wA cs ad (va_up Ls i L) Hs T) H) (hS : va_S (Afr ad s.heap.size) s.heap H locs) (hl : lv_has ls 4 [(0, .ref (ad (5 + 14 * i + 0))), (1, .int x1)]) (h : f_X2_takeBottle L x1 = some res) : W p l e rmX2_takeBottle s m args below meth c H locs 0 0 (MQ below (va_Qv (fun (_ : Unit) => True) (fun _ t => va_P D vwCl (wA cs ad (va_up Ls i res) Hs T) t.heap) (Afr ad s.heap.size)) args s 0 0 (Afr ad s.heap.size)) (F0 m 0 ls []) := by
  unfold f_X2_takeBottle at h
  refine lv_aload_n C.1 C.2.1 dX2_takeBottle_0 rfl (lv_at hl 0 rfl) ?_
  refine k_getf C G hP (v_obj (i := i) hi) rfl 0 (by decide) n_X2_takeBottle_X2 q_X2_takeBottle_0 (v := .ref (ad (5 + 14 * i + 1))) rfl dX2_takeBottle_1 ?_
  refine lv_iload_n C.1 C.2.1 dX2_takeBottle_4 rfl (lv_at hl 1 rfl) ?_
  obtain ⟨g1, h⟩ := gd_out h
  have g1 := chk_in g1
  obtain ⟨kq2, ekq2, h⟩ := lt_out h
  have hkq2 : 2 ≤ kq2 ∧ kq2 < 10 := row_k g1 ekq2
  refine k_aaldR C G hP (v_rows (i := i) hi) g1 (b := ad (5 + 14 * i + kq2)) (by rw [ekq2]) dX2_takeBottle_5 ?_
  refine lv_astore_n (lv' := [(2, .ref (ad (5 + 14 * i + kq2))), (0, .ref (ad (5 + 14 * i + 0))), (1, .int x1)]) C.1 C.2.1 dX2_takeBottle_6 rfl hl (by decide) rfl (fun ls hl => ?_)
  refine lv_iload_n C.1 C.2.1 dX2_takeBottle_7 rfl (lv_at hl 2 rfl) ?_
  refine lv_if_le (tgt := 34) C.1 C.2.1 dX2_takeBottle_8 (by decide) (fun c3 => ?_) (fun c3 => ?_)
  · have h := if_t c3 h
    exact w_X2_takeBottle_b34 C G hi hP hS (lv_sub hl [0] rfl) hkq2 h
  · have h := if_f c3 h
    refine lv_aload_n C.1 C.2.1 dX2_takeBottle_11 rfl (lv_at hl 1 rfl) ?_
    refine k_getf C G hP (v_obj (i := i) hi) rfl 0 (by decide) n_X2_takeBottle_X2 q_X2_takeBottle_0 (v := .ref (ad (5 + 14 * i + 1))) rfl dX2_takeBottle_12 ?_
    refine lv_iload_n C.1 C.2.1 dX2_takeBottle_15 rfl (lv_at hl 2 rfl) ?_
    refine lv_iconst (v := 1) C.1 C.2.1 dX2_takeBottle_16 (by decide) ?_
    obtain ⟨v4, ev4, h⟩ := lt_out h
    refine k_isub C ev4 dX2_takeBottle_17 ?_
    obtain ⟨g5, h⟩ := gd_out h
    have g5 := chk_in g5
    obtain ⟨kq6, ekq6, h⟩ := lt_out h
    have hkq6 : 2 ≤ kq6 ∧ kq6 < 10 := row_k g5 ekq6
    refine k_aaldR C G hP (v_rows (i := i) hi) g5 (b := ad (5 + 14 * i + kq6)) (by rw [ekq6]) dX2_takeBottle_18 ?_
    refine lv_astore_n (lv' := [(3, .ref (ad (5 + 14 * i + kq6))), (2, .ref (ad (5 + 14 * i + kq2))), (0, .ref (ad (5 + 14 * i + 0))), (1, .int x1)]) C.1 C.2.1 dX2_takeBottle_19 rfl hl (by decide) rfl (fun ls hl => ?_)
    refine lv_aload_n C.1 C.2.1 dX2_takeBottle_20 rfl (lv_at hl 0 rfl) ?_
    refine lv_iconst (v := 5) C.1 C.2.1 dX2_takeBottle_21 (by decide) ?_
    obtain ⟨v7, ev7, h⟩ := lt_out h
    refine k_iald C G hP (v_row (i := i) hi hkq6) (chk_in rfl) (j := 5) rfl ev7 dX2_takeBottle_22 ?_
    refine lv_if_ne (tgt := 27) C.1 C.2.1 dX2_takeBottle_23 (by decide) (fun c8 => ?_) (fun c8 => ?_)
    · have h := if_t c8 h
      refine lv_aload_n C.1 C.2.1 dX2_takeBottle_27 rfl (lv_at hl 0 rfl) ?_
      refine lv_iconst (v := 5) C.1 C.2.1 dX2_takeBottle_28 (by decide) ?_
      refine lv_dup2_11 C.1 C.2.1 dX2_takeBottle_29 rfl rfl ?_
      obtain ⟨v9, ev9, h⟩ := lt_out h
      refine k_iald C G hP (v_row (i := i) hi hkq6) (chk_in rfl) (j := 5) rfl ev9 dX2_takeBottle_30 ?_
      refine lv_iconst (v := 1) C.1 C.2.1 dX2_takeBottle_31 (by decide) ?_
      obtain ⟨v10, ev10, h⟩ := lt_out h
      refine k_isub C ev10 dX2_takeBottle_32 ?_
      obtain ⟨L11, eL11, h⟩ := lt_out h
      refine k_iast C G hP hS (v_row (i := i) hi hkq6) (chk_in rfl) (j := 5) rfl (v_rowS (i := i) hi hkq6) dX2_takeBottle_33 (fun H locs hP hS => ?_)
      rw [← eL11] at hP
      exact w_X2_takeBottle_b34 C G hi hP hS (lv_sub hl [1] rfl) hkq2 h
    · have h := if_n c8 h
      cases h
      exact k_vret C hP hS dX2_takeBottle_26
set_option maxRecDepth 100000 in
set_option maxHeartbeats 4000000 in
theorem m_X2_takeBottle (l : Launch) {D : va_G} {cs : Nat → ClassId} {ad : Nat → Nat} (hAd : adOK ad) (sz : Nat) {i : Nat} (hi : i < 6) {Ls : Nat → SL} {Hs : SL} {T : SL} {L : SL} {x1 : Int32} {res : SL} (h : f_X2_takeBottle L x1 = some res) : Met l yX2_takeBottle wsX2_takeBottle rmX2_takeBottle (PA D cs sz (wA cs ad (va_up Ls i L) Hs T) [.ref (ad (5 + 14 * i + 0)), .int x1]) (va_Qv (fun (_ : Unit) => True) (fun _ t => va_P D vwCl (wA cs ad (va_up Ls i res) Hs T) t.heap) (Afr ad sz)) 0 0 (Afr ad sz) :=
  k_met (by decide) rfl (Nat.le_of_ble_eq_true rfl) hAd (fun p e s m below meth c ls C G hP hsz hl hS => by
    subst hsz
    exact w_X2_takeBottle_e C G hi hP hS hl  h)
/-! X2 takeTurn -/
abbrev rmX2_takeTurn : Room := { frames := 2, cells := 0, slots := 0, locals := 44 }
theorem q_X2_takeTurn_0 : Cond.fieldLink RX2 11 "LineBuffers$Line" "rows" "[[I" ∈ wsX2_takeTurn := List.mem_of_getElem? (i := 1) rfl
theorem q_X2_takeTurn_1 : Cond.fieldLink RX2 19 "LineBuffers$Line" "stops" "LLineBuffers$Stops;" ∈ wsX2_takeTurn := List.mem_of_getElem? (i := 2) rfl
theorem n_X2_takeTurn_X2 : ∀ x ∈ u_ws RX2 TX2 4, x ∈ wsX2_takeTurn := fun x h => List.mem_cons_of_mem _ (List.mem_append_left _ (List.mem_append_right _ h))
set_option maxRecDepth 100000 in
set_option maxHeartbeats 4000000 in
theorem w_X2_takeTurn_b102 {res : SL} (C : Cx p s m args meth c cX2_takeTurn 3 none RX2 wsX2_takeTurn) (G : Gx D cs ad s) {i : Nat} (hi : i < 6) {Ls : Nat → SL} {Hs : SL} {T : SL} {L : SL} {kk0 : Nat} {s1 : Int32} {H : Heap} {locs : List Loc} {ls : Array Slot} (hP : va_P D vwCl (wA cs ad (va_up Ls i L) Hs T) H) (hS : va_S (Afr ad s.heap.size) s.heap H locs) (hl : lv_has ls 3 []) (hkk0 : 2 ≤ kk0 ∧ kk0 < 10) (h : f_X2_takeTurn_b102 L kk0 s1 = some res) : W p l e rmX2_takeTurn s m args below meth c H locs 0 0 (MQ below (va_Qv (fun (_ : Unit) => True) (fun _ t => va_P D vwCl (wA cs ad (va_up Ls i res) Hs T) t.heap) (Afr ad s.heap.size)) args s 0 0 (Afr ad s.heap.size)) (F0 m 102 ls [.int s1, .ref (ad (5 + 14 * i + kk0))]) := by
  unfold f_X2_takeTurn_b102 at h
  obtain ⟨L1, c2, h⟩ := bd_out h
  refine k_callSv C G hP hS (m_X2_noteTurn l G.2.1 _ (i := i) hi hkk0 c2) (va_cwS 2 C.2.2.2.2.2.1 gX2_takeTurn_X2_noteTurn rfl rfl rfl (by decide +kernel) ⟨Nat.le_of_ble_eq_true rfl, Nat.le_of_ble_eq_true rfl⟩) (As := [.ref (ad (5 + 14 * i + kk0)), .int s1]) rfl hl.1 rfl (Nat.le_of_ble_eq_true rfl) dX2_takeTurn_102 ⟨Nat.le_of_ble_eq_true rfl, Nat.le_of_ble_eq_true rfl⟩ (fun H locs hP hS => ?_)
  cases h
  exact k_vret C hP hS dX2_takeTurn_105
set_option maxRecDepth 100000 in
set_option maxHeartbeats 4000000 in
theorem w_X2_takeTurn_b54 {res : SL} (C : Cx p s m args meth c cX2_takeTurn 3 none RX2 wsX2_takeTurn) (G : Gx D cs ad s) {i : Nat} (hi : i < 6) {Ls : Nat → SL} {Hs : SL} {T : SL} {L : SL} {x1 : Int32} {k2 : Nat} {H : Heap} {locs : List Loc} {ls : Array Slot} (hP : va_P D vwCl (wA cs ad (va_up Ls i L) Hs T) H) (hS : va_S (Afr ad s.heap.size) s.heap H locs) (hl : lv_has ls 3 [(0, .ref (ad (5 + 14 * i + 0))), (1, .int x1), (2, .ref (ad (5 + 14 * i + k2)))]) (hk2 : 2 ≤ k2 ∧ k2 < 10) (h : f_X2_takeTurn_b54 L x1 k2 = some res) : W p l e rmX2_takeTurn s m args below meth c H locs 0 0 (MQ below (va_Qv (fun (_ : Unit) => True) (fun _ t => va_P D vwCl (wA cs ad (va_up Ls i res) Hs T) t.heap) (Afr ad s.heap.size)) args s 0 0 (Afr ad s.heap.size)) (F0 m 54 ls []) := by
  unfold f_X2_takeTurn_b54 at h
  refine lv_aload_n C.1 C.2.1 dX2_takeTurn_54 rfl (lv_at hl 2 rfl) ?_
  refine lv_bipush (v := 6) C.1 C.2.1 dX2_takeTurn_55 (by decide) ?_
  obtain ⟨v1, ev1, h⟩ := lt_out h
  refine k_iald C G hP (v_row (i := i) hi hk2) (chk_in rfl) (j := 6) rfl ev1 dX2_takeTurn_57 ?_
  refine lv_if_le (tgt := 89) C.1 C.2.1 dX2_takeTurn_58 (by decide) (fun c2 => ?_) (fun c2 => ?_)
  · have h := if_t c2 h
    refine lv_aload_n C.1 C.2.1 dX2_takeTurn_89 rfl (lv_at hl 2 rfl) ?_
    refine lv_aload_n C.1 C.2.1 dX2_takeTurn_90 rfl (lv_at hl 2 rfl) ?_
    refine lv_bipush (v := 6) C.1 C.2.1 dX2_takeTurn_91 (by decide) ?_
    obtain ⟨v3, ev3, h⟩ := lt_out h
    refine k_iald C G hP (v_row (i := i) hi hk2) (chk_in rfl) (j := 6) rfl ev3 dX2_takeTurn_93 ?_
    refine lv_if_ne (tgt := 101) C.1 C.2.1 dX2_takeTurn_94 (by decide) (fun c4 => ?_) (fun c4 => ?_)
    · have h := if_t c4 h
      refine lv_iconst (v := 2) C.1 C.2.1 dX2_takeTurn_101 (by decide) ?_
      exact w_X2_takeTurn_b102 C G hi hP hS (lv_sub hl [] rfl) hk2 h
    · have h := if_n c4 h
      refine lv_iconst (v := 3) C.1 C.2.1 dX2_takeTurn_97 (by decide) ?_
      refine lv_goto (tgt := 102) C.1 C.2.1 dX2_takeTurn_98 (by decide) ?_
      exact w_X2_takeTurn_b102 C G hi hP hS (lv_sub hl [] rfl) hk2 h
  · have h := if_f c2 h
    refine lv_aload_n C.1 C.2.1 dX2_takeTurn_61 rfl (lv_at hl 2 rfl) ?_
    refine lv_bipush (v := 6) C.1 C.2.1 dX2_takeTurn_62 (by decide) ?_
    refine lv_dup2_11 C.1 C.2.1 dX2_takeTurn_64 rfl rfl ?_
    obtain ⟨v5, ev5, h⟩ := lt_out h
    refine k_iald C G hP (v_row (i := i) hi hk2) (chk_in rfl) (j := 6) rfl ev5 dX2_takeTurn_65 ?_
    refine lv_iconst (v := 1) C.1 C.2.1 dX2_takeTurn_66 (by decide) ?_
    obtain ⟨v6, ev6, h⟩ := lt_out h
    refine k_isub C ev6 dX2_takeTurn_67 ?_
    obtain ⟨L7, eL7, h⟩ := lt_out h
    refine k_iast C G hP hS (v_row (i := i) hi hk2) (chk_in rfl) (j := 6) rfl (v_rowS (i := i) hi hk2) dX2_takeTurn_68 (fun H locs hP hS => ?_)
    rw [← eL7] at hP
    refine lv_aload_n C.1 C.2.1 dX2_takeTurn_69 rfl (lv_at hl 2 rfl) ?_
    refine lv_iconst (v := 1) C.1 C.2.1 dX2_takeTurn_70 (by decide) ?_
    obtain ⟨L8, c9, h⟩ := bd_out h
    refine k_callSv C G hP hS (m_X2_noteTurn l G.2.1 _ (i := i) hi hk2 c9) (va_cwS 2 C.2.2.2.2.2.1 gX2_takeTurn_X2_noteTurn rfl rfl rfl (by decide +kernel) ⟨Nat.le_of_ble_eq_true rfl, Nat.le_of_ble_eq_true rfl⟩) (As := [.ref (ad (5 + 14 * i + k2)), .int 1]) rfl hl.1 rfl (Nat.le_of_ble_eq_true rfl) dX2_takeTurn_71 ⟨Nat.le_of_ble_eq_true rfl, Nat.le_of_ble_eq_true rfl⟩ (fun H locs hP hS => ?_)
    refine lv_aload_n C.1 C.2.1 dX2_takeTurn_74 rfl (lv_at hl 2 rfl) ?_
    refine lv_bipush (v := 6) C.1 C.2.1 dX2_takeTurn_75 (by decide) ?_
    obtain ⟨v10, ev10, h⟩ := lt_out h
    refine k_iald C G hP (v_row (i := i) hi hk2) (chk_in rfl) (j := 6) rfl ev10 dX2_takeTurn_77 ?_
    refine lv_if_ne (tgt := 105) C.1 C.2.1 dX2_takeTurn_78 (by decide) (fun c11 => ?_) (fun c11 => ?_)
    · have h := if_t c11 h
      cases h
      exact k_vret C hP hS dX2_takeTurn_105
    · have h := if_n c11 h
      refine lv_aload_n C.1 C.2.1 dX2_takeTurn_81 rfl (lv_at hl 0 rfl) ?_
      refine lv_iload_n C.1 C.2.1 dX2_takeTurn_82 rfl (lv_at hl 1 rfl) ?_
      obtain ⟨L12, c13, h⟩ := bd_out h
      refine k_callVv C G hP hS (m_X2_release l G.2.1 _ (i := i) hi c13) (v_obj (i := i) hi) rfl (cwV 1 C.2.2.2.2.2.1 gX2_takeTurn_X2_release rfl rfl rfl (by decide +kernel) ⟨Nat.le_of_ble_eq_true rfl, Nat.le_of_ble_eq_true rfl⟩) (As := [.int x1]) rfl hl.1 rfl (Nat.le_of_ble_eq_true rfl) dX2_takeTurn_83 ⟨Nat.le_of_ble_eq_true rfl, Nat.le_of_ble_eq_true rfl⟩ (fun H locs hP hS => ?_)
      refine lv_goto (tgt := 105) C.1 C.2.1 dX2_takeTurn_86 (by decide) ?_
      cases h
      exact k_vret C hP hS dX2_takeTurn_105
set_option maxRecDepth 100000 in
set_option maxHeartbeats 4000000 in
theorem w_X2_takeTurn_b41 {res : SL} (C : Cx p s m args meth c cX2_takeTurn 3 none RX2 wsX2_takeTurn) (G : Gx D cs ad s) {i : Nat} (hi : i < 6) {Ls : Nat → SL} {Hs : SL} {T : SL} {L : SL} {x1 : Int32} {k2 : Nat} {H : Heap} {locs : List Loc} {ls : Array Slot} (hP : va_P D vwCl (wA cs ad (va_up Ls i L) Hs T) H) (hS : va_S (Afr ad s.heap.size) s.heap H locs) (hl : lv_has ls 3 [(0, .ref (ad (5 + 14 * i + 0))), (1, .int x1), (2, .ref (ad (5 + 14 * i + k2)))]) (hk2 : 2 ≤ k2 ∧ k2 < 10) (h : f_X2_takeTurn_b41 L x1 k2 = some res) : W p l e rmX2_takeTurn s m args below meth c H locs 0 0 (MQ below (va_Qv (fun (_ : Unit) => True) (fun _ t => va_P D vwCl (wA cs ad (va_up Ls i res) Hs T) t.heap) (Afr ad s.heap.size)) args s 0 0 (Afr ad s.heap.size)) (F0 m 41 ls []) := by
  unfold f_X2_takeTurn_b41 at h
  refine lv_aload_n C.1 C.2.1 dX2_takeTurn_41 rfl (lv_at hl 2 rfl) ?_
  refine lv_bipush (v := 6) C.1 C.2.1 dX2_takeTurn_42 (by decide) ?_
  obtain ⟨v1, ev1, h⟩ := lt_out h
  refine k_iald C G hP (v_row (i := i) hi hk2) (chk_in rfl) (j := 6) rfl ev1 dX2_takeTurn_44 ?_
  refine lv_iconst (v := (-1)) C.1 C.2.1 dX2_takeTurn_45 (by decide) ?_
  refine lv_icmp_ne (tgt := 54) C.1 C.2.1 dX2_takeTurn_46 (by decide) (fun c2 => ?_) (fun c2 => ?_)
  · have h := if_t c2 h
    exact w_X2_takeTurn_b54 C G hi hP hS (lv_sub hl [0, 1, 2] rfl) hk2 h
  · have h := if_n c2 h
    refine lv_aload_n C.1 C.2.1 dX2_takeTurn_49 rfl (lv_at hl 0 rfl) ?_
    refine lv_iload_n C.1 C.2.1 dX2_takeTurn_50 rfl (lv_at hl 1 rfl) ?_
    obtain ⟨L3, c4, h⟩ := bd_out h
    refine k_callVv C G hP hS (m_X2_takeBottle l G.2.1 _ (i := i) hi c4) (v_obj (i := i) hi) rfl (cwV 1 C.2.2.2.2.2.1 gX2_takeTurn_X2_takeBottle rfl rfl rfl (by decide +kernel) ⟨Nat.le_of_ble_eq_true rfl, Nat.le_of_ble_eq_true rfl⟩) (As := [.int x1]) rfl hl.1 rfl (Nat.le_of_ble_eq_true rfl) dX2_takeTurn_51 ⟨Nat.le_of_ble_eq_true rfl, Nat.le_of_ble_eq_true rfl⟩ (fun H locs hP hS => ?_)
    exact w_X2_takeTurn_b54 C G hi hP hS (lv_sub hl [0, 1, 2] rfl) hk2 h
set_option maxRecDepth 100000 in
set_option maxHeartbeats 4000000 in
theorem w_X2_takeTurn_e {res : SL} (C : Cx p s m args meth c cX2_takeTurn 3 none RX2 wsX2_takeTurn) (G : Gx D cs ad s) {i : Nat} (hi : i < 6) {Ls : Nat → SL} {Hs : SL} {T : SL} {L : SL} {x1 : Int32} {H : Heap} {locs : List Loc} {ls : Array Slot} (hP : va_P D vwCl (wA cs ad (va_up Ls i L) Hs T) H) (hS : va_S (Afr ad s.heap.size) s.heap H locs) (hl : lv_has ls 3 [(0, .ref (ad (5 + 14 * i + 0))), (1, .int x1)]) (h : f_X2_takeTurn L x1 = some res) : W p l e rmX2_takeTurn s m args below meth c H locs 0 0 (MQ below (va_Qv (fun (_ : Unit) => True) (fun _ t => va_P D vwCl (wA cs ad (va_up Ls i res) Hs T) t.heap) (Afr ad s.heap.size)) args s 0 0 (Afr ad s.heap.size)) (F0 m 0 ls []) := by
  unfold f_X2_takeTurn at h
  refine lv_aload_n C.1 C.2.1 dX2_takeTurn_0 rfl (lv_at hl 0 rfl) ?_
  refine k_getf C G hP (v_obj (i := i) hi) rfl 0 (by decide) n_X2_takeTurn_X2 q_X2_takeTurn_0 (v := .ref (ad (5 + 14 * i + 1))) rfl dX2_takeTurn_1 ?_
  refine lv_iload_n C.1 C.2.1 dX2_takeTurn_4 rfl (lv_at hl 1 rfl) ?_
  obtain ⟨g1, h⟩ := gd_out h
  have g1 := chk_in g1
  obtain ⟨kq2, ekq2, h⟩ := lt_out h
  have hkq2 : 2 ≤ kq2 ∧ kq2 < 10 := row_k g1 ekq2
  refine k_aaldR C G hP (v_rows (i := i) hi) g1 (b := ad (5 + 14 * i + kq2)) (by rw [ekq2]) dX2_takeTurn_5 ?_
  refine lv_astore_n (lv' := [(2, .ref (ad (5 + 14 * i + kq2))), (0, .ref (ad (5 + 14 * i + 0))), (1, .int x1)]) C.1 C.2.1 dX2_takeTurn_6 rfl hl (by decide) rfl (fun ls hl => ?_)
  refine lv_aload_n C.1 C.2.1 dX2_takeTurn_7 rfl (lv_at hl 1 rfl) ?_
  refine lv_iload_n C.1 C.2.1 dX2_takeTurn_8 rfl (lv_at hl 2 rfl) ?_
  obtain ⟨L3, c4, h⟩ := bd_out h
  refine k_callVv C G hP hS (m_X2_chooseSpeed l G.2.1 _ (i := i) hi c4) (v_obj (i := i) hi) rfl (cwV 1 C.2.2.2.2.2.1 gX2_takeTurn_X2_chooseSpeed rfl rfl rfl (by decide +kernel) ⟨Nat.le_of_ble_eq_true rfl, Nat.le_of_ble_eq_true rfl⟩) (As := [.int x1]) rfl hl.1 rfl (Nat.le_of_ble_eq_true rfl) dX2_takeTurn_9 ⟨Nat.le_of_ble_eq_true rfl, Nat.le_of_ble_eq_true rfl⟩ (fun H locs hP hS => ?_)
  refine lv_aload_n C.1 C.2.1 dX2_takeTurn_12 rfl (lv_at hl 1 rfl) ?_
  refine k_getf C G hP (v_obj (i := i) hi) rfl 1 (by decide) n_X2_takeTurn_X2 q_X2_takeTurn_1 (v := .ref (ad (5 + 14 * i + 10))) rfl dX2_takeTurn_13 ?_
  refine lv_iload_n C.1 C.2.1 dX2_takeTurn_16 rfl (lv_at hl 2 rfl) ?_
  obtain ⟨r5, c6, h⟩ := bd_out h
  refine k_callVi C G hP hS (m_X4_isDown l G.2.1 _ (i := i) hi c6) (v_sto (i := i) hi) rfl (cwV 1 C.2.2.2.2.2.1 gX2_takeTurn_X4_isDown rfl rfl rfl (by decide +kernel) ⟨Nat.le_of_ble_eq_true rfl, Nat.le_of_ble_eq_true rfl⟩) (As := [.int x1]) rfl hl.1 rfl (Nat.le_of_ble_eq_true rfl) dX2_takeTurn_17 ⟨Nat.le_of_ble_eq_true rfl, Nat.le_of_ble_eq_true rfl⟩ (fun H locs hP hS => ?_)
  refine lv_if_eq (tgt := 29) C.1 C.2.1 dX2_takeTurn_20 (by decide) (fun c7 => ?_) (fun c7 => ?_)
  · have h := if_t c7 h
    refine lv_aload_n C.1 C.2.1 dX2_takeTurn_29 rfl (lv_at hl 0 rfl) ?_
    refine lv_bipush (v := 6) C.1 C.2.1 dX2_takeTurn_30 (by decide) ?_
    obtain ⟨v8, ev8, h⟩ := lt_out h
    refine k_iald C G hP (v_row (i := i) hi hkq2) (chk_in rfl) (j := 6) rfl ev8 dX2_takeTurn_32 ?_
    refine lv_if_ne (tgt := 41) C.1 C.2.1 dX2_takeTurn_33 (by decide) (fun c9 => ?_) (fun c9 => ?_)
    · have h := if_t c9 h
      exact w_X2_takeTurn_b41 C G hi hP hS (lv_sub hl [1, 2, 0] rfl) hkq2 h
    · have h := if_n c9 h
      refine lv_aload_n C.1 C.2.1 dX2_takeTurn_36 rfl (lv_at hl 1 rfl) ?_
      refine lv_iload_n C.1 C.2.1 dX2_takeTurn_37 rfl (lv_at hl 2 rfl) ?_
      obtain ⟨L10, c11, h⟩ := bd_out h
      refine k_callVv C G hP hS (m_X2_release l G.2.1 _ (i := i) hi c11) (v_obj (i := i) hi) rfl (cwV 1 C.2.2.2.2.2.1 gX2_takeTurn_X2_release rfl rfl rfl (by decide +kernel) ⟨Nat.le_of_ble_eq_true rfl, Nat.le_of_ble_eq_true rfl⟩) (As := [.int x1]) rfl hl.1 rfl (Nat.le_of_ble_eq_true rfl) dX2_takeTurn_38 ⟨Nat.le_of_ble_eq_true rfl, Nat.le_of_ble_eq_true rfl⟩ (fun H locs hP hS => ?_)
      exact w_X2_takeTurn_b41 C G hi hP hS (lv_sub hl [1, 2, 0] rfl) hkq2 h
  · have h := if_f c7 h
    refine lv_aload_n C.1 C.2.1 dX2_takeTurn_23 rfl (lv_at hl 0 rfl) ?_
    refine lv_iconst (v := 4) C.1 C.2.1 dX2_takeTurn_24 (by decide) ?_
    obtain ⟨L12, c13, h⟩ := bd_out h
    refine k_callSv C G hP hS (m_X2_noteTurn l G.2.1 _ (i := i) hi hkq2 c13) (va_cwS 2 C.2.2.2.2.2.1 gX2_takeTurn_X2_noteTurn rfl rfl rfl (by decide +kernel) ⟨Nat.le_of_ble_eq_true rfl, Nat.le_of_ble_eq_true rfl⟩) (As := [.ref (ad (5 + 14 * i + kq2)), .int 4]) rfl hl.1 rfl (Nat.le_of_ble_eq_true rfl) dX2_takeTurn_25 ⟨Nat.le_of_ble_eq_true rfl, Nat.le_of_ble_eq_true rfl⟩ (fun H locs hP hS => ?_)
    cases h
    exact k_vret C hP hS dX2_takeTurn_28
set_option maxRecDepth 100000 in
set_option maxHeartbeats 4000000 in
theorem m_X2_takeTurn (l : Launch) {D : va_G} {cs : Nat → ClassId} {ad : Nat → Nat} (hAd : adOK ad) (sz : Nat) {i : Nat} (hi : i < 6) {Ls : Nat → SL} {Hs : SL} {T : SL} {L : SL} {x1 : Int32} {res : SL} (h : f_X2_takeTurn L x1 = some res) : Met l yX2_takeTurn wsX2_takeTurn rmX2_takeTurn (PA D cs sz (wA cs ad (va_up Ls i L) Hs T) [.ref (ad (5 + 14 * i + 0)), .int x1]) (va_Qv (fun (_ : Unit) => True) (fun _ t => va_P D vwCl (wA cs ad (va_up Ls i res) Hs T) t.heap) (Afr ad sz)) 0 0 (Afr ad sz) :=
  k_met (by decide) rfl (Nat.le_of_ble_eq_true rfl) hAd (fun p e s m below meth c ls C G hP hsz hl hS => by
    subst hsz
    exact w_X2_takeTurn_e C G hi hP hS hl  h)
/-! X2 pass -/
abbrev rmX2_pass : Room := { frames := 3, cells := 0, slots := 0, locals := 66 }
theorem q_X2_pass_0 : Cond.fieldLink RX2 37 "LineBuffers$Line" "tick" "I" ∈ wsX2_pass := List.mem_of_getElem? (i := 1) rfl
theorem q_X2_pass_1 : Cond.fieldLink RX2 19 "LineBuffers$Line" "stops" "LLineBuffers$Stops;" ∈ wsX2_pass := List.mem_of_getElem? (i := 2) rfl
theorem q_X2_pass_2 : Cond.fieldLink RX2 23 "LineBuffers$Line" "machines" "I" ∈ wsX2_pass := List.mem_of_getElem? (i := 3) rfl
theorem n_X2_pass_X2 : ∀ x ∈ u_ws RX2 TX2 4, x ∈ wsX2_pass := fun x h => List.mem_cons_of_mem _ (List.mem_append_left _ (List.mem_append_right _ h))
set_option maxRecDepth 100000 in
set_option maxHeartbeats 4000000 in
theorem w_X2_pass_b52 {res : SL} (C : Cx p s m args meth c cX2_pass 5 none RX2 wsX2_pass) (G : Gx D cs ad s) {i : Nat} (hi : i < 6) {Ls : Nat → SL} {Hs : SL} {T : SL} {K9 : SL → Int32 → Int32 → Int32 → Option (SL)} (hK9 : ∀ {L : SL} {x1 : Int32} {x2 : Int32} {x3 : Int32} {H : Heap} {locs : List Loc} {ls : Array Slot}, va_P D vwCl (wA cs ad (va_up Ls i L) Hs T) H → va_S (Afr ad s.heap.size) s.heap H locs → lv_has ls 5 [(0, .ref (ad (5 + 14 * i + 0))), (1, .int x1), (2, .int x2), (3, .int x3)] → K9 L x1 x2 x3 = some res → W p l e rmX2_pass s m args below meth c H locs 0 0 (MQ below (va_Qv (fun (_ : Unit) => True) (fun _ t => va_P D vwCl (wA cs ad (va_up Ls i res) Hs T) t.heap) (Afr ad s.heap.size)) args s 0 0 (Afr ad s.heap.size)) (F0 m 9 ls [])) {K52 : SL → Int32 → Int32 → Int32 → Int32 → Option (SL)} (hK52 : ∀ {L : SL} {x1 : Int32} {x2 : Int32} {x3 : Int32} {x4 : Int32} {H : Heap} {locs : List Loc} {ls : Array Slot}, va_P D vwCl (wA cs ad (va_up Ls i L) Hs T) H → va_S (Afr ad s.heap.size) s.heap H locs → lv_has ls 5 [(0, .ref (ad (5 + 14 * i + 0))), (1, .int x1), (2, .int x2), (3, .int x3), (4, .int x4)] → K52 L x1 x2 x3 x4 = some res → W p l e rmX2_pass s m args below meth c H locs 0 0 (MQ below (va_Qv (fun (_ : Unit) => True) (fun _ t => va_P D vwCl (wA cs ad (va_up Ls i res) Hs T) t.heap) (Afr ad s.heap.size)) args s 0 0 (Afr ad s.heap.size)) (F0 m 52 ls [])) {L : SL} {x1 : Int32} {x2 : Int32} {x3 : Int32} {x4 : Int32} {H : Heap} {locs : List Loc} {ls : Array Slot} (hP : va_P D vwCl (wA cs ad (va_up Ls i L) Hs T) H) (hS : va_S (Afr ad s.heap.size) s.heap H locs) (hl : lv_has ls 5 [(0, .ref (ad (5 + 14 * i + 0))), (1, .int x1), (2, .int x2), (3, .int x3), (4, .int x4)]) (h : f_X2_pass_b52 K9 K52 L x1 x2 x3 x4 = some res) : W p l e rmX2_pass s m args below meth c H locs 0 0 (MQ below (va_Qv (fun (_ : Unit) => True) (fun _ t => va_P D vwCl (wA cs ad (va_up Ls i res) Hs T) t.heap) (Afr ad s.heap.size)) args s 0 0 (Afr ad s.heap.size)) (F0 m 52 ls []) := by
  unfold f_X2_pass_b52 at h
  refine lv_iload C.1 C.2.1 dX2_pass_52 (lv_at hl 4 rfl) ?_
  refine lv_if_lt (tgt := 69) C.1 C.2.1 dX2_pass_54 (by decide) (fun c1 => ?_) (fun c1 => ?_)
  · have h := if_t c1 h
    refine lv_aload_n C.1 C.2.1 dX2_pass_69 rfl (lv_at hl 0 rfl) ?_
    obtain ⟨L2, c3, h⟩ := bd_out h
    refine k_callVv C G hP hS (m_X2_countFills l G.2.1 _ (i := i) hi c3) (v_obj (i := i) hi) rfl (cwV 0 C.2.2.2.2.2.1 gX2_pass_X2_countFills rfl rfl rfl (by decide +kernel) ⟨Nat.le_of_ble_eq_true rfl, Nat.le_of_ble_eq_true rfl⟩) (As := []) rfl hl.1 rfl (Nat.le_of_ble_eq_true rfl) dX2_pass_70 ⟨Nat.le_of_ble_eq_true rfl, Nat.le_of_ble_eq_true rfl⟩ (fun H locs hP hS => ?_)
    obtain ⟨z4, ez4, h⟩ := lt_out h
    refine lv_iinc (v := z4) (lv' := [(3, .int z4), (0, .ref (ad (5 + 14 * i + 0))), (1, .int x1), (2, .int x2), (4, .int x4)]) C.1 C.2.1 dX2_pass_73 hl (k := 3) rfl (by rw [ez4]; rfl) (by decide) rfl (fun ls hl => ?_)
    refine lv_goto (tgt := 9) C.1 C.2.1 dX2_pass_76 (by decide) ?_
    exact hK9 hP hS (lv_sub hl [1, 2, 3, 0] rfl)  h
  · have h := if_f c1 h
    refine lv_aload_n C.1 C.2.1 dX2_pass_57 rfl (lv_at hl 0 rfl) ?_
    refine lv_iload C.1 C.2.1 dX2_pass_58 (lv_at hl 4 rfl) ?_
    obtain ⟨L5, c6, h⟩ := bd_out h
    refine k_callVv C G hP hS (m_X2_takeTurn l G.2.1 _ (i := i) hi c6) (v_obj (i := i) hi) rfl (cwV 1 C.2.2.2.2.2.1 gX2_pass_X2_takeTurn rfl rfl rfl (by decide +kernel) ⟨Nat.le_of_ble_eq_true rfl, Nat.le_of_ble_eq_true rfl⟩) (As := [.int x4]) rfl hl.1 rfl (Nat.le_of_ble_eq_true rfl) dX2_pass_60 ⟨Nat.le_of_ble_eq_true rfl, Nat.le_of_ble_eq_true rfl⟩ (fun H locs hP hS => ?_)
    obtain ⟨z7, ez7, h⟩ := lt_out h
    refine lv_iinc (v := z7) (lv' := [(4, .int z7), (0, .ref (ad (5 + 14 * i + 0))), (1, .int x1), (2, .int x2), (3, .int x3)]) C.1 C.2.1 dX2_pass_63 hl (k := 4) rfl (by rw [ez7]; rfl) (by decide) rfl (fun ls hl => ?_)
    refine lv_goto (tgt := 52) C.1 C.2.1 dX2_pass_66 (by decide) ?_
    exact hK52 hP hS (lv_sub hl [1, 2, 3, 4, 0] rfl)  h
set_option maxRecDepth 100000 in
set_option maxHeartbeats 4000000 in
theorem w_X2_pass_h52 {res : SL} (C : Cx p s m args meth c cX2_pass 5 none RX2 wsX2_pass) (G : Gx D cs ad s) {i : Nat} (hi : i < 6) {Ls : Nat → SL} {Hs : SL} {T : SL} {K9 : SL → Int32 → Int32 → Int32 → Option (SL)} (hK9 : ∀ {L : SL} {x1 : Int32} {x2 : Int32} {x3 : Int32} {H : Heap} {locs : List Loc} {ls : Array Slot}, va_P D vwCl (wA cs ad (va_up Ls i L) Hs T) H → va_S (Afr ad s.heap.size) s.heap H locs → lv_has ls 5 [(0, .ref (ad (5 + 14 * i + 0))), (1, .int x1), (2, .int x2), (3, .int x3)] → K9 L x1 x2 x3 = some res → W p l e rmX2_pass s m args below meth c H locs 0 0 (MQ below (va_Qv (fun (_ : Unit) => True) (fun _ t => va_P D vwCl (wA cs ad (va_up Ls i res) Hs T) t.heap) (Afr ad s.heap.size)) args s 0 0 (Afr ad s.heap.size)) (F0 m 9 ls [])) : ∀ (n : Nat) {L : SL} {x1 : Int32} {x2 : Int32} {x3 : Int32} {x4 : Int32} {H : Heap} {locs : List Loc} {ls : Array Slot}, va_P D vwCl (wA cs ad (va_up Ls i L) Hs T) H → va_S (Afr ad s.heap.size) s.heap H locs → lv_has ls 5 [(0, .ref (ad (5 + 14 * i + 0))), (1, .int x1), (2, .int x2), (3, .int x3), (4, .int x4)] → f_X2_pass_h52 K9 n L x1 x2 x3 x4 = some res → W p l e rmX2_pass s m args below meth c H locs 0 0 (MQ below (va_Qv (fun (_ : Unit) => True) (fun _ t => va_P D vwCl (wA cs ad (va_up Ls i res) Hs T) t.heap) (Afr ad s.heap.size)) args s 0 0 (Afr ad s.heap.size)) (F0 m 52 ls []) := by
  intro n
  induction n with
  | zero => intro L x1 x2 x3 x4 H locs ls hP hS hl  h; cases h
  | succ n ih => intro L x1 x2 x3 x4 H locs ls hP hS hl  h; exact w_X2_pass_b52 C G  hi hK9 ih hP hS hl  h
set_option maxRecDepth 100000 in
set_option maxHeartbeats 4000000 in
theorem w_X2_pass_b44 {res : SL} (C : Cx p s m args meth c cX2_pass 5 none RX2 wsX2_pass) (G : Gx D cs ad s) {i : Nat} (hi : i < 6) {Ls : Nat → SL} {Hs : SL} {T : SL} {K9 : SL → Int32 → Int32 → Int32 → Option (SL)} (hK9 : ∀ {L : SL} {x1 : Int32} {x2 : Int32} {x3 : Int32} {H : Heap} {locs : List Loc} {ls : Array Slot}, va_P D vwCl (wA cs ad (va_up Ls i L) Hs T) H → va_S (Afr ad s.heap.size) s.heap H locs → lv_has ls 5 [(0, .ref (ad (5 + 14 * i + 0))), (1, .int x1), (2, .int x2), (3, .int x3)] → K9 L x1 x2 x3 = some res → W p l e rmX2_pass s m args below meth c H locs 0 0 (MQ below (va_Qv (fun (_ : Unit) => True) (fun _ t => va_P D vwCl (wA cs ad (va_up Ls i res) Hs T) t.heap) (Afr ad s.heap.size)) args s 0 0 (Afr ad s.heap.size)) (F0 m 9 ls [])) {L : SL} {x1 : Int32} {x2 : Int32} {x3 : Int32} {H : Heap} {locs : List Loc} {ls : Array Slot} (hP : va_P D vwCl (wA cs ad (va_up Ls i L) Hs T) H) (hS : va_S (Afr ad s.heap.size) s.heap H locs) (hl : lv_has ls 5 [(0, .ref (ad (5 + 14 * i + 0))), (1, .int x1), (2, .int x2), (3, .int x3)]) (h : f_X2_pass_b44 K9 L x1 x2 x3 = some res) : W p l e rmX2_pass s m args below meth c H locs 0 0 (MQ below (va_Qv (fun (_ : Unit) => True) (fun _ t => va_P D vwCl (wA cs ad (va_up Ls i res) Hs T) t.heap) (Afr ad s.heap.size)) args s 0 0 (Afr ad s.heap.size)) (F0 m 44 ls []) := by
  unfold f_X2_pass_b44 at h
  refine lv_aload_n C.1 C.2.1 dX2_pass_44 rfl (lv_at hl 0 rfl) ?_
  obtain ⟨v1, ev1, h⟩ := lt_out h
  refine k_geti C G hP (v_obj (i := i) hi) rfl 2 (by decide) n_X2_pass_X2 q_X2_pass_2 rfl ev1 dX2_pass_45 ?_
  refine lv_iconst (v := 1) C.1 C.2.1 dX2_pass_48 (by decide) ?_
  obtain ⟨v2, ev2, h⟩ := lt_out h
  refine k_isub C ev2 dX2_pass_49 ?_
  refine lv_istore (lv' := [(4, .int v2), (0, .ref (ad (5 + 14 * i + 0))), (1, .int x1), (2, .int x2), (3, .int x3)]) C.1 C.2.1 dX2_pass_50 hl (by decide) rfl (fun ls hl => ?_)
  exact w_X2_pass_h52 C G hi hK9 fuel hP hS (lv_sub hl [1, 2, 3, 4, 0] rfl) h
set_option maxRecDepth 100000 in
set_option maxHeartbeats 4000000 in
theorem w_X2_pass_b9 {res : SL} (C : Cx p s m args meth c cX2_pass 5 none RX2 wsX2_pass) (G : Gx D cs ad s) {i : Nat} (hi : i < 6) {Ls : Nat → SL} {Hs : SL} {T : SL} {K9 : SL → Int32 → Int32 → Int32 → Option (SL)} (hK9 : ∀ {L : SL} {x1 : Int32} {x2 : Int32} {x3 : Int32} {H : Heap} {locs : List Loc} {ls : Array Slot}, va_P D vwCl (wA cs ad (va_up Ls i L) Hs T) H → va_S (Afr ad s.heap.size) s.heap H locs → lv_has ls 5 [(0, .ref (ad (5 + 14 * i + 0))), (1, .int x1), (2, .int x2), (3, .int x3)] → K9 L x1 x2 x3 = some res → W p l e rmX2_pass s m args below meth c H locs 0 0 (MQ below (va_Qv (fun (_ : Unit) => True) (fun _ t => va_P D vwCl (wA cs ad (va_up Ls i res) Hs T) t.heap) (Afr ad s.heap.size)) args s 0 0 (Afr ad s.heap.size)) (F0 m 9 ls [])) {L : SL} {x1 : Int32} {x2 : Int32} {x3 : Int32} {H : Heap} {locs : List Loc} {ls : Array Slot} (hP : va_P D vwCl (wA cs ad (va_up Ls i L) Hs T) H) (hS : va_S (Afr ad s.heap.size) s.heap H locs) (hl : lv_has ls 5 [(0, .ref (ad (5 + 14 * i + 0))), (1, .int x1), (2, .int x2), (3, .int x3)]) (h : f_X2_pass_b9 K9 L x1 x2 x3 = some res) : W p l e rmX2_pass s m args below meth c H locs 0 0 (MQ below (va_Qv (fun (_ : Unit) => True) (fun _ t => va_P D vwCl (wA cs ad (va_up Ls i res) Hs T) t.heap) (Afr ad s.heap.size)) args s 0 0 (Afr ad s.heap.size)) (F0 m 9 ls []) := by
  unfold f_X2_pass_b9 at h
  refine lv_iload_n C.1 C.2.1 dX2_pass_9 rfl (lv_at hl 3 rfl) ?_
  refine lv_iload_n C.1 C.2.1 dX2_pass_10 rfl (lv_at hl 1 rfl) ?_
  refine lv_icmp_ge (tgt := 79) C.1 C.2.1 dX2_pass_11 (by decide) (fun c1 => ?_) (fun c1 => ?_)
  · have h := if_t c1 h
    cases h
    exact k_vret C hP hS dX2_pass_79
  · have h := if_f c1 h
    refine lv_aload_n C.1 C.2.1 dX2_pass_14 rfl (lv_at hl 0 rfl) ?_
    refine lv_dup C.1 C.2.1 dX2_pass_15 rfl ?_
    obtain ⟨v2, ev2, h⟩ := lt_out h
    refine k_geti C G hP (v_obj (i := i) hi) rfl 3 (by decide) n_X2_pass_X2 q_X2_pass_0 rfl ev2 dX2_pass_16 ?_
    refine lv_iconst (v := 1) C.1 C.2.1 dX2_pass_19 (by decide) ?_
    obtain ⟨v3, ev3, h⟩ := lt_out h
    refine k_iadd C ev3 dX2_pass_20 ?_
    obtain ⟨L4, eL4, h⟩ := lt_out h
    refine k_puti C G hP hS (v_obj (i := i) hi) rfl 3 (by decide) n_X2_pass_X2 q_X2_pass_0 tyX2_ok nmX2 rfl (tyX2_ok 3 (by decide)) (Nat.le_of_ble_eq_true rfl) (v_objS3 (i := i) hi) dX2_pass_21 (fun H locs hP hS => ?_)
    rw [← eL4] at hP
    refine lv_aload_n C.1 C.2.1 dX2_pass_24 rfl (lv_at hl 0 rfl) ?_
    obtain ⟨v5, ev5, h⟩ := lt_out h
    refine k_geti C G hP (v_obj (i := i) hi) rfl 3 (by decide) n_X2_pass_X2 q_X2_pass_0 rfl ev5 dX2_pass_25 ?_
    refine lv_iload_n C.1 C.2.1 dX2_pass_28 rfl (lv_at hl 2 rfl) ?_
    refine lv_icmp_lt (tgt := 44) C.1 C.2.1 dX2_pass_29 (by decide) (fun c6 => ?_) (fun c6 => ?_)
    · have h := if_t c6 h
      exact w_X2_pass_b44 C G hi hK9 hP hS (lv_sub hl [0, 1, 2, 3] rfl) h
    · have h := if_f c6 h
      refine lv_aload_n C.1 C.2.1 dX2_pass_32 rfl (lv_at hl 0 rfl) ?_
      refine k_getf C G hP (v_obj (i := i) hi) rfl 1 (by decide) n_X2_pass_X2 q_X2_pass_1 (v := .ref (ad (5 + 14 * i + 10))) rfl dX2_pass_33 ?_
      refine lv_aload_n C.1 C.2.1 dX2_pass_36 rfl (lv_at hl 0 rfl) ?_
      obtain ⟨v7, ev7, h⟩ := lt_out h
      refine k_geti C G hP (v_obj (i := i) hi) rfl 3 (by decide) n_X2_pass_X2 q_X2_pass_0 rfl ev7 dX2_pass_37 ?_
      obtain ⟨r8, L9, c10, h⟩ := bd2_out h
      refine k_callVi C G hP hS (m_X4_lookAt l G.2.1 _ (i := i) hi c10) (v_sto (i := i) hi) rfl (cwV 1 C.2.2.2.2.2.1 gX2_pass_X4_lookAt rfl rfl rfl (by decide +kernel) ⟨Nat.le_of_ble_eq_true rfl, Nat.le_of_ble_eq_true rfl⟩) (As := [.int v7]) rfl hl.1 rfl (Nat.le_of_ble_eq_true rfl) dX2_pass_40 ⟨Nat.le_of_ble_eq_true rfl, Nat.le_of_ble_eq_true rfl⟩ (fun H locs hP hS => ?_)
      refine lv_istore_n (lv' := [(2, .int r8), (0, .ref (ad (5 + 14 * i + 0))), (1, .int x1), (3, .int x3)]) C.1 C.2.1 dX2_pass_43 rfl hl (by decide) rfl (fun ls hl => ?_)
      exact w_X2_pass_b44 C G hi hK9 hP hS (lv_sub hl [1, 2, 0, 3] rfl) h
set_option maxRecDepth 100000 in
set_option maxHeartbeats 4000000 in
theorem w_X2_pass_h9 {res : SL} (C : Cx p s m args meth c cX2_pass 5 none RX2 wsX2_pass) (G : Gx D cs ad s) {i : Nat} (hi : i < 6) {Ls : Nat → SL} {Hs : SL} {T : SL} : ∀ (n : Nat) {L : SL} {x1 : Int32} {x2 : Int32} {x3 : Int32} {H : Heap} {locs : List Loc} {ls : Array Slot}, va_P D vwCl (wA cs ad (va_up Ls i L) Hs T) H → va_S (Afr ad s.heap.size) s.heap H locs → lv_has ls 5 [(0, .ref (ad (5 + 14 * i + 0))), (1, .int x1), (2, .int x2), (3, .int x3)] → f_X2_pass_h9 n L x1 x2 x3 = some res → W p l e rmX2_pass s m args below meth c H locs 0 0 (MQ below (va_Qv (fun (_ : Unit) => True) (fun _ t => va_P D vwCl (wA cs ad (va_up Ls i res) Hs T) t.heap) (Afr ad s.heap.size)) args s 0 0 (Afr ad s.heap.size)) (F0 m 9 ls []) := by
  intro n
  induction n with
  | zero => intro L x1 x2 x3 H locs ls hP hS hl  h; cases h
  | succ n ih => intro L x1 x2 x3 H locs ls hP hS hl  h; exact w_X2_pass_b9 C G  hi  ih hP hS hl  h
set_option maxRecDepth 100000 in
set_option maxHeartbeats 4000000 in
theorem w_X2_pass_e {res : SL} (C : Cx p s m args meth c cX2_pass 5 none RX2 wsX2_pass) (G : Gx D cs ad s) {i : Nat} (hi : i < 6) {Ls : Nat → SL} {Hs : SL} {T : SL} {L : SL} {x1 : Int32} {H : Heap} {locs : List Loc} {ls : Array Slot} (hP : va_P D vwCl (wA cs ad (va_up Ls i L) Hs T) H) (hS : va_S (Afr ad s.heap.size) s.heap H locs) (hl : lv_has ls 5 [(0, .ref (ad (5 + 14 * i + 0))), (1, .int x1)]) (h : f_X2_pass L x1 = some res) : W p l e rmX2_pass s m args below meth c H locs 0 0 (MQ below (va_Qv (fun (_ : Unit) => True) (fun _ t => va_P D vwCl (wA cs ad (va_up Ls i res) Hs T) t.heap) (Afr ad s.heap.size)) args s 0 0 (Afr ad s.heap.size)) (F0 m 0 ls []) := by
  unfold f_X2_pass at h
  refine lv_aload_n C.1 C.2.1 dX2_pass_0 rfl (lv_at hl 0 rfl) ?_
  obtain ⟨v1, ev1, h⟩ := lt_out h
  refine k_geti C G hP (v_obj (i := i) hi) rfl 3 (by decide) n_X2_pass_X2 q_X2_pass_0 rfl ev1 dX2_pass_1 ?_
  refine lv_iconst (v := 1) C.1 C.2.1 dX2_pass_4 (by decide) ?_
  obtain ⟨v2, ev2, h⟩ := lt_out h
  refine k_iadd C ev2 dX2_pass_5 ?_
  refine lv_istore_n (lv' := [(2, .int v2), (0, .ref (ad (5 + 14 * i + 0))), (1, .int x1)]) C.1 C.2.1 dX2_pass_6 rfl hl (by decide) rfl (fun ls hl => ?_)
  refine lv_iconst (v := 0) C.1 C.2.1 dX2_pass_7 (by decide) ?_
  refine lv_istore_n (lv' := [(3, .int 0), (2, .int v2), (0, .ref (ad (5 + 14 * i + 0))), (1, .int x1)]) C.1 C.2.1 dX2_pass_8 rfl hl (by decide) rfl (fun ls hl => ?_)
  exact w_X2_pass_h9 C G hi fuel hP hS (lv_sub hl [2, 3, 1, 0] rfl) h
set_option maxRecDepth 100000 in
set_option maxHeartbeats 4000000 in
theorem m_X2_pass (l : Launch) {D : va_G} {cs : Nat → ClassId} {ad : Nat → Nat} (hAd : adOK ad) (sz : Nat) {i : Nat} (hi : i < 6) {Ls : Nat → SL} {Hs : SL} {T : SL} {L : SL} {x1 : Int32} {res : SL} (h : f_X2_pass L x1 = some res) : Met l yX2_pass wsX2_pass rmX2_pass (PA D cs sz (wA cs ad (va_up Ls i L) Hs T) [.ref (ad (5 + 14 * i + 0)), .int x1]) (va_Qv (fun (_ : Unit) => True) (fun _ t => va_P D vwCl (wA cs ad (va_up Ls i res) Hs T) t.heap) (Afr ad sz)) 0 0 (Afr ad sz) :=
  k_met (by decide) rfl (Nat.le_of_ble_eq_true rfl) hAd (fun p e s m below meth c ls C G hP hsz hl hS => by
    subst hsz
    exact w_X2_pass_e C G hi hP hS hl  h)
/-! X2 bottlesOut -/
abbrev rmX2_bottlesOut : Room := { frames := 0, cells := 0, slots := 0, locals := 0 }
theorem q_X2_bottlesOut_0 : Cond.fieldLink RX2 23 "LineBuffers$Line" "machines" "I" ∈ wsX2_bottlesOut := List.mem_of_getElem? (i := 1) rfl
theorem q_X2_bottlesOut_1 : Cond.fieldLink RX2 11 "LineBuffers$Line" "rows" "[[I" ∈ wsX2_bottlesOut := List.mem_of_getElem? (i := 2) rfl
theorem n_X2_bottlesOut_X2 : ∀ x ∈ u_ws RX2 TX2 4, x ∈ wsX2_bottlesOut := fun x h => List.mem_cons_of_mem _ (List.mem_append_right _ h)
set_option maxRecDepth 100000 in
set_option maxHeartbeats 4000000 in
theorem w_X2_bottlesOut_e {res : Int32} (C : Cx p s m args meth c cX2_bottlesOut 1 (some .int) RX2 wsX2_bottlesOut) (G : Gx D cs ad s) {i : Nat} (hi : i < 6) {Ls : Nat → SL} {Hs : SL} {T : SL} {L : SL} {H : Heap} {locs : List Loc} {ls : Array Slot} (hP : va_P D vwCl (wA cs ad (va_up Ls i L) Hs T) H) (hS : va_S (Afr ad s.heap.size) s.heap H locs) (hl : lv_has ls 1 [(0, .ref (ad (5 + 14 * i + 0)))]) (h : f_X2_bottlesOut L = some res) : W p l e rmX2_bottlesOut s m args below meth c H locs 0 0 (MQ below (va_Qi (fun r' (_ : Unit) => r' = res) (fun _ t => va_P D vwCl (wA cs ad (va_up Ls i L) Hs T) t.heap) (Afr ad s.heap.size)) args s 0 0 (Afr ad s.heap.size)) (F0 m 0 ls []) := by
  unfold f_X2_bottlesOut at h
  refine lv_aload_n C.1 C.2.1 dX2_bottlesOut_0 rfl (lv_at hl 0 rfl) ?_
  obtain ⟨v1, ev1, h⟩ := lt_out h
  refine k_geti C G hP (v_obj (i := i) hi) rfl 2 (by decide) n_X2_bottlesOut_X2 q_X2_bottlesOut_0 rfl ev1 dX2_bottlesOut_1 ?_
  refine lv_if_ne (tgt := 11) C.1 C.2.1 dX2_bottlesOut_4 (by decide) (fun c2 => ?_) (fun c2 => ?_)
  · have h := if_t c2 h
    refine lv_aload_n C.1 C.2.1 dX2_bottlesOut_11 rfl (lv_at hl 0 rfl) ?_
    refine k_getf C G hP (v_obj (i := i) hi) rfl 0 (by decide) n_X2_bottlesOut_X2 q_X2_bottlesOut_1 (v := .ref (ad (5 + 14 * i + 1))) rfl dX2_bottlesOut_12 ?_
    refine lv_aload_n C.1 C.2.1 dX2_bottlesOut_15 rfl (lv_at hl 0 rfl) ?_
    obtain ⟨v3, ev3, h⟩ := lt_out h
    refine k_geti C G hP (v_obj (i := i) hi) rfl 2 (by decide) n_X2_bottlesOut_X2 q_X2_bottlesOut_0 rfl ev3 dX2_bottlesOut_16 ?_
    refine lv_iconst (v := 1) C.1 C.2.1 dX2_bottlesOut_19 (by decide) ?_
    obtain ⟨v4, ev4, h⟩ := lt_out h
    refine k_isub C ev4 dX2_bottlesOut_20 ?_
    obtain ⟨g5, h⟩ := gd_out h
    have g5 := chk_in g5
    obtain ⟨kq6, ekq6, h⟩ := lt_out h
    have hkq6 : 2 ≤ kq6 ∧ kq6 < 10 := row_k g5 ekq6
    refine k_aaldR C G hP (v_rows (i := i) hi) g5 (b := ad (5 + 14 * i + kq6)) (by rw [ekq6]) dX2_bottlesOut_21 ?_
    refine lv_bipush (v := 13) C.1 C.2.1 dX2_bottlesOut_22 (by decide) ?_
    obtain ⟨v7, ev7, h⟩ := lt_out h
    refine k_iald C G hP (v_row (i := i) hi hkq6) (chk_in rfl) (j := 13) rfl ev7 dX2_bottlesOut_24 ?_
    cases h
    exact k_iret C hP hS dX2_bottlesOut_25
  · have h := if_n c2 h
    refine lv_iconst (v := 0) C.1 C.2.1 dX2_bottlesOut_7 (by decide) ?_
    refine lv_goto (tgt := 25) C.1 C.2.1 dX2_bottlesOut_8 (by decide) ?_
    cases h
    exact k_iret C hP hS dX2_bottlesOut_25
set_option maxRecDepth 100000 in
set_option maxHeartbeats 4000000 in
theorem m_X2_bottlesOut (l : Launch) {D : va_G} {cs : Nat → ClassId} {ad : Nat → Nat} (hAd : adOK ad) (sz : Nat) {i : Nat} (hi : i < 6) {Ls : Nat → SL} {Hs : SL} {T : SL} {L : SL} {res : Int32} (h : f_X2_bottlesOut L = some res) : Met l yX2_bottlesOut wsX2_bottlesOut rmX2_bottlesOut (PA D cs sz (wA cs ad (va_up Ls i L) Hs T) [.ref (ad (5 + 14 * i + 0))]) (va_Qi (fun r' (_ : Unit) => r' = res) (fun _ t => va_P D vwCl (wA cs ad (va_up Ls i L) Hs T) t.heap) (Afr ad sz)) 0 0 (Afr ad sz) :=
  k_met (by decide) rfl (Nat.le_of_ble_eq_true rfl) hAd (fun p e s m below meth c ls C G hP hsz hl hS => by
    subst hsz
    exact w_X2_bottlesOut_e C G hi hP hS hl  h)
/-! X2 bottlesInside -/
abbrev rmX2_bottlesInside : Room := { frames := 0, cells := 0, slots := 0, locals := 0 }
theorem q_X2_bottlesInside_0 : Cond.fieldLink RX2 23 "LineBuffers$Line" "machines" "I" ∈ wsX2_bottlesInside := List.mem_of_getElem? (i := 1) rfl
theorem q_X2_bottlesInside_1 : Cond.fieldLink RX2 11 "LineBuffers$Line" "rows" "[[I" ∈ wsX2_bottlesInside := List.mem_of_getElem? (i := 2) rfl
theorem n_X2_bottlesInside_X2 : ∀ x ∈ u_ws RX2 TX2 4, x ∈ wsX2_bottlesInside := fun x h => List.mem_cons_of_mem _ (List.mem_append_right _ h)
set_option maxRecDepth 100000 in
set_option maxHeartbeats 4000000 in
theorem w_X2_bottlesInside_b39 {res : Int32} (C : Cx p s m args meth c cX2_bottlesInside 3 (some .int) RX2 wsX2_bottlesInside) (G : Gx D cs ad s) {i : Nat} (hi : i < 6) {Ls : Nat → SL} {Hs : SL} {T : SL} {L : SL} {K4 : SL → Int32 → Int32 → Option (Int32)} (hK4 : ∀ {x1 : Int32} {x2 : Int32} {H : Heap} {locs : List Loc} {ls : Array Slot}, va_P D vwCl (wA cs ad (va_up Ls i L) Hs T) H → va_S (Afr ad s.heap.size) s.heap H locs → lv_has ls 3 [(0, .ref (ad (5 + 14 * i + 0))), (1, .int x1), (2, .int x2)] → K4 L x1 x2 = some res → W p l e rmX2_bottlesInside s m args below meth c H locs 0 0 (MQ below (va_Qi (fun r' (_ : Unit) => r' = res) (fun _ t => va_P D vwCl (wA cs ad (va_up Ls i L) Hs T) t.heap) (Afr ad s.heap.size)) args s 0 0 (Afr ad s.heap.size)) (F0 m 4 ls [])) {x2 : Int32} {s0 : Int32} {s1 : Int32} {s2 : Int32} {H : Heap} {locs : List Loc} {ls : Array Slot} (hP : va_P D vwCl (wA cs ad (va_up Ls i L) Hs T) H) (hS : va_S (Afr ad s.heap.size) s.heap H locs) (hl : lv_has ls 3 [(0, .ref (ad (5 + 14 * i + 0))), (2, .int x2)]) (h : f_X2_bottlesInside_b39 K4 L x2 s0 s1 s2 = some res) : W p l e rmX2_bottlesInside s m args below meth c H locs 0 0 (MQ below (va_Qi (fun r' (_ : Unit) => r' = res) (fun _ t => va_P D vwCl (wA cs ad (va_up Ls i L) Hs T) t.heap) (Afr ad s.heap.size)) args s 0 0 (Afr ad s.heap.size)) (F0 m 39 ls [.int s2, .int s1, .int s0]) := by
  unfold f_X2_bottlesInside_b39 at h
  obtain ⟨v1, ev1, h⟩ := lt_out h
  refine k_iadd C ev1 dX2_bottlesInside_39 ?_
  obtain ⟨v2, ev2, h⟩ := lt_out h
  refine k_iadd C ev2 dX2_bottlesInside_40 ?_
  refine lv_istore_n (lv' := [(1, .int v2), (0, .ref (ad (5 + 14 * i + 0))), (2, .int x2)]) C.1 C.2.1 dX2_bottlesInside_41 rfl hl (by decide) rfl (fun ls hl => ?_)
  obtain ⟨z3, ez3, h⟩ := lt_out h
  refine lv_iinc (v := z3) (lv' := [(2, .int z3), (1, .int v2), (0, .ref (ad (5 + 14 * i + 0)))]) C.1 C.2.1 dX2_bottlesInside_42 hl (k := 2) rfl (by rw [ez3]; rfl) (by decide) rfl (fun ls hl => ?_)
  refine lv_goto (tgt := 4) C.1 C.2.1 dX2_bottlesInside_45 (by decide) ?_
  exact hK4 hP hS (lv_sub hl [2, 1, 0] rfl)  h
set_option maxRecDepth 100000 in
set_option maxHeartbeats 4000000 in
theorem w_X2_bottlesInside_b4 {res : Int32} (C : Cx p s m args meth c cX2_bottlesInside 3 (some .int) RX2 wsX2_bottlesInside) (G : Gx D cs ad s) {i : Nat} (hi : i < 6) {Ls : Nat → SL} {Hs : SL} {T : SL} {L : SL} {K4 : SL → Int32 → Int32 → Option (Int32)} (hK4 : ∀ {x1 : Int32} {x2 : Int32} {H : Heap} {locs : List Loc} {ls : Array Slot}, va_P D vwCl (wA cs ad (va_up Ls i L) Hs T) H → va_S (Afr ad s.heap.size) s.heap H locs → lv_has ls 3 [(0, .ref (ad (5 + 14 * i + 0))), (1, .int x1), (2, .int x2)] → K4 L x1 x2 = some res → W p l e rmX2_bottlesInside s m args below meth c H locs 0 0 (MQ below (va_Qi (fun r' (_ : Unit) => r' = res) (fun _ t => va_P D vwCl (wA cs ad (va_up Ls i L) Hs T) t.heap) (Afr ad s.heap.size)) args s 0 0 (Afr ad s.heap.size)) (F0 m 4 ls [])) {x1 : Int32} {x2 : Int32} {H : Heap} {locs : List Loc} {ls : Array Slot} (hP : va_P D vwCl (wA cs ad (va_up Ls i L) Hs T) H) (hS : va_S (Afr ad s.heap.size) s.heap H locs) (hl : lv_has ls 3 [(0, .ref (ad (5 + 14 * i + 0))), (1, .int x1), (2, .int x2)]) (h : f_X2_bottlesInside_b4 K4 L x1 x2 = some res) : W p l e rmX2_bottlesInside s m args below meth c H locs 0 0 (MQ below (va_Qi (fun r' (_ : Unit) => r' = res) (fun _ t => va_P D vwCl (wA cs ad (va_up Ls i L) Hs T) t.heap) (Afr ad s.heap.size)) args s 0 0 (Afr ad s.heap.size)) (F0 m 4 ls []) := by
  unfold f_X2_bottlesInside_b4 at h
  refine lv_iload_n C.1 C.2.1 dX2_bottlesInside_4 rfl (lv_at hl 2 rfl) ?_
  refine lv_aload_n C.1 C.2.1 dX2_bottlesInside_5 rfl (lv_at hl 0 rfl) ?_
  obtain ⟨v1, ev1, h⟩ := lt_out h
  refine k_geti C G hP (v_obj (i := i) hi) rfl 2 (by decide) n_X2_bottlesInside_X2 q_X2_bottlesInside_0 rfl ev1 dX2_bottlesInside_6 ?_
  refine lv_icmp_ge (tgt := 48) C.1 C.2.1 dX2_bottlesInside_9 (by decide) (fun c2 => ?_) (fun c2 => ?_)
  · have h := if_t c2 h
    refine lv_iload_n C.1 C.2.1 dX2_bottlesInside_48 rfl (lv_at hl 1 rfl) ?_
    cases h
    exact k_iret C hP hS dX2_bottlesInside_49
  · have h := if_f c2 h
    refine lv_iload_n C.1 C.2.1 dX2_bottlesInside_12 rfl (lv_at hl 1 rfl) ?_
    refine lv_aload_n C.1 C.2.1 dX2_bottlesInside_13 rfl (lv_at hl 0 rfl) ?_
    refine k_getf C G hP (v_obj (i := i) hi) rfl 0 (by decide) n_X2_bottlesInside_X2 q_X2_bottlesInside_1 (v := .ref (ad (5 + 14 * i + 1))) rfl dX2_bottlesInside_14 ?_
    refine lv_iload_n C.1 C.2.1 dX2_bottlesInside_17 rfl (lv_at hl 2 rfl) ?_
    obtain ⟨g3, h⟩ := gd_out h
    have g3 := chk_in g3
    obtain ⟨kq4, ekq4, h⟩ := lt_out h
    have hkq4 : 2 ≤ kq4 ∧ kq4 < 10 := row_k g3 ekq4
    refine k_aaldR C G hP (v_rows (i := i) hi) g3 (b := ad (5 + 14 * i + kq4)) (by rw [ekq4]) dX2_bottlesInside_18 ?_
    refine lv_iconst (v := 5) C.1 C.2.1 dX2_bottlesInside_19 (by decide) ?_
    obtain ⟨v5, ev5, h⟩ := lt_out h
    refine k_iald C G hP (v_row (i := i) hi hkq4) (chk_in rfl) (j := 5) rfl ev5 dX2_bottlesInside_20 ?_
    refine lv_aload_n C.1 C.2.1 dX2_bottlesInside_21 rfl (lv_at hl 0 rfl) ?_
    refine k_getf C G hP (v_obj (i := i) hi) rfl 0 (by decide) n_X2_bottlesInside_X2 q_X2_bottlesInside_1 (v := .ref (ad (5 + 14 * i + 1))) rfl dX2_bottlesInside_22 ?_
    refine lv_iload_n C.1 C.2.1 dX2_bottlesInside_25 rfl (lv_at hl 2 rfl) ?_
    obtain ⟨kq6, ekq6, h⟩ := lt_out h
    have hkq6 : 2 ≤ kq6 ∧ kq6 < 10 := row_k g3 ekq6
    refine k_aaldR C G hP (v_rows (i := i) hi) g3 (b := ad (5 + 14 * i + kq6)) (by rw [ekq6]) dX2_bottlesInside_26 ?_
    refine lv_bipush (v := 6) C.1 C.2.1 dX2_bottlesInside_27 (by decide) ?_
    obtain ⟨v7, ev7, h⟩ := lt_out h
    refine k_iald C G hP (v_row (i := i) hi hkq6) (chk_in rfl) (j := 6) rfl ev7 dX2_bottlesInside_29 ?_
    refine lv_iconst (v := (-1)) C.1 C.2.1 dX2_bottlesInside_30 (by decide) ?_
    refine lv_icmp_ne (tgt := 38) C.1 C.2.1 dX2_bottlesInside_31 (by decide) (fun c8 => ?_) (fun c8 => ?_)
    · have h := if_t c8 h
      refine lv_iconst (v := 1) C.1 C.2.1 dX2_bottlesInside_38 (by decide) ?_
      exact w_X2_bottlesInside_b39 C G hi hK4 hP hS (lv_sub hl [0, 2] rfl) h
    · have h := if_n c8 h
      refine lv_iconst (v := 0) C.1 C.2.1 dX2_bottlesInside_34 (by decide) ?_
      refine lv_goto (tgt := 39) C.1 C.2.1 dX2_bottlesInside_35 (by decide) ?_
      exact w_X2_bottlesInside_b39 C G hi hK4 hP hS (lv_sub hl [0, 2] rfl) h
set_option maxRecDepth 100000 in
set_option maxHeartbeats 4000000 in
theorem w_X2_bottlesInside_h4 {res : Int32} (C : Cx p s m args meth c cX2_bottlesInside 3 (some .int) RX2 wsX2_bottlesInside) (G : Gx D cs ad s) {i : Nat} (hi : i < 6) {Ls : Nat → SL} {Hs : SL} {T : SL} {L : SL} : ∀ (n : Nat) {x1 : Int32} {x2 : Int32} {H : Heap} {locs : List Loc} {ls : Array Slot}, va_P D vwCl (wA cs ad (va_up Ls i L) Hs T) H → va_S (Afr ad s.heap.size) s.heap H locs → lv_has ls 3 [(0, .ref (ad (5 + 14 * i + 0))), (1, .int x1), (2, .int x2)] → f_X2_bottlesInside_h4 n L x1 x2 = some res → W p l e rmX2_bottlesInside s m args below meth c H locs 0 0 (MQ below (va_Qi (fun r' (_ : Unit) => r' = res) (fun _ t => va_P D vwCl (wA cs ad (va_up Ls i L) Hs T) t.heap) (Afr ad s.heap.size)) args s 0 0 (Afr ad s.heap.size)) (F0 m 4 ls []) := by
  intro n
  induction n with
  | zero => intro  x1 x2 H locs ls hP hS hl  h; cases h
  | succ n ih => intro  x1 x2 H locs ls hP hS hl  h; exact w_X2_bottlesInside_b4 C G  hi  ih hP hS hl  h
set_option maxRecDepth 100000 in
set_option maxHeartbeats 4000000 in
theorem w_X2_bottlesInside_e {res : Int32} (C : Cx p s m args meth c cX2_bottlesInside 3 (some .int) RX2 wsX2_bottlesInside) (G : Gx D cs ad s) {i : Nat} (hi : i < 6) {Ls : Nat → SL} {Hs : SL} {T : SL} {L : SL} {H : Heap} {locs : List Loc} {ls : Array Slot} (hP : va_P D vwCl (wA cs ad (va_up Ls i L) Hs T) H) (hS : va_S (Afr ad s.heap.size) s.heap H locs) (hl : lv_has ls 3 [(0, .ref (ad (5 + 14 * i + 0)))]) (h : f_X2_bottlesInside L = some res) : W p l e rmX2_bottlesInside s m args below meth c H locs 0 0 (MQ below (va_Qi (fun r' (_ : Unit) => r' = res) (fun _ t => va_P D vwCl (wA cs ad (va_up Ls i L) Hs T) t.heap) (Afr ad s.heap.size)) args s 0 0 (Afr ad s.heap.size)) (F0 m 0 ls []) := by
  unfold f_X2_bottlesInside at h
  refine lv_iconst (v := 0) C.1 C.2.1 dX2_bottlesInside_0 (by decide) ?_
  refine lv_istore_n (lv' := [(1, .int 0), (0, .ref (ad (5 + 14 * i + 0)))]) C.1 C.2.1 dX2_bottlesInside_1 rfl hl (by decide) rfl (fun ls hl => ?_)
  refine lv_iconst (v := 0) C.1 C.2.1 dX2_bottlesInside_2 (by decide) ?_
  refine lv_istore_n (lv' := [(2, .int 0), (1, .int 0), (0, .ref (ad (5 + 14 * i + 0)))]) C.1 C.2.1 dX2_bottlesInside_3 rfl hl (by decide) rfl (fun ls hl => ?_)
  exact w_X2_bottlesInside_h4 C G hi fuel hP hS (lv_sub hl [2, 1, 0] rfl) h
set_option maxRecDepth 100000 in
set_option maxHeartbeats 4000000 in
theorem m_X2_bottlesInside (l : Launch) {D : va_G} {cs : Nat → ClassId} {ad : Nat → Nat} (hAd : adOK ad) (sz : Nat) {i : Nat} (hi : i < 6) {Ls : Nat → SL} {Hs : SL} {T : SL} {L : SL} {res : Int32} (h : f_X2_bottlesInside L = some res) : Met l yX2_bottlesInside wsX2_bottlesInside rmX2_bottlesInside (PA D cs sz (wA cs ad (va_up Ls i L) Hs T) [.ref (ad (5 + 14 * i + 0))]) (va_Qi (fun r' (_ : Unit) => r' = res) (fun _ t => va_P D vwCl (wA cs ad (va_up Ls i L) Hs T) t.heap) (Afr ad sz)) 0 0 (Afr ad sz) :=
  k_met (by decide) rfl (Nat.le_of_ble_eq_true rfl) hAd (fun p e s m below meth c ls C G hP hsz hl hS => by
    subst hsz
    exact w_X2_bottlesInside_e C G hi hP hS hl  h)
/-! X2 findLimiting -/
abbrev rmX2_findLimiting : Room := { frames := 0, cells := 0, slots := 0, locals := 0 }
theorem q_X2_findLimiting_0 : Cond.constant RX2 79 (1000000) ∈ wsX2_findLimiting := List.mem_of_getElem? (i := 1) rfl
theorem q_X2_findLimiting_1 : Cond.fieldLink RX2 23 "LineBuffers$Line" "machines" "I" ∈ wsX2_findLimiting := List.mem_of_getElem? (i := 2) rfl
theorem q_X2_findLimiting_2 : Cond.fieldLink RX2 11 "LineBuffers$Line" "rows" "[[I" ∈ wsX2_findLimiting := List.mem_of_getElem? (i := 3) rfl
theorem n_X2_findLimiting_X2 : ∀ x ∈ u_ws RX2 TX2 4, x ∈ wsX2_findLimiting := fun x h => List.mem_cons_of_mem _ (List.mem_append_right _ h)
set_option maxRecDepth 100000 in
set_option maxHeartbeats 4000000 in
theorem w_X2_findLimiting_b47 {res : Int32} (C : Cx p s m args meth c cX2_findLimiting 5 (some .int) RX2 wsX2_findLimiting) (G : Gx D cs ad s) {i : Nat} (hi : i < 6) {Ls : Nat → SL} {Hs : SL} {T : SL} {L : SL} {K7 : SL → Int32 → Int32 → Int32 → Option (Int32)} (hK7 : ∀ {x1 : Int32} {x2 : Int32} {x3 : Int32} {H : Heap} {locs : List Loc} {ls : Array Slot}, va_P D vwCl (wA cs ad (va_up Ls i L) Hs T) H → va_S (Afr ad s.heap.size) s.heap H locs → lv_has ls 5 [(0, .ref (ad (5 + 14 * i + 0))), (1, .int x1), (2, .int x2), (3, .int x3)] → K7 L x1 x2 x3 = some res → W p l e rmX2_findLimiting s m args below meth c H locs 0 0 (MQ below (va_Qi (fun r' (_ : Unit) => r' = res) (fun _ t => va_P D vwCl (wA cs ad (va_up Ls i L) Hs T) t.heap) (Afr ad s.heap.size)) args s 0 0 (Afr ad s.heap.size)) (F0 m 7 ls [])) {x1 : Int32} {x2 : Int32} {x3 : Int32} {H : Heap} {locs : List Loc} {ls : Array Slot} (hP : va_P D vwCl (wA cs ad (va_up Ls i L) Hs T) H) (hS : va_S (Afr ad s.heap.size) s.heap H locs) (hl : lv_has ls 5 [(0, .ref (ad (5 + 14 * i + 0))), (1, .int x1), (2, .int x2), (3, .int x3)]) (h : f_X2_findLimiting_b47 K7 L x1 x2 x3 = some res) : W p l e rmX2_findLimiting s m args below meth c H locs 0 0 (MQ below (va_Qi (fun r' (_ : Unit) => r' = res) (fun _ t => va_P D vwCl (wA cs ad (va_up Ls i L) Hs T) t.heap) (Afr ad s.heap.size)) args s 0 0 (Afr ad s.heap.size)) (F0 m 47 ls []) := by
  unfold f_X2_findLimiting_b47 at h
  obtain ⟨z1, ez1, h⟩ := lt_out h
  refine lv_iinc (v := z1) (lv' := [(3, .int z1), (0, .ref (ad (5 + 14 * i + 0))), (1, .int x1), (2, .int x2)]) C.1 C.2.1 dX2_findLimiting_47 hl (k := 3) rfl (by rw [ez1]; rfl) (by decide) rfl (fun ls hl => ?_)
  refine lv_goto (tgt := 7) C.1 C.2.1 dX2_findLimiting_50 (by decide) ?_
  exact hK7 hP hS (lv_sub hl [1, 2, 3, 0] rfl)  h
set_option maxRecDepth 100000 in
set_option maxHeartbeats 4000000 in
theorem w_X2_findLimiting_b7 {res : Int32} (C : Cx p s m args meth c cX2_findLimiting 5 (some .int) RX2 wsX2_findLimiting) (G : Gx D cs ad s) {i : Nat} (hi : i < 6) {Ls : Nat → SL} {Hs : SL} {T : SL} {L : SL} {K7 : SL → Int32 → Int32 → Int32 → Option (Int32)} (hK7 : ∀ {x1 : Int32} {x2 : Int32} {x3 : Int32} {H : Heap} {locs : List Loc} {ls : Array Slot}, va_P D vwCl (wA cs ad (va_up Ls i L) Hs T) H → va_S (Afr ad s.heap.size) s.heap H locs → lv_has ls 5 [(0, .ref (ad (5 + 14 * i + 0))), (1, .int x1), (2, .int x2), (3, .int x3)] → K7 L x1 x2 x3 = some res → W p l e rmX2_findLimiting s m args below meth c H locs 0 0 (MQ below (va_Qi (fun r' (_ : Unit) => r' = res) (fun _ t => va_P D vwCl (wA cs ad (va_up Ls i L) Hs T) t.heap) (Afr ad s.heap.size)) args s 0 0 (Afr ad s.heap.size)) (F0 m 7 ls [])) {x1 : Int32} {x2 : Int32} {x3 : Int32} {H : Heap} {locs : List Loc} {ls : Array Slot} (hP : va_P D vwCl (wA cs ad (va_up Ls i L) Hs T) H) (hS : va_S (Afr ad s.heap.size) s.heap H locs) (hl : lv_has ls 5 [(0, .ref (ad (5 + 14 * i + 0))), (1, .int x1), (2, .int x2), (3, .int x3)]) (h : f_X2_findLimiting_b7 K7 L x1 x2 x3 = some res) : W p l e rmX2_findLimiting s m args below meth c H locs 0 0 (MQ below (va_Qi (fun r' (_ : Unit) => r' = res) (fun _ t => va_P D vwCl (wA cs ad (va_up Ls i L) Hs T) t.heap) (Afr ad s.heap.size)) args s 0 0 (Afr ad s.heap.size)) (F0 m 7 ls []) := by
  unfold f_X2_findLimiting_b7 at h
  refine lv_iload_n C.1 C.2.1 dX2_findLimiting_7 rfl (lv_at hl 3 rfl) ?_
  refine lv_aload_n C.1 C.2.1 dX2_findLimiting_8 rfl (lv_at hl 0 rfl) ?_
  obtain ⟨v1, ev1, h⟩ := lt_out h
  refine k_geti C G hP (v_obj (i := i) hi) rfl 2 (by decide) n_X2_findLimiting_X2 q_X2_findLimiting_1 rfl ev1 dX2_findLimiting_9 ?_
  refine lv_icmp_ge (tgt := 53) C.1 C.2.1 dX2_findLimiting_12 (by decide) (fun c2 => ?_) (fun c2 => ?_)
  · have h := if_t c2 h
    refine lv_iload_n C.1 C.2.1 dX2_findLimiting_53 rfl (lv_at hl 1 rfl) ?_
    cases h
    exact k_iret C hP hS dX2_findLimiting_54
  · have h := if_f c2 h
    refine lv_aload_n C.1 C.2.1 dX2_findLimiting_15 rfl (lv_at hl 0 rfl) ?_
    refine k_getf C G hP (v_obj (i := i) hi) rfl 0 (by decide) n_X2_findLimiting_X2 q_X2_findLimiting_2 (v := .ref (ad (5 + 14 * i + 1))) rfl dX2_findLimiting_16 ?_
    refine lv_iload_n C.1 C.2.1 dX2_findLimiting_19 rfl (lv_at hl 3 rfl) ?_
    obtain ⟨g3, h⟩ := gd_out h
    have g3 := chk_in g3
    obtain ⟨kq4, ekq4, h⟩ := lt_out h
    have hkq4 : 2 ≤ kq4 ∧ kq4 < 10 := row_k g3 ekq4
    refine k_aaldR C G hP (v_rows (i := i) hi) g3 (b := ad (5 + 14 * i + kq4)) (by rw [ekq4]) dX2_findLimiting_20 ?_
    refine lv_bipush (v := 10) C.1 C.2.1 dX2_findLimiting_21 (by decide) ?_
    obtain ⟨v5, ev5, h⟩ := lt_out h
    refine k_iald C G hP (v_row (i := i) hi hkq4) (chk_in rfl) (j := 10) rfl ev5 dX2_findLimiting_23 ?_
    refine lv_aload_n C.1 C.2.1 dX2_findLimiting_24 rfl (lv_at hl 0 rfl) ?_
    refine k_getf C G hP (v_obj (i := i) hi) rfl 0 (by decide) n_X2_findLimiting_X2 q_X2_findLimiting_2 (v := .ref (ad (5 + 14 * i + 1))) rfl dX2_findLimiting_25 ?_
    refine lv_iload_n C.1 C.2.1 dX2_findLimiting_28 rfl (lv_at hl 3 rfl) ?_
    obtain ⟨kq6, ekq6, h⟩ := lt_out h
    have hkq6 : 2 ≤ kq6 ∧ kq6 < 10 := row_k g3 ekq6
    refine k_aaldR C G hP (v_rows (i := i) hi) g3 (b := ad (5 + 14 * i + kq6)) (by rw [ekq6]) dX2_findLimiting_29 ?_
    refine lv_bipush (v := 11) C.1 C.2.1 dX2_findLimiting_30 (by decide) ?_
    obtain ⟨v7, ev7, h⟩ := lt_out h
    refine k_iald C G hP (v_row (i := i) hi hkq6) (chk_in rfl) (j := 11) rfl ev7 dX2_findLimiting_32 ?_
    obtain ⟨v8, ev8, h⟩ := lt_out h
    refine k_iadd C ev8 dX2_findLimiting_33 ?_
    refine lv_istore (lv' := [(4, .int v8), (0, .ref (ad (5 + 14 * i + 0))), (1, .int x1), (2, .int x2), (3, .int x3)]) C.1 C.2.1 dX2_findLimiting_34 hl (by decide) rfl (fun ls hl => ?_)
    refine lv_iload C.1 C.2.1 dX2_findLimiting_36 (lv_at hl 0 rfl) ?_
    refine lv_iload_n C.1 C.2.1 dX2_findLimiting_38 rfl (lv_at hl 3 rfl) ?_
    refine lv_icmp_ge (tgt := 47) C.1 C.2.1 dX2_findLimiting_39 (by decide) (fun c9 => ?_) (fun c9 => ?_)
    · have h := if_t c9 h
      exact w_X2_findLimiting_b47 C G hi hK7 hP hS (lv_sub hl [1, 2, 3, 4] rfl) h
    · have h := if_f c9 h
      refine lv_iload C.1 C.2.1 dX2_findLimiting_42 (lv_at hl 0 rfl) ?_
      refine lv_istore_n (lv' := [(2, .int v8), (4, .int v8), (0, .ref (ad (5 + 14 * i + 0))), (1, .int x1), (3, .int x3)]) C.1 C.2.1 dX2_findLimiting_44 rfl hl (by decide) rfl (fun ls hl => ?_)
      refine lv_iload_n C.1 C.2.1 dX2_findLimiting_45 rfl (lv_at hl 4 rfl) ?_
      refine lv_istore_n (lv' := [(1, .int x3), (2, .int v8), (4, .int v8), (0, .ref (ad (5 + 14 * i + 0))), (3, .int x3)]) C.1 C.2.1 dX2_findLimiting_46 rfl hl (by decide) rfl (fun ls hl => ?_)
      exact w_X2_findLimiting_b47 C G hi hK7 hP hS (lv_sub hl [3, 0, 1, 4] rfl) h
set_option maxRecDepth 100000 in
set_option maxHeartbeats 4000000 in
theorem w_X2_findLimiting_h7 {res : Int32} (C : Cx p s m args meth c cX2_findLimiting 5 (some .int) RX2 wsX2_findLimiting) (G : Gx D cs ad s) {i : Nat} (hi : i < 6) {Ls : Nat → SL} {Hs : SL} {T : SL} {L : SL} : ∀ (n : Nat) {x1 : Int32} {x2 : Int32} {x3 : Int32} {H : Heap} {locs : List Loc} {ls : Array Slot}, va_P D vwCl (wA cs ad (va_up Ls i L) Hs T) H → va_S (Afr ad s.heap.size) s.heap H locs → lv_has ls 5 [(0, .ref (ad (5 + 14 * i + 0))), (1, .int x1), (2, .int x2), (3, .int x3)] → f_X2_findLimiting_h7 n L x1 x2 x3 = some res → W p l e rmX2_findLimiting s m args below meth c H locs 0 0 (MQ below (va_Qi (fun r' (_ : Unit) => r' = res) (fun _ t => va_P D vwCl (wA cs ad (va_up Ls i L) Hs T) t.heap) (Afr ad s.heap.size)) args s 0 0 (Afr ad s.heap.size)) (F0 m 7 ls []) := by
  intro n
  induction n with
  | zero => intro  x1 x2 x3 H locs ls hP hS hl  h; cases h
  | succ n ih => intro  x1 x2 x3 H locs ls hP hS hl  h; exact w_X2_findLimiting_b7 C G  hi  ih hP hS hl  h
set_option maxRecDepth 100000 in
set_option maxHeartbeats 4000000 in
theorem w_X2_findLimiting_e {res : Int32} (C : Cx p s m args meth c cX2_findLimiting 5 (some .int) RX2 wsX2_findLimiting) (G : Gx D cs ad s) {i : Nat} (hi : i < 6) {Ls : Nat → SL} {Hs : SL} {T : SL} {L : SL} {H : Heap} {locs : List Loc} {ls : Array Slot} (hP : va_P D vwCl (wA cs ad (va_up Ls i L) Hs T) H) (hS : va_S (Afr ad s.heap.size) s.heap H locs) (hl : lv_has ls 5 [(0, .ref (ad (5 + 14 * i + 0)))]) (h : f_X2_findLimiting L = some res) : W p l e rmX2_findLimiting s m args below meth c H locs 0 0 (MQ below (va_Qi (fun r' (_ : Unit) => r' = res) (fun _ t => va_P D vwCl (wA cs ad (va_up Ls i L) Hs T) t.heap) (Afr ad s.heap.size)) args s 0 0 (Afr ad s.heap.size)) (F0 m 0 ls []) := by
  unfold f_X2_findLimiting at h
  refine lv_iconst (v := 0) C.1 C.2.1 dX2_findLimiting_0 (by decide) ?_
  refine lv_istore_n (lv' := [(1, .int 0), (0, .ref (ad (5 + 14 * i + 0)))]) C.1 C.2.1 dX2_findLimiting_1 rfl hl (by decide) rfl (fun ls hl => ?_)
  refine k_ldci C G q_X2_findLimiting_0 dX2_findLimiting_2 ?_
  refine lv_istore_n (lv' := [(2, .int 1000000), (1, .int 0), (0, .ref (ad (5 + 14 * i + 0)))]) C.1 C.2.1 dX2_findLimiting_4 rfl hl (by decide) rfl (fun ls hl => ?_)
  refine lv_iconst (v := 0) C.1 C.2.1 dX2_findLimiting_5 (by decide) ?_
  refine lv_istore_n (lv' := [(3, .int 0), (2, .int 1000000), (1, .int 0), (0, .ref (ad (5 + 14 * i + 0)))]) C.1 C.2.1 dX2_findLimiting_6 rfl hl (by decide) rfl (fun ls hl => ?_)
  exact w_X2_findLimiting_h7 C G hi fuel hP hS (lv_sub hl [3, 2, 1, 0] rfl) h
set_option maxRecDepth 100000 in
set_option maxHeartbeats 4000000 in
theorem m_X2_findLimiting (l : Launch) {D : va_G} {cs : Nat → ClassId} {ad : Nat → Nat} (hAd : adOK ad) (sz : Nat) {i : Nat} (hi : i < 6) {Ls : Nat → SL} {Hs : SL} {T : SL} {L : SL} {res : Int32} (h : f_X2_findLimiting L = some res) : Met l yX2_findLimiting wsX2_findLimiting rmX2_findLimiting (PA D cs sz (wA cs ad (va_up Ls i L) Hs T) [.ref (ad (5 + 14 * i + 0))]) (va_Qi (fun r' (_ : Unit) => r' = res) (fun _ t => va_P D vwCl (wA cs ad (va_up Ls i L) Hs T) t.heap) (Afr ad sz)) 0 0 (Afr ad sz) :=
  k_met (by decide) rfl (Nat.le_of_ble_eq_true rfl) hAd (fun p e s m below meth c ls C G hP hsz hl hS => by
    subst hsz
    exact w_X2_findLimiting_e C G hi hP hS hl  h)
/-! X2 upTicks -/
abbrev rmX2_upTicks : Room := { frames := 2, cells := 0, slots := 0, locals := 49 }
theorem q_X2_upTicks_0 : Cond.fieldLink RX2 19 "LineBuffers$Line" "stops" "LLineBuffers$Stops;" ∈ wsX2_upTicks := List.mem_of_getElem? (i := 1) rfl
theorem q_X2_upTicks_1 : Cond.methodLink RX2 87 Lib.Math.min.name ∈ wsX2_upTicks := List.mem_of_getElem? (i := 2) rfl
theorem q_X2_upTicks_2 : Cond.static Lib.Math.min.name ∈ wsX2_upTicks := List.mem_of_getElem? (i := 3) rfl
theorem q_X2_upTicks_3 : Cond.initialized "java/lang/Math" ∈ wsX2_upTicks := List.mem_of_getElem? (i := 4) rfl
theorem q_X2_upTicks_4 : Cond.code Lib.Math.min.name Lib.Math.min.code 2 (some .int) ∈ wsX2_upTicks := List.mem_of_getElem? (i := 5) rfl
theorem n_X2_upTicks_X2 : ∀ x ∈ u_ws RX2 TX2 4, x ∈ wsX2_upTicks := fun x h => List.mem_cons_of_mem _ (List.mem_append_left _ (List.mem_append_right _ h))
set_option maxRecDepth 100000 in
set_option maxHeartbeats 4000000 in
theorem w_X2_upTicks_b57 {res : Int32 × SL} (C : Cx p s m args meth c cX2_upTicks 7 (some .int) RX2 wsX2_upTicks) (G : Gx D cs ad s) {i : Nat} (hi : i < 6) {Ls : Nat → SL} {Hs : SL} {T : SL} {K8 : SL → Int32 → Int32 → Int32 → Int32 → Int32 → Option (Int32 × SL)} (hK8 : ∀ {L : SL} {x1 : Int32} {x2 : Int32} {x3 : Int32} {x4 : Int32} {x5 : Int32} {H : Heap} {locs : List Loc} {ls : Array Slot}, va_P D vwCl (wA cs ad (va_up Ls i L) Hs T) H → va_S (Afr ad s.heap.size) s.heap H locs → lv_has ls 7 [(0, .ref (ad (5 + 14 * i + 0))), (1, .int x1), (2, .int x2), (3, .int x3), (4, .int x4), (5, .int x5)] → K8 L x1 x2 x3 x4 x5 = some res → W p l e rmX2_upTicks s m args below meth c H locs 0 0 (MQ below (va_Qi (fun r' (_ : Unit) => r' = res.1) (fun _ t => va_P D vwCl (wA cs ad (va_up Ls i res.2) Hs T) t.heap) (Afr ad s.heap.size)) args s 0 0 (Afr ad s.heap.size)) (F0 m 8 ls [])) {L : SL} {x1 : Int32} {x2 : Int32} {x3 : Int32} {x5 : Int32} {x6 : Int32} {H : Heap} {locs : List Loc} {ls : Array Slot} (hP : va_P D vwCl (wA cs ad (va_up Ls i L) Hs T) H) (hS : va_S (Afr ad s.heap.size) s.heap H locs) (hl : lv_has ls 7 [(0, .ref (ad (5 + 14 * i + 0))), (1, .int x1), (2, .int x2), (3, .int x3), (5, .int x5), (6, .int x6)]) (h : f_X2_upTicks_b57 K8 L x1 x2 x3 x5 x6 = some res) : W p l e rmX2_upTicks s m args below meth c H locs 0 0 (MQ below (va_Qi (fun r' (_ : Unit) => r' = res.1) (fun _ t => va_P D vwCl (wA cs ad (va_up Ls i res.2) Hs T) t.heap) (Afr ad s.heap.size)) args s 0 0 (Afr ad s.heap.size)) (F0 m 57 ls []) := by
  unfold f_X2_upTicks_b57 at h
  refine lv_iload C.1 C.2.1 dX2_upTicks_57 (lv_at hl 5 rfl) ?_
  refine lv_istore (lv' := [(4, .int x6), (0, .ref (ad (5 + 14 * i + 0))), (1, .int x1), (2, .int x2), (3, .int x3), (5, .int x5), (6, .int x6)]) C.1 C.2.1 dX2_upTicks_59 hl (by decide) rfl (fun ls hl => ?_)
  obtain ⟨z1, ez1, h⟩ := lt_out h
  refine lv_iinc (v := z1) (lv' := [(5, .int z1), (4, .int x6), (0, .ref (ad (5 + 14 * i + 0))), (1, .int x1), (2, .int x2), (3, .int x3), (6, .int x6)]) C.1 C.2.1 dX2_upTicks_61 hl (k := 5) rfl (by rw [ez1]; rfl) (by decide) rfl (fun ls hl => ?_)
  refine lv_goto (tgt := 8) C.1 C.2.1 dX2_upTicks_64 (by decide) ?_
  exact hK8 hP hS (lv_sub hl [2, 3, 4, 5, 1, 0] rfl)  h
set_option maxRecDepth 100000 in
set_option maxHeartbeats 4000000 in
theorem w_X2_upTicks_b8 {res : Int32 × SL} (C : Cx p s m args meth c cX2_upTicks 7 (some .int) RX2 wsX2_upTicks) (G : Gx D cs ad s) {i : Nat} (hi : i < 6) {Ls : Nat → SL} {Hs : SL} {T : SL} {K8 : SL → Int32 → Int32 → Int32 → Int32 → Int32 → Option (Int32 × SL)} (hK8 : ∀ {L : SL} {x1 : Int32} {x2 : Int32} {x3 : Int32} {x4 : Int32} {x5 : Int32} {H : Heap} {locs : List Loc} {ls : Array Slot}, va_P D vwCl (wA cs ad (va_up Ls i L) Hs T) H → va_S (Afr ad s.heap.size) s.heap H locs → lv_has ls 7 [(0, .ref (ad (5 + 14 * i + 0))), (1, .int x1), (2, .int x2), (3, .int x3), (4, .int x4), (5, .int x5)] → K8 L x1 x2 x3 x4 x5 = some res → W p l e rmX2_upTicks s m args below meth c H locs 0 0 (MQ below (va_Qi (fun r' (_ : Unit) => r' = res.1) (fun _ t => va_P D vwCl (wA cs ad (va_up Ls i res.2) Hs T) t.heap) (Afr ad s.heap.size)) args s 0 0 (Afr ad s.heap.size)) (F0 m 8 ls [])) {L : SL} {x1 : Int32} {x2 : Int32} {x3 : Int32} {x4 : Int32} {x5 : Int32} {H : Heap} {locs : List Loc} {ls : Array Slot} (hP : va_P D vwCl (wA cs ad (va_up Ls i L) Hs T) H) (hS : va_S (Afr ad s.heap.size) s.heap H locs) (hl : lv_has ls 7 [(0, .ref (ad (5 + 14 * i + 0))), (1, .int x1), (2, .int x2), (3, .int x3), (4, .int x4), (5, .int x5)]) (h : f_X2_upTicks_b8 K8 L x1 x2 x3 x4 x5 = some res) : W p l e rmX2_upTicks s m args below meth c H locs 0 0 (MQ below (va_Qi (fun r' (_ : Unit) => r' = res.1) (fun _ t => va_P D vwCl (wA cs ad (va_up Ls i res.2) Hs T) t.heap) (Afr ad s.heap.size)) args s 0 0 (Afr ad s.heap.size)) (F0 m 8 ls []) := by
  unfold f_X2_upTicks_b8 at h
  refine lv_iload C.1 C.2.1 dX2_upTicks_8 (lv_at hl 5 rfl) ?_
  refine lv_bipush (v := 80) C.1 C.2.1 dX2_upTicks_10 (by decide) ?_
  refine lv_icmp_gt (tgt := 67) C.1 C.2.1 dX2_upTicks_12 (by decide) (fun c1 => ?_) (fun c1 => ?_)
  · have h := if_t c1 h
    refine lv_iload_n C.1 C.2.1 dX2_upTicks_67 rfl (lv_at hl 3 rfl) ?_
    cases h
    exact k_iret C hP hS dX2_upTicks_68
  · have h := if_f c1 h
    refine lv_iload C.1 C.2.1 dX2_upTicks_15 (lv_at hl 4 rfl) ?_
    refine lv_iload_n C.1 C.2.1 dX2_upTicks_17 rfl (lv_at hl 2 rfl) ?_
    refine lv_icmp_gt (tgt := 67) C.1 C.2.1 dX2_upTicks_18 (by decide) (fun c2 => ?_) (fun c2 => ?_)
    · have h := if_t c2 h
      refine lv_iload_n C.1 C.2.1 dX2_upTicks_67 rfl (lv_at hl 3 rfl) ?_
      cases h
      exact k_iret C hP hS dX2_upTicks_68
    · have h := if_f c2 h
      refine lv_aload_n C.1 C.2.1 dX2_upTicks_21 rfl (lv_at hl 0 rfl) ?_
      refine k_getf C G hP (v_obj (i := i) hi) rfl 1 (by decide) n_X2_upTicks_X2 q_X2_upTicks_0 (v := .ref (ad (5 + 14 * i + 10))) rfl dX2_upTicks_22 ?_
      refine lv_iload C.1 C.2.1 dX2_upTicks_25 (lv_at hl 4 rfl) ?_
      obtain ⟨r3, L4, c5, h⟩ := bd2_out h
      refine k_callVi C G hP hS (m_X4_lookAt l G.2.1 _ (i := i) hi c5) (v_sto (i := i) hi) rfl (cwV 1 C.2.2.2.2.2.1 gX2_upTicks_X4_lookAt rfl rfl rfl (by decide +kernel) ⟨Nat.le_of_ble_eq_true rfl, Nat.le_of_ble_eq_true rfl⟩) (As := [.int x4]) rfl hl.1 rfl (Nat.le_of_ble_eq_true rfl) dX2_upTicks_27 ⟨Nat.le_of_ble_eq_true rfl, Nat.le_of_ble_eq_true rfl⟩ (fun H locs hP hS => ?_)
      refine lv_iload_n C.1 C.2.1 dX2_upTicks_30 rfl (lv_at hl 2 rfl) ?_
      refine lv_iconst (v := 1) C.1 C.2.1 dX2_upTicks_31 (by decide) ?_
      obtain ⟨v6, ev6, h⟩ := lt_out h
      refine k_iadd C ev6 dX2_upTicks_32 ?_
      obtain ⟨v7, ev7, h⟩ := lt_out h
      refine k_min C G hl.1 q_X2_upTicks_1 q_X2_upTicks_2 q_X2_upTicks_3 q_X2_upTicks_4 (Nat.le_of_ble_eq_true rfl) (Nat.le_of_ble_eq_true rfl) (Nat.le_of_ble_eq_true rfl) (Nat.le_of_ble_eq_true rfl) ev7 dX2_upTicks_33 ?_
      refine lv_istore (lv' := [(6, .int v7), (0, .ref (ad (5 + 14 * i + 0))), (1, .int x1), (2, .int x2), (3, .int x3), (4, .int x4), (5, .int x5)]) C.1 C.2.1 dX2_upTicks_36 hl (by decide) rfl (fun ls hl => ?_)
      refine lv_aload_n C.1 C.2.1 dX2_upTicks_38 rfl (lv_at hl 1 rfl) ?_
      refine k_getf C G hP (v_obj (i := i) hi) rfl 1 (by decide) n_X2_upTicks_X2 q_X2_upTicks_0 (v := .ref (ad (5 + 14 * i + 10))) rfl dX2_upTicks_39 ?_
      refine lv_iload_n C.1 C.2.1 dX2_upTicks_42 rfl (lv_at hl 2 rfl) ?_
      obtain ⟨r8, c9, h⟩ := bd_out h
      refine k_callVi C G hP hS (m_X4_isDown l G.2.1 _ (i := i) hi c9) (v_sto (i := i) hi) rfl (cwV 1 C.2.2.2.2.2.1 gX2_upTicks_X4_isDown rfl rfl rfl (by decide +kernel) ⟨Nat.le_of_ble_eq_true rfl, Nat.le_of_ble_eq_true rfl⟩) (As := [.int x1]) rfl hl.1 rfl (Nat.le_of_ble_eq_true rfl) dX2_upTicks_43 ⟨Nat.le_of_ble_eq_true rfl, Nat.le_of_ble_eq_true rfl⟩ (fun H locs hP hS => ?_)
      refine lv_if_ne (tgt := 57) C.1 C.2.1 dX2_upTicks_46 (by decide) (fun c10 => ?_) (fun c10 => ?_)
      · have h := if_t c10 h
        exact w_X2_upTicks_b57 C G hi hK8 hP hS (lv_sub hl [1, 2, 3, 4, 6, 0] rfl) h
      · have h := if_n c10 h
        refine lv_iload_n C.1 C.2.1 dX2_upTicks_49 rfl (lv_at hl 4 rfl) ?_
        refine lv_iload C.1 C.2.1 dX2_upTicks_50 (lv_at hl 0 rfl) ?_
        refine lv_iload C.1 C.2.1 dX2_upTicks_52 (lv_at hl 5 rfl) ?_
        obtain ⟨v11, ev11, h⟩ := lt_out h
        refine k_isub C ev11 dX2_upTicks_54 ?_
        obtain ⟨v12, ev12, h⟩ := lt_out h
        refine k_iadd C ev12 dX2_upTicks_55 ?_
        refine lv_istore_n (lv' := [(3, .int v12), (6, .int v7), (0, .ref (ad (5 + 14 * i + 0))), (1, .int x1), (2, .int x2), (4, .int x4), (5, .int x5)]) C.1 C.2.1 dX2_upTicks_56 rfl hl (by decide) rfl (fun ls hl => ?_)
        exact w_X2_upTicks_b57 C G hi hK8 hP hS (lv_sub hl [2, 3, 4, 0, 6, 1] rfl) h
set_option maxRecDepth 100000 in
set_option maxHeartbeats 4000000 in
theorem w_X2_upTicks_h8 {res : Int32 × SL} (C : Cx p s m args meth c cX2_upTicks 7 (some .int) RX2 wsX2_upTicks) (G : Gx D cs ad s) {i : Nat} (hi : i < 6) {Ls : Nat → SL} {Hs : SL} {T : SL} : ∀ (n : Nat) {L : SL} {x1 : Int32} {x2 : Int32} {x3 : Int32} {x4 : Int32} {x5 : Int32} {H : Heap} {locs : List Loc} {ls : Array Slot}, va_P D vwCl (wA cs ad (va_up Ls i L) Hs T) H → va_S (Afr ad s.heap.size) s.heap H locs → lv_has ls 7 [(0, .ref (ad (5 + 14 * i + 0))), (1, .int x1), (2, .int x2), (3, .int x3), (4, .int x4), (5, .int x5)] → f_X2_upTicks_h8 n L x1 x2 x3 x4 x5 = some res → W p l e rmX2_upTicks s m args below meth c H locs 0 0 (MQ below (va_Qi (fun r' (_ : Unit) => r' = res.1) (fun _ t => va_P D vwCl (wA cs ad (va_up Ls i res.2) Hs T) t.heap) (Afr ad s.heap.size)) args s 0 0 (Afr ad s.heap.size)) (F0 m 8 ls []) := by
  intro n
  induction n with
  | zero => intro L x1 x2 x3 x4 x5 H locs ls hP hS hl  h; cases h
  | succ n ih => intro L x1 x2 x3 x4 x5 H locs ls hP hS hl  h; exact w_X2_upTicks_b8 C G  hi  ih hP hS hl  h
set_option maxRecDepth 100000 in
set_option maxHeartbeats 4000000 in
theorem w_X2_upTicks_e {res : Int32 × SL} (C : Cx p s m args meth c cX2_upTicks 7 (some .int) RX2 wsX2_upTicks) (G : Gx D cs ad s) {i : Nat} (hi : i < 6) {Ls : Nat → SL} {Hs : SL} {T : SL} {L : SL} {x1 : Int32} {x2 : Int32} {H : Heap} {locs : List Loc} {ls : Array Slot} (hP : va_P D vwCl (wA cs ad (va_up Ls i L) Hs T) H) (hS : va_S (Afr ad s.heap.size) s.heap H locs) (hl : lv_has ls 7 [(0, .ref (ad (5 + 14 * i + 0))), (1, .int x1), (2, .int x2)]) (h : f_X2_upTicks L x1 x2 = some res) : W p l e rmX2_upTicks s m args below meth c H locs 0 0 (MQ below (va_Qi (fun r' (_ : Unit) => r' = res.1) (fun _ t => va_P D vwCl (wA cs ad (va_up Ls i res.2) Hs T) t.heap) (Afr ad s.heap.size)) args s 0 0 (Afr ad s.heap.size)) (F0 m 0 ls []) := by
  unfold f_X2_upTicks at h
  refine lv_iconst (v := 0) C.1 C.2.1 dX2_upTicks_0 (by decide) ?_
  refine lv_istore_n (lv' := [(3, .int 0), (0, .ref (ad (5 + 14 * i + 0))), (1, .int x1), (2, .int x2)]) C.1 C.2.1 dX2_upTicks_1 rfl hl (by decide) rfl (fun ls hl => ?_)
  refine lv_iconst (v := 1) C.1 C.2.1 dX2_upTicks_2 (by decide) ?_
  refine lv_istore (lv' := [(4, .int 1), (3, .int 0), (0, .ref (ad (5 + 14 * i + 0))), (1, .int x1), (2, .int x2)]) C.1 C.2.1 dX2_upTicks_3 hl (by decide) rfl (fun ls hl => ?_)
  refine lv_iconst (v := 0) C.1 C.2.1 dX2_upTicks_5 (by decide) ?_
  refine lv_istore (lv' := [(5, .int 0), (4, .int 1), (3, .int 0), (0, .ref (ad (5 + 14 * i + 0))), (1, .int x1), (2, .int x2)]) C.1 C.2.1 dX2_upTicks_6 hl (by decide) rfl (fun ls hl => ?_)
  exact w_X2_upTicks_h8 C G hi fuel hP hS (lv_sub hl [3, 4, 5, 2, 1, 0] rfl) h
set_option maxRecDepth 100000 in
set_option maxHeartbeats 4000000 in
theorem m_X2_upTicks (l : Launch) {D : va_G} {cs : Nat → ClassId} {ad : Nat → Nat} (hAd : adOK ad) (sz : Nat) {i : Nat} (hi : i < 6) {Ls : Nat → SL} {Hs : SL} {T : SL} {L : SL} {x1 : Int32} {x2 : Int32} {res : Int32 × SL} (h : f_X2_upTicks L x1 x2 = some res) : Met l yX2_upTicks wsX2_upTicks rmX2_upTicks (PA D cs sz (wA cs ad (va_up Ls i L) Hs T) [.ref (ad (5 + 14 * i + 0)), .int x1, .int x2]) (va_Qi (fun r' (_ : Unit) => r' = res.1) (fun _ t => va_P D vwCl (wA cs ad (va_up Ls i res.2) Hs T) t.heap) (Afr ad sz)) 0 0 (Afr ad sz) :=
  k_met (by decide) rfl (Nat.le_of_ble_eq_true rfl) hAd (fun p e s m below meth c ls C G hP hsz hl hS => by
    subst hsz
    exact w_X2_upTicks_e C G hi hP hS hl  h)
/-! X2 mostBottles -/
abbrev rmX2_mostBottles : Room := { frames := 3, cells := 0, slots := 0, locals := 75 }
theorem q_X2_mostBottles_0 : Cond.fieldLink RX2 11 "LineBuffers$Line" "rows" "[[I" ∈ wsX2_mostBottles := List.mem_of_getElem? (i := 1) rfl
theorem n_X2_mostBottles_X2 : ∀ x ∈ u_ws RX2 TX2 4, x ∈ wsX2_mostBottles := fun x h => List.mem_cons_of_mem _ (List.mem_append_left _ (List.mem_append_right _ h))
set_option maxRecDepth 100000 in
set_option maxHeartbeats 4000000 in
theorem w_X2_mostBottles_e {res : Int32 × SL} (C : Cx p s m args meth c cX2_mostBottles 4 (some .int) RX2 wsX2_mostBottles) (G : Gx D cs ad s) {i : Nat} (hi : i < 6) {Ls : Nat → SL} {Hs : SL} {T : SL} {L : SL} {x1 : Int32} {x2 : Int32} {H : Heap} {locs : List Loc} {ls : Array Slot} (hP : va_P D vwCl (wA cs ad (va_up Ls i L) Hs T) H) (hS : va_S (Afr ad s.heap.size) s.heap H locs) (hl : lv_has ls 4 [(0, .ref (ad (5 + 14 * i + 0))), (1, .int x1), (2, .int x2)]) (h : f_X2_mostBottles L x1 x2 = some res) : W p l e rmX2_mostBottles s m args below meth c H locs 0 0 (MQ below (va_Qi (fun r' (_ : Unit) => r' = res.1) (fun _ t => va_P D vwCl (wA cs ad (va_up Ls i res.2) Hs T) t.heap) (Afr ad s.heap.size)) args s 0 0 (Afr ad s.heap.size)) (F0 m 0 ls []) := by
  unfold f_X2_mostBottles at h
  refine lv_aload_n C.1 C.2.1 dX2_mostBottles_0 rfl (lv_at hl 0 rfl) ?_
  refine k_getf C G hP (v_obj (i := i) hi) rfl 0 (by decide) n_X2_mostBottles_X2 q_X2_mostBottles_0 (v := .ref (ad (5 + 14 * i + 1))) rfl dX2_mostBottles_1 ?_
  refine lv_iload_n C.1 C.2.1 dX2_mostBottles_4 rfl (lv_at hl 1 rfl) ?_
  obtain ⟨g1, h⟩ := gd_out h
  have g1 := chk_in g1
  obtain ⟨kq2, ekq2, h⟩ := lt_out h
  have hkq2 : 2 ≤ kq2 ∧ kq2 < 10 := row_k g1 ekq2
  refine k_aaldR C G hP (v_rows (i := i) hi) g1 (b := ad (5 + 14 * i + kq2)) (by rw [ekq2]) dX2_mostBottles_5 ?_
  refine lv_iconst (v := 1) C.1 C.2.1 dX2_mostBottles_6 (by decide) ?_
  obtain ⟨v3, ev3, h⟩ := lt_out h
  refine k_iald C G hP (v_row (i := i) hi hkq2) (chk_in rfl) (j := 1) rfl ev3 dX2_mostBottles_7 ?_
  refine lv_istore_n (lv' := [(3, .int v3), (0, .ref (ad (5 + 14 * i + 0))), (1, .int x1), (2, .int x2)]) C.1 C.2.1 dX2_mostBottles_8 rfl hl (by decide) rfl (fun ls hl => ?_)
  refine lv_iload_n C.1 C.2.1 dX2_mostBottles_9 rfl (lv_at hl 0 rfl) ?_
  refine lv_iconst (v := 1) C.1 C.2.1 dX2_mostBottles_10 (by decide) ?_
  refine lv_icmp_ge (tgt := 18) C.1 C.2.1 dX2_mostBottles_11 (by decide) (fun c4 => ?_) (fun c4 => ?_)
  · have h := if_t c4 h
    refine lv_aload_n C.1 C.2.1 dX2_mostBottles_18 rfl (lv_at hl 1 rfl) ?_
    refine lv_iload_n C.1 C.2.1 dX2_mostBottles_19 rfl (lv_at hl 2 rfl) ?_
    refine lv_iload_n C.1 C.2.1 dX2_mostBottles_20 rfl (lv_at hl 3 rfl) ?_
    obtain ⟨r5, L6, c7, h⟩ := bd2_out h
    refine k_callVi C G hP hS (m_X2_upTicks l G.2.1 _ (i := i) hi c7) (v_obj (i := i) hi) rfl (cwV 2 C.2.2.2.2.2.1 gX2_mostBottles_X2_upTicks rfl rfl rfl (by decide +kernel) ⟨Nat.le_of_ble_eq_true rfl, Nat.le_of_ble_eq_true rfl⟩) (As := [.int x1, .int x2]) rfl hl.1 rfl (Nat.le_of_ble_eq_true rfl) dX2_mostBottles_21 ⟨Nat.le_of_ble_eq_true rfl, Nat.le_of_ble_eq_true rfl⟩ (fun H locs hP hS => ?_)
    refine lv_iload_n C.1 C.2.1 dX2_mostBottles_24 rfl (lv_at hl 0 rfl) ?_
    obtain ⟨g8, h⟩ := gd_out h
    have g8 := nz_ne g8
    obtain ⟨v9, ev9, h⟩ := lt_out h
    refine k_idiv C g8 ev9 dX2_mostBottles_25 ?_
    cases h
    exact k_iret C hP hS dX2_mostBottles_26
  · have h := if_f c4 h
    refine lv_iconst (v := 0) C.1 C.2.1 dX2_mostBottles_14 (by decide) ?_
    refine lv_goto (tgt := 26) C.1 C.2.1 dX2_mostBottles_15 (by decide) ?_
    cases h
    exact k_iret C hP hS dX2_mostBottles_26
set_option maxRecDepth 100000 in
set_option maxHeartbeats 4000000 in
theorem m_X2_mostBottles (l : Launch) {D : va_G} {cs : Nat → ClassId} {ad : Nat → Nat} (hAd : adOK ad) (sz : Nat) {i : Nat} (hi : i < 6) {Ls : Nat → SL} {Hs : SL} {T : SL} {L : SL} {x1 : Int32} {x2 : Int32} {res : Int32 × SL} (h : f_X2_mostBottles L x1 x2 = some res) : Met l yX2_mostBottles wsX2_mostBottles rmX2_mostBottles (PA D cs sz (wA cs ad (va_up Ls i L) Hs T) [.ref (ad (5 + 14 * i + 0)), .int x1, .int x2]) (va_Qi (fun r' (_ : Unit) => r' = res.1) (fun _ t => va_P D vwCl (wA cs ad (va_up Ls i res.2) Hs T) t.heap) (Afr ad sz)) 0 0 (Afr ad sz) :=
  k_met (by decide) rfl (Nat.le_of_ble_eq_true rfl) hAd (fun p e s m below meth c ls C G hP hsz hl hS => by
    subst hsz
    exact w_X2_mostBottles_e C G hi hP hS hl  h)
/-! X2 findSlowest -/
abbrev rmX2_findSlowest : Room := { frames := 4, cells := 0, slots := 0, locals := 98 }
theorem q_X2_findSlowest_0 : Cond.constant RX2 79 (1000000) ∈ wsX2_findSlowest := List.mem_of_getElem? (i := 1) rfl
theorem q_X2_findSlowest_1 : Cond.fieldLink RX2 23 "LineBuffers$Line" "machines" "I" ∈ wsX2_findSlowest := List.mem_of_getElem? (i := 2) rfl
theorem n_X2_findSlowest_X2 : ∀ x ∈ u_ws RX2 TX2 4, x ∈ wsX2_findSlowest := fun x h => List.mem_cons_of_mem _ (List.mem_append_left _ (List.mem_append_right _ h))
set_option maxRecDepth 100000 in
set_option maxHeartbeats 4000000 in
theorem w_X2_findSlowest_b38 {res : Int32 × SL} (C : Cx p s m args meth c cX2_findSlowest 6 (some .int) RX2 wsX2_findSlowest) (G : Gx D cs ad s) {i : Nat} (hi : i < 6) {Ls : Nat → SL} {Hs : SL} {T : SL} {K8 : SL → Int32 → Int32 → Int32 → Int32 → Option (Int32 × SL)} (hK8 : ∀ {L : SL} {x1 : Int32} {x2 : Int32} {x3 : Int32} {x4 : Int32} {H : Heap} {locs : List Loc} {ls : Array Slot}, va_P D vwCl (wA cs ad (va_up Ls i L) Hs T) H → va_S (Afr ad s.heap.size) s.heap H locs → lv_has ls 6 [(0, .ref (ad (5 + 14 * i + 0))), (1, .int x1), (2, .int x2), (3, .int x3), (4, .int x4)] → K8 L x1 x2 x3 x4 = some res → W p l e rmX2_findSlowest s m args below meth c H locs 0 0 (MQ below (va_Qi (fun r' (_ : Unit) => r' = res.1) (fun _ t => va_P D vwCl (wA cs ad (va_up Ls i res.2) Hs T) t.heap) (Afr ad s.heap.size)) args s 0 0 (Afr ad s.heap.size)) (F0 m 8 ls [])) {L : SL} {x1 : Int32} {x2 : Int32} {x3 : Int32} {x4 : Int32} {H : Heap} {locs : List Loc} {ls : Array Slot} (hP : va_P D vwCl (wA cs ad (va_up Ls i L) Hs T) H) (hS : va_S (Afr ad s.heap.size) s.heap H locs) (hl : lv_has ls 6 [(0, .ref (ad (5 + 14 * i + 0))), (1, .int x1), (2, .int x2), (3, .int x3), (4, .int x4)]) (h : f_X2_findSlowest_b38 K8 L x1 x2 x3 x4 = some res) : W p l e rmX2_findSlowest s m args below meth c H locs 0 0 (MQ below (va_Qi (fun r' (_ : Unit) => r' = res.1) (fun _ t => va_P D vwCl (wA cs ad (va_up Ls i res.2) Hs T) t.heap) (Afr ad s.heap.size)) args s 0 0 (Afr ad s.heap.size)) (F0 m 38 ls []) := by
  unfold f_X2_findSlowest_b38 at h
  obtain ⟨z1, ez1, h⟩ := lt_out h
  refine lv_iinc (v := z1) (lv' := [(4, .int z1), (0, .ref (ad (5 + 14 * i + 0))), (1, .int x1), (2, .int x2), (3, .int x3)]) C.1 C.2.1 dX2_findSlowest_38 hl (k := 4) rfl (by rw [ez1]; rfl) (by decide) rfl (fun ls hl => ?_)
  refine lv_goto (tgt := 8) C.1 C.2.1 dX2_findSlowest_41 (by decide) ?_
  exact hK8 hP hS (lv_sub hl [1, 2, 3, 4, 0] rfl)  h
set_option maxRecDepth 100000 in
set_option maxHeartbeats 4000000 in
theorem w_X2_findSlowest_b8 {res : Int32 × SL} (C : Cx p s m args meth c cX2_findSlowest 6 (some .int) RX2 wsX2_findSlowest) (G : Gx D cs ad s) {i : Nat} (hi : i < 6) {Ls : Nat → SL} {Hs : SL} {T : SL} {K8 : SL → Int32 → Int32 → Int32 → Int32 → Option (Int32 × SL)} (hK8 : ∀ {L : SL} {x1 : Int32} {x2 : Int32} {x3 : Int32} {x4 : Int32} {H : Heap} {locs : List Loc} {ls : Array Slot}, va_P D vwCl (wA cs ad (va_up Ls i L) Hs T) H → va_S (Afr ad s.heap.size) s.heap H locs → lv_has ls 6 [(0, .ref (ad (5 + 14 * i + 0))), (1, .int x1), (2, .int x2), (3, .int x3), (4, .int x4)] → K8 L x1 x2 x3 x4 = some res → W p l e rmX2_findSlowest s m args below meth c H locs 0 0 (MQ below (va_Qi (fun r' (_ : Unit) => r' = res.1) (fun _ t => va_P D vwCl (wA cs ad (va_up Ls i res.2) Hs T) t.heap) (Afr ad s.heap.size)) args s 0 0 (Afr ad s.heap.size)) (F0 m 8 ls [])) {L : SL} {x1 : Int32} {x2 : Int32} {x3 : Int32} {x4 : Int32} {H : Heap} {locs : List Loc} {ls : Array Slot} (hP : va_P D vwCl (wA cs ad (va_up Ls i L) Hs T) H) (hS : va_S (Afr ad s.heap.size) s.heap H locs) (hl : lv_has ls 6 [(0, .ref (ad (5 + 14 * i + 0))), (1, .int x1), (2, .int x2), (3, .int x3), (4, .int x4)]) (h : f_X2_findSlowest_b8 K8 L x1 x2 x3 x4 = some res) : W p l e rmX2_findSlowest s m args below meth c H locs 0 0 (MQ below (va_Qi (fun r' (_ : Unit) => r' = res.1) (fun _ t => va_P D vwCl (wA cs ad (va_up Ls i res.2) Hs T) t.heap) (Afr ad s.heap.size)) args s 0 0 (Afr ad s.heap.size)) (F0 m 8 ls []) := by
  unfold f_X2_findSlowest_b8 at h
  refine lv_iload C.1 C.2.1 dX2_findSlowest_8 (lv_at hl 4 rfl) ?_
  refine lv_aload_n C.1 C.2.1 dX2_findSlowest_10 rfl (lv_at hl 0 rfl) ?_
  obtain ⟨v1, ev1, h⟩ := lt_out h
  refine k_geti C G hP (v_obj (i := i) hi) rfl 2 (by decide) n_X2_findSlowest_X2 q_X2_findSlowest_1 rfl ev1 dX2_findSlowest_11 ?_
  refine lv_icmp_ge (tgt := 44) C.1 C.2.1 dX2_findSlowest_14 (by decide) (fun c2 => ?_) (fun c2 => ?_)
  · have h := if_t c2 h
    refine lv_iload_n C.1 C.2.1 dX2_findSlowest_44 rfl (lv_at hl 2 rfl) ?_
    cases h
    exact k_iret C hP hS dX2_findSlowest_45
  · have h := if_f c2 h
    refine lv_aload_n C.1 C.2.1 dX2_findSlowest_17 rfl (lv_at hl 0 rfl) ?_
    refine lv_iload C.1 C.2.1 dX2_findSlowest_18 (lv_at hl 4 rfl) ?_
    refine lv_iload_n C.1 C.2.1 dX2_findSlowest_20 rfl (lv_at hl 1 rfl) ?_
    obtain ⟨r3, L4, c5, h⟩ := bd2_out h
    refine k_callVi C G hP hS (m_X2_mostBottles l G.2.1 _ (i := i) hi c5) (v_obj (i := i) hi) rfl (cwV 2 C.2.2.2.2.2.1 gX2_findSlowest_X2_mostBottles rfl rfl rfl (by decide +kernel) ⟨Nat.le_of_ble_eq_true rfl, Nat.le_of_ble_eq_true rfl⟩) (As := [.int x4, .int x1]) rfl hl.1 rfl (Nat.le_of_ble_eq_true rfl) dX2_findSlowest_21 ⟨Nat.le_of_ble_eq_true rfl, Nat.le_of_ble_eq_true rfl⟩ (fun H locs hP hS => ?_)
    refine lv_istore (lv' := [(5, .int r3), (0, .ref (ad (5 + 14 * i + 0))), (1, .int x1), (2, .int x2), (3, .int x3), (4, .int x4)]) C.1 C.2.1 dX2_findSlowest_24 hl (by decide) rfl (fun ls hl => ?_)
    refine lv_iload C.1 C.2.1 dX2_findSlowest_26 (lv_at hl 0 rfl) ?_
    refine lv_iload_n C.1 C.2.1 dX2_findSlowest_28 rfl (lv_at hl 4 rfl) ?_
    refine lv_icmp_ge (tgt := 38) C.1 C.2.1 dX2_findSlowest_29 (by decide) (fun c6 => ?_) (fun c6 => ?_)
    · have h := if_t c6 h
      exact w_X2_findSlowest_b38 C G hi hK8 hP hS (lv_sub hl [1, 2, 3, 4, 5] rfl) h
    · have h := if_f c6 h
      refine lv_iload C.1 C.2.1 dX2_findSlowest_32 (lv_at hl 0 rfl) ?_
      refine lv_istore_n (lv' := [(3, .int r3), (5, .int r3), (0, .ref (ad (5 + 14 * i + 0))), (1, .int x1), (2, .int x2), (4, .int x4)]) C.1 C.2.1 dX2_findSlowest_34 rfl hl (by decide) rfl (fun ls hl => ?_)
      refine lv_iload C.1 C.2.1 dX2_findSlowest_35 (lv_at hl 5 rfl) ?_
      refine lv_istore_n (lv' := [(2, .int x4), (3, .int r3), (5, .int r3), (0, .ref (ad (5 + 14 * i + 0))), (1, .int x1), (4, .int x4)]) C.1 C.2.1 dX2_findSlowest_37 rfl hl (by decide) rfl (fun ls hl => ?_)
      exact w_X2_findSlowest_b38 C G hi hK8 hP hS (lv_sub hl [3, 4, 0, 1, 5] rfl) h
set_option maxRecDepth 100000 in
set_option maxHeartbeats 4000000 in
theorem w_X2_findSlowest_h8 {res : Int32 × SL} (C : Cx p s m args meth c cX2_findSlowest 6 (some .int) RX2 wsX2_findSlowest) (G : Gx D cs ad s) {i : Nat} (hi : i < 6) {Ls : Nat → SL} {Hs : SL} {T : SL} : ∀ (n : Nat) {L : SL} {x1 : Int32} {x2 : Int32} {x3 : Int32} {x4 : Int32} {H : Heap} {locs : List Loc} {ls : Array Slot}, va_P D vwCl (wA cs ad (va_up Ls i L) Hs T) H → va_S (Afr ad s.heap.size) s.heap H locs → lv_has ls 6 [(0, .ref (ad (5 + 14 * i + 0))), (1, .int x1), (2, .int x2), (3, .int x3), (4, .int x4)] → f_X2_findSlowest_h8 n L x1 x2 x3 x4 = some res → W p l e rmX2_findSlowest s m args below meth c H locs 0 0 (MQ below (va_Qi (fun r' (_ : Unit) => r' = res.1) (fun _ t => va_P D vwCl (wA cs ad (va_up Ls i res.2) Hs T) t.heap) (Afr ad s.heap.size)) args s 0 0 (Afr ad s.heap.size)) (F0 m 8 ls []) := by
  intro n
  induction n with
  | zero => intro L x1 x2 x3 x4 H locs ls hP hS hl  h; cases h
  | succ n ih => intro L x1 x2 x3 x4 H locs ls hP hS hl  h; exact w_X2_findSlowest_b8 C G  hi  ih hP hS hl  h
set_option maxRecDepth 100000 in
set_option maxHeartbeats 4000000 in
theorem w_X2_findSlowest_e {res : Int32 × SL} (C : Cx p s m args meth c cX2_findSlowest 6 (some .int) RX2 wsX2_findSlowest) (G : Gx D cs ad s) {i : Nat} (hi : i < 6) {Ls : Nat → SL} {Hs : SL} {T : SL} {L : SL} {x1 : Int32} {H : Heap} {locs : List Loc} {ls : Array Slot} (hP : va_P D vwCl (wA cs ad (va_up Ls i L) Hs T) H) (hS : va_S (Afr ad s.heap.size) s.heap H locs) (hl : lv_has ls 6 [(0, .ref (ad (5 + 14 * i + 0))), (1, .int x1)]) (h : f_X2_findSlowest L x1 = some res) : W p l e rmX2_findSlowest s m args below meth c H locs 0 0 (MQ below (va_Qi (fun r' (_ : Unit) => r' = res.1) (fun _ t => va_P D vwCl (wA cs ad (va_up Ls i res.2) Hs T) t.heap) (Afr ad s.heap.size)) args s 0 0 (Afr ad s.heap.size)) (F0 m 0 ls []) := by
  unfold f_X2_findSlowest at h
  refine lv_iconst (v := 0) C.1 C.2.1 dX2_findSlowest_0 (by decide) ?_
  refine lv_istore_n (lv' := [(2, .int 0), (0, .ref (ad (5 + 14 * i + 0))), (1, .int x1)]) C.1 C.2.1 dX2_findSlowest_1 rfl hl (by decide) rfl (fun ls hl => ?_)
  refine k_ldci C G q_X2_findSlowest_0 dX2_findSlowest_2 ?_
  refine lv_istore_n (lv' := [(3, .int 1000000), (2, .int 0), (0, .ref (ad (5 + 14 * i + 0))), (1, .int x1)]) C.1 C.2.1 dX2_findSlowest_4 rfl hl (by decide) rfl (fun ls hl => ?_)
  refine lv_iconst (v := 0) C.1 C.2.1 dX2_findSlowest_5 (by decide) ?_
  refine lv_istore (lv' := [(4, .int 0), (3, .int 1000000), (2, .int 0), (0, .ref (ad (5 + 14 * i + 0))), (1, .int x1)]) C.1 C.2.1 dX2_findSlowest_6 hl (by decide) rfl (fun ls hl => ?_)
  exact w_X2_findSlowest_h8 C G hi fuel hP hS (lv_sub hl [3, 4, 2, 1, 0] rfl) h
set_option maxRecDepth 100000 in
set_option maxHeartbeats 4000000 in
theorem m_X2_findSlowest (l : Launch) {D : va_G} {cs : Nat → ClassId} {ad : Nat → Nat} (hAd : adOK ad) (sz : Nat) {i : Nat} (hi : i < 6) {Ls : Nat → SL} {Hs : SL} {T : SL} {L : SL} {x1 : Int32} {res : Int32 × SL} (h : f_X2_findSlowest L x1 = some res) : Met l yX2_findSlowest wsX2_findSlowest rmX2_findSlowest (PA D cs sz (wA cs ad (va_up Ls i L) Hs T) [.ref (ad (5 + 14 * i + 0)), .int x1]) (va_Qi (fun r' (_ : Unit) => r' = res.1) (fun _ t => va_P D vwCl (wA cs ad (va_up Ls i res.2) Hs T) t.heap) (Afr ad sz)) 0 0 (Afr ad sz) :=
  k_met (by decide) rfl (Nat.le_of_ble_eq_true rfl) hAd (fun p e s m below meth c ls C G hP hsz hl hS => by
    subst hsz
    exact w_X2_findSlowest_e C G hi hP hS hl  h)
end GEN
