/-! the drawer: an object that addRandomStops makes; its cell beside the world -/
abbrev wD (q : Nat) (x : Int64) : va_W := [(q, .inr (0, [.long x]))]
def AD (q sz : Nat) : Nat → Prop := fun a => a = q ∨ sz ≤ a
theorem wD_D (q sz : Nat) (x : Int64) : va_D (AD q sz) (wD q x) := by
  refine ⟨fun i j a b hi hj _ => ?_, fun k a hk => ?_⟩
  · have h1 : i < 1 := (List.getElem?_eq_some_iff.mp hi).1
    have h2 : j < 1 := (List.getElem?_eq_some_iff.mp hj).1
    omega
  · have h1 : k < 1 := (List.getElem?_eq_some_iff.mp hk).1
    rw [show k = 0 by omega] at hk
    cases hk
    exact Or.inl rfl
abbrev rmX0_init : Room := { frames := 1, cells := 0, slots := 0, locals := 20 }
abbrev rmX0_drawBelow : Room := { frames := 0, cells := 0, slots := 0, locals := 0 }
theorem q_D_1 : Cond.fieldLink RX0 7 "LineBuffers$Draws" "state" "J" ∈ wsX0_drawBelow := List.mem_of_getElem? (i := 2) rfl
theorem q_D_2 : Cond.constantLong RX0 13 (1103515245) ∈ wsX0_drawBelow := List.mem_of_getElem? (i := 1) rfl
theorem q_D_3 : Cond.constantLong RX0 15 (12345) ∈ wsX0_drawBelow := List.mem_of_getElem? (i := 3) rfl
theorem q_D_4 : Cond.constantLong RX0 17 (2147483648) ∈ wsX0_drawBelow := List.mem_of_getElem? (i := 4) rfl
theorem q_D_5 : Cond.constantLong RX0 19 (65536) ∈ wsX0_drawBelow := List.mem_of_getElem? (i := 5) rfl
theorem q_D_6 : Cond.fieldLink RX0 7 "LineBuffers$Draws" "state" "J" ∈ wsX0_init := List.mem_of_getElem? (i := 4) rfl
theorem n_D_1 : ∀ x ∈ u_ws RX0 TX0 1, x ∈ wsX0_drawBelow := fun x h => List.mem_cons_of_mem _ (List.mem_append_right _ h)
theorem n_D_2 : ∀ x ∈ u_ws RX0 TX0 1, x ∈ wsX0_init := fun x h => List.mem_cons_of_mem _ (List.mem_append_right _ h)
set_option maxRecDepth 100000 in
set_option maxHeartbeats 4000000 in
theorem m_X0_drawBelow (l : Launch) {D : va_G} {cs : Nat → ClassId} (sz : Nat) {q : Nat} {x : Int64} {x1 : Int32} {res : Int32 × Int64} (h : f_X0_drawBelow x x1 = some res) : Met l yX0_drawBelow wsX0_drawBelow rmX0_drawBelow (PA D cs sz (wD q x) [.ref q, .int x1]) (va_Qi (fun r' (_ : Unit) => r' = res.1) (fun _ t => va_P D vwCl (wD q res.2) t.heap) (AD q sz)) 0 0 (AD q sz) := by
  refine Met.ofW (cc := cX0_drawBelow) (maxL := 2) (ret := some .int) (by decide) rfl ?_
  intro p e s m args below meth c s₁ B hml hv
  obtain ⟨rfl, hsz, hP, hK, hN⟩ := hv
  have C : Cx p s m _ meth c cX0_drawBelow 2 (some .int) RX0 wsX0_drawBelow := ⟨B.exec, B.bytes, hml, B.returns, findClass_of_methodNamed B.named, atoms_spec (ws := wsX0_drawBelow) B.pre, B.notSynchronized⟩
  subst hsz
  obtain ⟨hx, hb, -, hr, hown, hts, hlk⟩ := id C
  have hS : va_S (AD q s.heap.size) s.heap s.heap [] := va_S.rf
  have hl := lv_entry ([.ref q, .int x1]) (n := 2) (Nat.le_of_ble_eq_true rfl)
  rw [lg_entry_eq]
  generalize (lg_sl ([.ref q, .int x1]) ++ List.replicate (2 - (lg_sl ([.ref q, .int x1])).length) Slot.unset).toArray = ls at hl ⊢
  have hl : lv_has ls 2 [(0, .ref q), (1, .int x1)] := hl
  unfold f_X0_drawBelow at h
  refine lv_aload_n hx hb dX0_drawBelow_0 rfl (lv_at hl 0 rfl) ?_
  refine lv_ldc2 hx hb hown (hts _ q_D_2) dX0_drawBelow_1 ?_
  refine lv_aload_n hx hb dX0_drawBelow_4 rfl (lv_at hl 0 rfl) ?_
  refine va_get hx hb hts n_D_1 hown hK hP 0 rfl rfl 0 (by decide) (hts _ q_D_1) (fun _ h => h) (v := .long x) rfl dX0_drawBelow_5 ?_
  obtain ⟨w1, ew1, h⟩ := lt_out h
  refine k_lmul C ew1 dX0_drawBelow_8 ?_
  refine lv_ldc2 hx hb hown (hts _ q_D_3) dX0_drawBelow_9 ?_
  obtain ⟨w2, ew2, h⟩ := lt_out h
  refine k_ladd C ew2 dX0_drawBelow_12 ?_
  refine lv_ldc2 hx hb hown (hts _ q_D_4) dX0_drawBelow_13 ?_
  obtain ⟨w3, ew3, h⟩ := lt_out h
  refine k_lrem C (by decide) ew3 dX0_drawBelow_16 ?_
  refine va_put hx hb hts n_D_1 tyX0 tyX0_ok nmX0 hown hK hP (wD_D q _ x) hS 0 rfl rfl 0 (by decide) (hts _ q_D_1) (fun _ h => h) rfl (tyX0_ok 0 (by decide)) rfl rfl (Nat.le_of_ble_eq_true rfl) dX0_drawBelow_17 (fun H locs hP hD hS => ?_)
  have hP : va_P D vwCl (wD q w3) H := hP
  refine lv_iload_n hx hb dX0_drawBelow_20 rfl (lv_at hl 1 rfl) ?_
  refine lv_iconst (v := 1) hx hb dX0_drawBelow_21 (by decide) ?_
  refine lv_icmp_ge (tgt := 29) hx hb dX0_drawBelow_22 (by decide) (fun c1 => ?_) (fun c1 => ?_)
  · have h := if_t c1 h
    refine lv_aload_n hx hb dX0_drawBelow_29 rfl (lv_at hl 0 rfl) ?_
    refine va_get hx hb hts n_D_1 hown hK hP 0 rfl rfl 0 (by decide) (hts _ q_D_1) (fun _ h => h) (v := .long w3) rfl dX0_drawBelow_30 ?_
    refine lv_ldc2 hx hb hown (hts _ q_D_5) dX0_drawBelow_33 ?_
    obtain ⟨w4, ew4, h⟩ := lt_out h
    refine k_ldiv C (by decide) ew4 dX0_drawBelow_36 ?_
    refine lv_iload_n hx hb dX0_drawBelow_37 rfl (lv_at hl 1 rfl) ?_
    obtain ⟨w5, ew5, h⟩ := lt_out h
    refine k_i2l C ew5 dX0_drawBelow_38 ?_
    obtain ⟨g, h⟩ := gd_out h
    obtain ⟨w6, ew6, h⟩ := lt_out h
    refine k_lrem C (nzl_ne g) ew6 dX0_drawBelow_39 ?_
    obtain ⟨v7, ev7, h⟩ := lt_out h
    refine k_l2i C ev7 dX0_drawBelow_40 ?_
    cases h
    exact W.iret hx hb hr (fun t ht hW => ⟨⟨v7, (), rfl, rfl, by show va_P D vwCl (wD q w3) t.heap; rw [ht]; exact hP⟩, hS.F ht⟩) hS.2.2 dX0_drawBelow_41 hlk
  · have h := if_f c1 h
    refine lv_iconst (v := 0) hx hb dX0_drawBelow_25 (by decide) ?_
    refine lv_goto (tgt := 41) hx hb dX0_drawBelow_26 (by decide) ?_
    cases h
    exact W.iret hx hb hr (fun t ht hW => ⟨⟨0, (), rfl, rfl, by show va_P D vwCl (wD q w3) t.heap; rw [ht]; exact hP⟩, hS.F ht⟩) hS.2.2 dX0_drawBelow_41 hlk
set_option maxRecDepth 100000 in
set_option maxHeartbeats 4000000 in
theorem m_X0_init (l : Launch) {D : va_G} {cs : Nat → ClassId} (sz : Nat) {q : Nat} {x : Int64} {x1 : Int32} : Met l yX0_init wsX0_init rmX0_init (PA D cs sz (wD q x) [.ref q, .int x1]) (va_Qv (fun (_ : Unit) => True) (fun _ t => va_P D vwCl (wD q x1.toInt64) t.heap) (AD q sz)) 0 0 (AD q sz) := by
  refine Met.ofW (cc := cX0_init) (maxL := 2) (ret := none) (by decide) rfl ?_
  intro p e s m args below meth c s₁ B hml hv
  obtain ⟨rfl, hsz, hP, hK, hN⟩ := hv
  have C : Cx p s m _ meth c cX0_init 2 none RX0 wsX0_init := ⟨B.exec, B.bytes, hml, B.returns, findClass_of_methodNamed B.named, atoms_spec (ws := wsX0_init) B.pre, B.notSynchronized⟩
  subst hsz
  obtain ⟨hx, hb, -, hr, hown, hts, hlk⟩ := id C
  have hS : va_S (AD q s.heap.size) s.heap s.heap [] := va_S.rf
  have hl := lv_entry ([.ref q, .int x1]) (n := 2) (Nat.le_of_ble_eq_true rfl)
  rw [lg_entry_eq]
  generalize (lg_sl ([.ref q, .int x1]) ++ List.replicate (2 - (lg_sl ([.ref q, .int x1])).length) Slot.unset).toArray = ls at hl ⊢
  have hl : lv_has ls 2 [(0, .ref q), (1, .int x1)] := hl
  refine lv_aload_n hx hb dX0_init_0 rfl (lv_at hl 0 rfl) ?_
  refine W.objInit hx hb hown (hts _ (List.mem_of_getElem? (i := 1) rfl)) (hts _ (List.mem_of_getElem? (i := 2) rfl)) (hts _ (List.mem_of_getElem? (i := 3) rfl)) rfl (by rw [hml]; exact hl.1) rfl dX0_init_1 (Nat.le_of_ble_eq_true rfl) (Nat.le_of_ble_eq_true rfl) ?_
  refine W.eq (g2 := F0 m 4 ls []) rfl ?_
  refine lv_aload_n hx hb dX0_init_4 rfl (lv_at hl 0 rfl) ?_
  refine lv_iload_n hx hb dX0_init_5 rfl (lv_at hl 1 rfl) ?_
  refine k_i2l C (z := x1.toInt64) rfl dX0_init_6 ?_
  refine va_put hx hb hts n_D_2 tyX0 tyX0_ok nmX0 hown hK hP (wD_D q _ x) hS 0 rfl rfl 0 (by decide) (hts _ q_D_6) (fun _ h => h) rfl (tyX0_ok 0 (by decide)) rfl rfl (Nat.le_of_ble_eq_true rfl) dX0_init_7 (fun H locs hP hD hS => ?_)
  have hP : va_P D vwCl (wD q x1.toInt64) H := hP
  exact W.vret hx hb hr (fun t ht hW => ⟨⟨(), rfl, trivial, by show va_P D vwCl (wD q x1.toInt64) t.heap; rw [ht]; exact hP⟩, hS.F ht⟩) hS.2.2 dX0_init_10 hlk
/-- where the drawer lies: new, and none of the world's cells -/
def isqd (ad : Nat → Nat) (sz q : Nat) : Prop := sz ≤ q ∧ ∀ p, p < 89 → q ≠ ad p
theorem va_P_left {D : va_G} {cl : List vw_C} {w1 w2 : va_W} {H : Heap} (h : va_P D cl (w1 ++ w2) H) : va_P D cl w1 H := fun k q hk => h k q (by rw [List.getElem?_append_left (List.getElem?_eq_some_iff.mp hk).1]; exact hk)
theorem va_P_right {D : va_G} {cl : List vw_C} {w1 w2 : va_W} {H : Heap} (h : va_P D cl (w1 ++ w2) H) : va_P D cl w2 H := fun k q hk => h (w1.length + k) q (by rw [List.getElem?_append_right (by omega), show w1.length + k - w1.length = k by omega]; exact hk)
section DRAWS
variable {p : Program} {l : Launch} {e : Env} {R : Room} {s : State} {m : MethodId} {args : Array Value} {below : List Frame} {meth : Method} {c : Code} {H : Heap} {locs : List Loc} {cells slots : Nat} {Q : State → Prop}
variable {cc : ByteArray} {pc : Nat} {ls : Array Slot} {rest : List Value} {nL : Nat} {ret : Option FieldType} {own : String} {ws : List Cond} {D : va_G} {cs : Nat → ClassId} {ad : Nat → Nat}
theorem k_newD (C : Cx p s m args meth c cc nL ret own ws) (G : Gx D cs ad s) {F : Nat → va_E} (hP : va_P D vwCl (wMk ad F) H) (hS : va_S (Afr ad s.heap.size) s.heap H locs) {index : Nat} (hin : ∀ x ∈ u_ws RX0 TX0 1, x ∈ ws) (w1 : Cond.classLink own index RX0 ∈ ws) (w2 : Cond.instantiable RX0 1 ∈ ws) (w3 : Cond.initialized RX0 ∈ ws) (hcells : cells + 1 ≤ R.cells) (hslots : slots + 1 ≤ R.slots) (d : decode cc pc = .ok (.new index, 3))
    (kk : ∀ (q : Nat) (H1 : Heap), isqd ad s.heap.size q → va_P D vwCl (wMk ad F) H1 → va_P D vwCl (wD q 0) H1 → va_S (Afr ad s.heap.size) s.heap H1 locs → W p l e R s m args below meth c H1 locs (cells + 1) (slots + 1) Q (F0 m (pc + 3) ls (.ref q :: rest))) : W p l e R s m args below meth c H locs cells slots Q (F0 m pc ls rest) := by
  obtain ⟨hx, hb, hml, hr, hown, hts, hlk⟩ := C
  refine va_new (ci := 0) (fs := [.long 0]) (C := RX0) (T := TX0) (N := 1) hx hb hts hin tyX0 tyX0_ok hown (hts _ w1) (hts _ w2) (hts _ w3) G.1 hP (wMk_D G.2.1 _) hS (fun q h => Or.inr h) rfl (fun j hj => by rcases (show j = 0 by omega) with rfl; rfl) hcells hslots d (fun q H1 hP1 hD1 hS1 => ?_)
  have hlast : (wMk ad F ++ [(q, (.inr (0, [.long 0]) : va_E))])[89]? = some (q, .inr (0, [.long 0])) := by
    rw [List.getElem?_append_right (by rw [wMk_len]; omega), wMk_len]; rfl
  have hne : ∀ p, p < 89 → q ≠ ad p := fun p hp e => by
    have h9 : (wMk ad F ++ [(q, (.inr (0, [.long 0]) : va_E))])[p]? = some (ad p, F p) := by
      rw [List.getElem?_append_left (by rw [wMk_len]; exact hp), wMk_at hp]
    have := hD1.1 89 p _ _ hlast h9 e
    omega
  refine kk q H1 ⟨?_, hne⟩ (va_P_left hP1) (va_P_right hP1) hS1
  rcases hD1.2 89 _ hlast with ⟨p, hp, e⟩ | h
  · exact absurd e (hne p hp)
  · exact h
theorem k_initD (C : Cx p s m args meth c cc nL ret own ws) (G : Gx D cs ad s) {F : Nat → va_E} (hP : va_P D vwCl (wMk ad F) H) (hS : va_S (Afr ad s.heap.size) s.heap H locs) {q : Nat} {x : Int64} (hq : isqd ad s.heap.size q) (hQ : va_P D vwCl (wD q x) H) {x1 : Int32} {index : Nat} (hg : GoodIn ws wsX0_init) (w1 : Cond.initialized RX0 ∈ ws) (w2 : Cond.methodLink own index yX0_init ∈ ws) (w3 : Cond.instanceMethod yX0_init ∈ ws) (hsz : ls.size = nL) (hroom : (rest.map fun v => v.category).sum ≤ 8) (hR : 2 ≤ R.frames ∧ 41 ≤ R.locals) (hf : cells ≤ R.cells ∧ slots ≤ R.slots) (d : decode cc pc = .ok (.invokespecial index, 3))
    (kk : ∀ (H1 : Heap) (locs1 : List Loc), va_P D vwCl (wMk ad F) H1 → va_P D vwCl (wD q x1.toInt64) H1 → va_S (Afr ad s.heap.size) s.heap H1 locs1 → W p l e R s m args below meth c H1 locs1 cells slots Q (F0 m (pc + 3) ls rest)) : W p l e R s m args below meth c H locs cells slots Q (F0 m pc ls (.int x1 :: .ref q :: rest)) := by
  obtain ⟨hx, hb, hml, hr, hown, hts, hlk⟩ := C
  have hA : ∀ a, AD q H.size a → Afr ad s.heap.size a := fun a h => h.elim (fun e => Or.inr (by rw [e]; exact hq.1)) (fun h => Or.inr (Nat.le_trans hS.1 h))
  refine va_callv (va_runI (As := [.int x1]) (rest := rest) (b := q) ⟨hx, hb, hml, hown, hts⟩ (m_X0_init l (D := D) (cs := cs) H.size (q := q) (x := x) (x1 := x1)) (cwI 1 hts hg rfl rfl rfl (hts _ w1) (hts _ w2) (hts _ w3) rfl (by decide +kernel) hR) ⟨PA_blind, fun U hU hW => ⟨rfl, by rw [hU], by rw [hU]; exact hQ, va_K.moved hW.alike G.1, NW.warm hW G.2.2⟩⟩ rfl rfl hsz rfl (lv_room hroom) d hf) hS (fun a _ h => hA a h) hA (fun u t H1 locs1 ht hvm hw hB hz1 hk1 hS1 => ?_)
  rw [ht] at hB
  refine kk H1 locs1 (hP.kept fun j a hj => ?_) hB hS1
  obtain ⟨hj1, rfl⟩ := wMk_inv hj
  refine hk1 (ad j) ((hP j _ hj).lt) (fun h => ?_)
  rcases h with h | h
  · exact hq.2 j hj1 h.symm
  · exact absurd ((hP j _ hj).lt) (Nat.not_lt.mpr h)
theorem k_callD (C : Cx p s m args meth c cc nL ret own ws) (G : Gx D cs ad s) {F : Nat → va_E} (hP : va_P D vwCl (wMk ad F) H) (hS : va_S (Afr ad s.heap.size) s.heap H locs) {q : Nat} {x : Int64} (hq : isqd ad s.heap.size q) (hQ : va_P D vwCl (wD q x) H) {x1 : Int32} {r : Int32} {y : Int64} (hf : f_X0_drawBelow x x1 = some (r, y)) {index : Nat} (hg : GoodIn ws (wsV own index RX0 yX0_drawBelow wsX0_drawBelow)) (hsz : ls.size = nL) (hroom : (rest.map fun v => v.category).sum ≤ 8) (hR : 1 ≤ R.frames ∧ 21 ≤ R.locals) (hfc : cells ≤ R.cells ∧ slots ≤ R.slots) (d : decode cc pc = .ok (.invokevirtual index, 3))
    (kk : ∀ (H1 : Heap) (locs1 : List Loc), va_P D vwCl (wMk ad F) H1 → va_P D vwCl (wD q y) H1 → va_S (Afr ad s.heap.size) s.heap H1 locs1 → W p l e R s m args below meth c H1 locs1 cells slots Q (F0 m (pc + 3) ls (.int r :: rest))) : W p l e R s m args below meth c H locs cells slots Q (F0 m pc ls (.int x1 :: .ref q :: rest)) := by
  obtain ⟨hx, hb, hml, hr, hown, hts, hlk⟩ := C
  have hA : ∀ a, AD q H.size a → Afr ad s.heap.size a := fun a h => h.elim (fun e => Or.inr (by rw [e]; exact hq.1)) (fun h => Or.inr (Nat.le_trans hS.1 h))
  refine va_calli (va_runV (As := [.int x1]) (rest := rest) (b := q) ⟨hx, hb, hml, hown, hts⟩ (m_X0_drawBelow l (D := D) (cs := cs) H.size (q := q) hf) (cwV 1 hts hg rfl rfl rfl (by decide +kernel) hR) ⟨PA_blind, va_recv G.1 hQ (ci := 0) (q0 := 0) rfl rfl, fun U hU hW => ⟨rfl, by rw [hU], by rw [hU]; exact hQ, va_K.moved hW.alike G.1, NW.warm hW G.2.2⟩⟩ rfl rfl hsz rfl (lv_room hroom) d hfc) hS (fun a _ h => hA a h) hA (fun r1 u t H1 locs1 ht hvm hw hB hz1 hk1 hS1 => ?_)
  rw [ht] at hB
  rw [hw]
  refine kk H1 locs1 (hP.kept fun j a hj => ?_) hB hS1
  obtain ⟨hj1, rfl⟩ := wMk_inv hj
  refine hk1 (ad j) ((hP j _ hj).lt) (fun h => ?_)
  rcases h with h | h
  · exact hq.2 j hj1 h.symm
  · exact absurd ((hP j _ hj).lt) (Nat.not_lt.mpr h)
/-- a void call in the world, with the drawer beside it -/
theorem k_callVvD (C : Cx p s m args meth c cc nL ret own ws) (G : Gx D cs ad s) {w w' : va_W} (hP : va_P D vwCl w H) (hS : va_S (Afr ad s.heap.size) s.heap H locs) {q : Nat} {x : Int64} (hqq : isqd ad s.heap.size q) (hQ : va_P D vwCl (wD q x) H) {y : MethodName} {wsy : List Cond} {rm : Room} {b : Nat} {As : List Value} {mc ms : Nat} (hM : Met l y wsy rm (PA D cs H.size w (.ref b :: As)) (va_Qv (fun (_ : Unit) => True) (fun _ t => va_P D vwCl w' t.heap) (Afr ad H.size)) mc ms (Afr ad H.size)) {q0 ci : Nat} {fs : List Value} {Cn : String} {T : u_T} {N : Nat} (he : w[q0]? = some (b, .inr (ci, fs))) (hc : vwCl[ci]? = some (Cn, T, N)) {index : Nat} {bytes : ByteArray} {maxL n : Nat} {retY : Option FieldType} (cw : CallW R s args own Cn index y bytes maxL retY wsy rm mc ms n) {st0 : List Value} (hn : As.length = n) (hsz : ls.size = nL) (hst : st0 = As.reverse ++ .ref b :: rest) (hroom : (rest.map fun v => v.category).sum ≤ 8) (d : decode cc pc = .ok (.invokevirtual index, 3)) (hf : cells + mc ≤ R.cells ∧ slots + ms ≤ R.slots)
    (kk : ∀ (H1 : Heap) (locs1 : List Loc), va_P D vwCl w' H1 → va_P D vwCl (wD q x) H1 → va_S (Afr ad s.heap.size) s.heap H1 locs1 → W p l e R s m args below meth c H1 locs1 (cells + mc) (slots + ms) Q (F0 m (pc + 3) ls rest)) : W p l e R s m args below meth c H locs cells slots Q (F0 m pc ls st0) := by
  obtain ⟨hx, hb, hml, hr, hown, hts, hlk⟩ := C
  refine va_callv (va_runV ⟨hx, hb, hml, hown, hts⟩ hM cw ⟨PA_blind, va_recv G.1 hP hc he, fun U hU hW => ⟨rfl, by rw [hU], by rw [hU]; exact hP, va_K.moved hW.alike G.1, NW.warm hW G.2.2⟩⟩ rfl hn hsz hst (lv_room hroom) d hf) hS (fun q _ h => Afr.mono hS.1 h) (fun q h => Afr.mono hS.1 h) (fun u t H1 locs1 ht hvm hw hB hz1 hk1 hS1 => ?_)
  rw [ht] at hB
  refine kk H1 locs1 hB (hQ.kept fun j a hj => ?_) hS1
  have h1 : j < 1 := (List.getElem?_eq_some_iff.mp hj).1
  have hlt := (hQ j _ hj).lt
  rw [show j = 0 by omega] at hj
  cases hj
  refine hk1 q hlt (fun h => ?_)
  rcases h with ⟨p, hp, e⟩ | h
  · exact hqq.2 p hp e
  · exact absurd hlt (Nat.not_lt.mpr h)
end DRAWS
