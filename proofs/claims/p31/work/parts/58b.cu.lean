/-! CONSTRUCTORS: LineText, the reference, Line, History, LineBuffers -/
section CROWS2
variable {p : Program} {l : Launch} {e : Env} {R : Room} {s : State} {m : MethodId} {args : Array Value} {below : List Frame} {meth : Method} {c : Code} {H : Heap} {locs : List Loc} {cells slots : Nat} {Q : State → Prop}
variable {cc : ByteArray} {pc : Nat} {ls : Array Slot} {rest : List Value} {nL : Nat} {ret : Option FieldType} {own : String} {ws : List Cond} {D : va_G} {cs : Nat → ClassId} {A : Nat → Prop}
theorem mna_l {w : va_W} {r : Nat → Nat} {f : Nat → va_E} {v : va_E} : w ++ va_pl ([] ++ (List.range 8).map r) (vr_up f ((List.range 8).map r) v) = w ++ [(r 0, v), (r 1, v), (r 2, v), (r 3, v), (r 4, v), (r 5, v), (r 6, v), (r 7, v)] := by
  have e : va_pl ([] ++ (List.range 8).map r) (vr_up f ((List.range 8).map r) v) = (List.range 8).map (fun i => (r i, v)) := by
    unfold va_pl
    rw [List.nil_append, List.map_map]
    apply List.map_congr_left
    intro i hi
    show (r i, vr_up f ((List.range 8).map r) v (r i)) = _
    rw [vr_up_in (List.mem_map_of_mem hi)]
  rw [e]
  rfl
theorem k_mna (C : Cx p s m args meth c cc nL ret own ws) (hK : va_K D vwCl (tyA cs) s) (hO : AOx s) {index : Nat} (w1 : Cond.classLink own index "[[I" ∈ ws) (w2 : Cond.arrayClass .int ∈ ws) {w : va_W} (hP : va_P D vwCl w H) (hD : va_D A w) (hS : va_S A s.heap H locs) (hA : ∀ q : Nat, s.heap.size ≤ q → A q) (hcells : cells + 9 ≤ R.cells) (hslots : slots + 136 ≤ R.slots) (d : decode cc pc = .ok (.multianewarray index 2, 4))
    (kk : ∀ (q : Nat) (r : Nat → Nat) (H1 : Heap), va_P D vwCl ((w ++ [(q, .inl (cs 2, 8, .inr (.inr (.inr (.inr (fun i => if i < 8 then some (r i) else none))))))]) ++ [(r 0, roE cs), (r 1, roE cs), (r 2, roE cs), (r 3, roE cs), (r 4, roE cs), (r 5, roE cs), (r 6, roE cs), (r 7, roE cs)]) H1 → va_D A ((w ++ [(q, .inl (cs 2, 8, .inr (.inr (.inr (.inr (fun i => if i < 8 then some (r i) else none))))))]) ++ [(r 0, roE cs), (r 1, roE cs), (r 2, roE cs), (r 3, roE cs), (r 4, roE cs), (r 5, roE cs), (r 6, roE cs), (r 7, roE cs)]) → va_S A s.heap H1 locs → W p l e R s m args below meth c H1 locs (cells + 9) (slots + 136) Q (F0 m (pc + 4) ls (.ref q :: rest))) : W p l e R s m args below meth c H locs cells slots Q (F0 m pc ls (.int 16 :: .int 8 :: rest)) := by
  obtain ⟨hx, hb, hml, hr, hown, hts, hlk⟩ := C
  have e0 : ("[" ++ (FieldType.array .int).toString) = "[[I" := by decide
  have hcy : s.vm.findClass (FieldType.array .int).toString = some (cs 0) := (hK.2 0 _ rfl).2
  have hP0 : va_P D vwCl (w ++ va_pl [] (fun _ => roE cs)) H := by
    rw [show va_pl [] (fun _ : Nat => roE cs) = [] from rfl, List.append_nil]
    exact hP
  have hD0 : va_D A (w ++ va_pl [] (fun _ => roE cs)) := by
    rw [show va_pl [] (fun _ : Nat => roE cs) = [] from rfl, List.append_nil]
    exact hD
  refine va_mna (ty := .int) (cy := cs 0) (N' := 8) (K' := 16) (z := (16, .inl (fun _ => 0))) hx hb hown (by rw [e0]; exact hts _ w1) hO.2 (hts _ w2) hcy hK hP0 hD0 hS hA (by decide) (by decide) rfl rfl (Nat.le_of_ble_eq_true rfl) (Nat.le_of_ble_eq_true rfl) (Nat.le_of_ble_eq_true rfl) rfl rfl (by omega) (by omega) (fun c => arrV_new c 16 (.int 0)) d (fun q r cA H1 _ _ hK1 hP1 hD1 hS1 => ?_)
  have e1 : s.vm.findClass ("[" ++ (FieldType.array .int).toString) = some (cs 2) := (hK.2 2 _ rfl).2
  have e2 : s.vm.findClass ("[" ++ (FieldType.array .int).toString) = some cA := (hK1.2 3 _ rfl).2
  have ec : cA = cs 2 := Option.some.inj (e2.symm.trans e1)
  subst ec
  rw [mna_l] at hP1 hD1
  exact kk q r H1 hP1 hD1 hS1
theorem k_newq (C : Cx p s m args meth c cc nL ret own ws) (hK : va_K D vwCl (tyA cs) s) (hO : AOx s) {index : Nat} (w1 : Cond.classLink own index RX2 ∈ ws) {w : va_W} (hP : va_P D vwCl w H) (hD : va_D A w) (hS : va_S A s.heap H locs) (hA : ∀ q : Nat, s.heap.size ≤ q → A q) (hcells : cells + 1 ≤ R.cells) (hslots : slots + 4 ≤ R.slots) (d : decode cc pc = .ok (.anewarray index, 3))
    (kk : ∀ (q : Nat) (H1 : Heap), va_P D vwCl (w ++ [(q, .inl (cs 1, 4, .inr (.inr (.inr (.inr (fun _ => none))))))]) H1 → va_D A (w ++ [(q, .inl (cs 1, 4, .inr (.inr (.inr (.inr (fun _ => none))))))]) → va_S A s.heap H1 locs → W p l e R s m args below meth c H1 locs (cells + 1) (slots + 4) Q (F0 m (pc + 3) ls (.ref q :: rest))) : W p l e R s m args below meth c H locs cells slots Q (F0 m pc ls (.int 4 :: rest)) := by
  obtain ⟨hx, hb, hml, hr, hown, hts, hlk⟩ := C
  refine va_newq (C := RX2) (N' := 4) hx hb hown (hts _ w1) hO.1 hK hP hD hS hA (by decide) rfl (Nat.le_of_ble_eq_true rfl) hcells hslots d (fun q cA H1 hK1 hP1 hD1 hS1 => ?_)
  obtain ⟨-, -, -, -, -, e1⟩ := (hK.2 1 _ rfl).2
  obtain ⟨-, -, -, -, -, e2⟩ := (hK1.2 3 _ rfl).2
  have ec : cA = cs 1 := Option.some.inj (e2.symm.trans e1)
  subst ec
  exact kk q H1 hP1 hD1 hS1
end CROWS2
abbrev rmX3_init : Room := { frames := 1, cells := 1, slots := 120, locals := 20 }
set_option maxRecDepth 100000 in
set_option maxHeartbeats 4000000 in
theorem m_X3_init (l : Launch) {D : va_G} {cs : Nat → ClassId} (h0 sz : Nat) : Met l yX3_init wsX3_init rmX3_init (PC D cs sz [(h0, .inr (3, [.null, .int 0, .int 0, .int 0]))] [.ref h0]) (QC D (fun w1 => ∃ a : Nat, w1 = [(h0, .inr (3, [.ref a, .int 0, .int 0, .int 0])), (a, .inl (cs 0, 120, .inl (fun _ => 0)))]) (h0, .inr (3, [.null, .int 0, .int 0, .int 0])) sz) 1 120 (va_A [(h0, .inr (3, [.null, .int 0, .int 0, .int 0]))] sz) :=
  k_metC (by decide) rfl rfl (by decide) (fun p e s m below meth c ls A hAe C K N O hin hA hP hD hS hsz hl => by
    subst hsz
    have hin9 : ∀ x ∈ u_ws RX3 TX3 4, x ∈ wsX3_init := fun x h => List.mem_cons_of_mem _ (List.mem_append_right _ h)
    refine lv_aload_n C.1 C.2.1 dX3_init_0 rfl (lv_at hl 0 rfl) ?_
    refine k_objInit C hl.1 (List.mem_of_getElem? (i := 1) rfl) (List.mem_of_getElem? (i := 2) rfl) (List.mem_of_getElem? (i := 3) rfl) dX3_init_1 (Nat.le_of_ble_eq_true rfl) (Nat.le_of_ble_eq_true rfl) ?_
    refine lv_aload_n C.1 C.2.1 dX3_init_4 rfl (lv_at hl 0 rfl) ?_
    refine lv_bipush (v := 120) C.1 C.2.1 dX3_init_5 (by decide) ?_
    refine k_newaI C K (List.mem_of_getElem? (i := 4) rfl) hP hD hS hA (by decide) rfl (Nat.le_of_ble_eq_true rfl) (Nat.le_of_ble_eq_true rfl) (Nat.le_of_ble_eq_true rfl) dX3_init_7 (fun a H hP hD hS => ?_)
    refine k_putC C K hin hP hD hS rfl 0 (by decide) hin9 (List.mem_of_getElem? (i := 5) rfl) tyX3_ok nmX3 rfl rfl (tyX3_ok 0 (by decide)) rfl rfl (by simp) dX3_init_9 (fun H locs hP hD hS => ?_)
    exact k_retC C hAe ⟨a, rfl⟩ hP hD hS dX3_init_12)
def liW (cs : Nat → ClassId) (a : Nat → Nat) (fr : Nat → Option Nat) : va_W := [(a 0, .inr (2, [.ref (a 1), .ref (a 10), .int 0, .int 0])), (a 1, .inl (cs 2, 8, .inr (.inr (.inr (.inr fr))))), (a 2, roE cs), (a 3, roE cs), (a 4, roE cs), (a 5, roE cs), (a 6, roE cs), (a 7, roE cs), (a 8, roE cs), (a 9, roE cs), (a 10, .inr (4, [.ref (a 11), .ref (a 12), .ref (a 13), .int 0, .int 0])), (a 11, saE cs), (a 12, saE cs), (a 13, saE cs)]
/-- a line, made -/
def LiB (cs : Nat → ClassId) (b : Nat) (w1 : va_W) : Prop := ∃ (a : Nat → Nat) (fr : Nat → Option Nat), a 0 = b ∧ (∀ m, m < 8 → fr m = some (a (2 + m))) ∧ w1 = liW cs a fr
abbrev rmX2_init : Room := { frames := 2, cells := 13, slots := 261, locals := 48 }
set_option maxRecDepth 100000 in
set_option maxHeartbeats 4000000 in
theorem m_X2_init (l : Launch) {D : va_G} {cs : Nat → ClassId} (h0 sz : Nat) : Met l yX2_init wsX2_init rmX2_init (PC D cs sz [(h0, .inr (2, [.null, .null, .int 0, .int 0]))] [.ref h0]) (QC D (LiB cs h0) (h0, .inr (2, [.null, .null, .int 0, .int 0])) sz) 13 261 (va_A [(h0, .inr (2, [.null, .null, .int 0, .int 0]))] sz) :=
  k_metC (by decide) rfl rfl (by decide) (fun p e s m below meth c ls A hAe C K N O hin hA hP hD hS hsz hl => by
    subst hsz
    have hin9 : ∀ x ∈ u_ws RX2 TX2 4, x ∈ wsX2_init := fun x h => List.mem_cons_of_mem _ (List.mem_append_left _ (List.mem_append_right _ h))
    refine lv_aload_n C.1 C.2.1 dX2_init_0 rfl (lv_at hl 0 rfl) ?_
    refine k_objInit C hl.1 (List.mem_of_getElem? (i := 1) rfl) (List.mem_of_getElem? (i := 2) rfl) (List.mem_of_getElem? (i := 3) rfl) dX2_init_1 (Nat.le_of_ble_eq_true rfl) (Nat.le_of_ble_eq_true rfl) ?_
    refine lv_aload_n C.1 C.2.1 dX2_init_4 rfl (lv_at hl 0 rfl) ?_
    refine lv_bipush (v := 8) C.1 C.2.1 dX2_init_5 (by decide) ?_
    refine lv_bipush (v := 16) C.1 C.2.1 dX2_init_7 (by decide) ?_
    refine k_mna C K O (List.mem_of_getElem? (i := 4) rfl) (List.mem_of_getElem? (i := 5) rfl) hP hD hS hA (Nat.le_of_ble_eq_true rfl) (Nat.le_of_ble_eq_true rfl) dX2_init_9 (fun q r H hP hD hS => ?_)
    refine k_putC C K hin hP hD hS rfl 0 (by decide) hin9 (List.mem_of_getElem? (i := 6) rfl) tyX2_ok nmX2 rfl rfl (tyX2_ok 0 (by decide)) rfl rfl (by simp) dX2_init_13 (fun H locs hP hD hS => ?_)
    refine lv_aload_n C.1 C.2.1 dX2_init_16 rfl (lv_at hl 0 rfl) ?_
    refine k_newC (ci := 4) (fs := [.null, .null, .null, .int 0, .int 0]) C K hP hD hS hA (fun x h => List.mem_cons_of_mem _ (List.mem_append_right _ h)) tyX4_ok (List.mem_of_getElem? (i := 7) rfl) (List.mem_of_getElem? (i := 8) rfl) (List.mem_of_getElem? (i := 9) rfl) rfl (fun j hj => by rcases (show j = 0 ∨ j = 1 ∨ j = 2 ∨ j = 3 ∨ j = 4 by omega) with rfl | rfl | rfl | rfl | rfl <;> rfl) (Nat.le_of_ble_eq_true rfl) (Nat.le_of_ble_eq_true rfl) dX2_init_17 (fun st H hP hD hS => ?_)
    refine lv_dup C.1 C.2.1 dX2_init_20 rfl ?_
    refine k_ctN C K N O hP hD hS hA (m_X4_init l st H.size) ⟨va_cnB 0 C.2.2.2.2.2.1 gX2_init_X4_init_n18 rfl rfl rfl (N.2 _ (List.mem_of_getElem? (i := 1) rfl)) (C.2.2.2.2.2.1 _ (List.mem_of_getElem? (i := 9) rfl)) (by decide +kernel) ⟨Nat.le_of_ble_eq_true rfl, Nat.le_of_ble_eq_true rfl⟩, rfl, C.2.2.2.2.2.1 _ (List.mem_of_getElem? (i := 11) rfl)⟩ hl.1 (Nat.le_of_ble_eq_true rfl) dX2_init_21 ⟨Nat.le_of_ble_eq_true rfl, Nat.le_of_ble_eq_true rfl⟩ (fun w1 H locs hB hP hD hS => ?_)
    obtain ⟨x, y, z, rfl⟩ := hB
    refine k_putC C K hin hP hD hS rfl 1 (by decide) hin9 (List.mem_of_getElem? (i := 10) rfl) tyX2_ok nmX2 rfl rfl (tyX2_ok 1 (by decide)) rfl rfl (by simp) dX2_init_24 (fun H locs hP hD hS => ?_)
    refine k_retC C hAe ⟨fun k => [h0, q, r 0, r 1, r 2, r 3, r 4, r 5, r 6, r 7, st, x, y, z].getD k 0, fun i => if i < 8 then some (r i) else none, rfl, fun m hm => ?_, rfl⟩ hP hD hS dX2_init_27
    rcases (show m = 0 ∨ m = 1 ∨ m = 2 ∨ m = 3 ∨ m = 4 ∨ m = 5 ∨ m = 6 ∨ m = 7 by omega) with rfl | rfl | rfl | rfl | rfl | rfl | rfl | rfl <;> rfl)
