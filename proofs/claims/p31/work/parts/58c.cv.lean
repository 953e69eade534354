/-! CONSTRUCTORS: History, LineBuffers -/
section CROWS3
variable {p : Program} {l : Launch} {e : Env} {R : Room} {s : State} {m : MethodId} {args : Array Value} {below : List Frame} {meth : Method} {c : Code} {H : Heap} {locs : List Loc} {cells slots : Nat} {Q : State → Prop}
variable {cc : ByteArray} {pc : Nat} {ls : Array Slot} {rest : List Value} {nL : Nat} {ret : Option FieldType} {own : String} {ws : List Cond} {D : va_G} {cs : Nat → ClassId} {A : Nat → Prop}
theorem k_getC (C : Cx p s m args meth c cc nL ret own ws) (hK : va_K D vwCl (tyA cs) s) {tl : va_W} {a ci : Nat} {fs : List Value} (hP : va_P D vwCl ((a, .inr (ci, fs)) :: tl) H) {Cn : String} {T : u_T} {N : Nat} (hc : vwCl[ci]? = some (Cn, T, N)) (k : Nat) (hk : k < N) (hin : ∀ x ∈ u_ws Cn T N, x ∈ ws) {index : Nat} (hw : Cond.fieldLink own index (T k).1 (T k).2.1 (T k).2.2.1 ∈ ws) {v : Value} (hv : fs[k]? = some v) (d : decode cc pc = .ok (.getfield index, 3))
    (kk : W p l e R s m args below meth c H locs cells slots Q (F0 m (pc + 3) ls (v :: rest))) : W p l e R s m args below meth c H locs cells slots Q (F0 m pc ls (.ref a :: rest)) := by
  obtain ⟨hx, hb, hml, hr, hown, hts, hlk⟩ := C
  exact va_get hx hb hts hin hown hK hP 0 rfl hc k hk (hts _ hw) (fun _ h => h) hv d kk
theorem k_astL (C : Cx p s m args meth c cc nL ret own ws) (hK : va_K D vwCl (tyA cs) s) {x : Nat × va_E} {tl : va_W} {q b : Nat} {f : Nat → Option Nat} {vs : List Value} (hP : va_P D vwCl (x :: (q, .inl (cs 1, 4, .inr (.inr (.inr (.inr f))))) :: tl) H) (hD : va_D A (x :: (q, .inl (cs 1, 4, .inr (.inr (.inr (.inr f))))) :: tl)) (hS : va_S A s.heap H locs) (hb : (b, .inr (2, vs)) ∈ tl) {i : Int32} {j : Nat} (hin : vp_in i 4) (hj : i.toNatClampNeg = j) (d : decode cc pc = .ok (.aastore, 1))
    (kk : ∀ (H1 : Heap) (locs1 : List Loc), va_P D vwCl (x :: (q, .inl (cs 1, 4, .inr (.inr (.inr (.inr (va_up f j (some b))))))) :: tl) H1 → va_D A (x :: (q, .inl (cs 1, 4, .inr (.inr (.inr (.inr (va_up f j (some b))))))) :: tl) → va_S A s.heap H1 locs1 → W p l e R s m args below meth c H1 locs1 cells slots Q (F0 m (pc + 1) ls rest)) : W p l e R s m args below meth c H locs cells slots Q (F0 m pc ls (.ref b :: .int i :: .ref q :: rest)) := by
  obtain ⟨hx, hbc, hml, hr, hown, hts, hlk⟩ := C
  obtain ⟨qk, hqk⟩ := List.getElem?_of_mem hb
  subst hj
  exact va_astq hx hbc hK hP hD hS 1 1 (qk + 2) 2 (r := (RX2, TX2, 4)) rfl rfl (by simpa using hqk) rfl hin d (fun H1 locs1 h1 h2 h3 => kk H1 locs1 h1 h2 h3)
end CROWS3
def hiW (cs : Nat → ClassId) (h q : Nat) (f : Nat → Option Nat) (a0 a1 a2 a3 : Nat → Nat) (f0 f1 f2 f3 : Nat → Option Nat) : va_W := (h, .inr (1, [.ref q, .int 0, .int 0])) :: (q, .inl (cs 1, 4, .inr (.inr (.inr (.inr f))))) :: ((((([] : va_W) ++ liW cs a0 f0) ++ liW cs a1 f1) ++ liW cs a2 f2) ++ liW cs a3 f3)
def lnO (a : Nat → Nat) (f : Nat → Option Nat) : Prop := ∀ m, m < 8 → f m = some (a (2 + m))
def HiB (cs : Nat → ClassId) (h : Nat) (w1 : va_W) : Prop := ∃ (q : Nat) (f : Nat → Option Nat) (a0 a1 a2 a3 : Nat → Nat) (f0 f1 f2 f3 : Nat → Option Nat), (lnO a0 f0 ∧ lnO a1 f1 ∧ lnO a2 f2 ∧ lnO a3 f3) ∧ (f 0 = some (a0 0) ∧ f 1 = some (a1 0) ∧ f 2 = some (a2 0) ∧ f 3 = some (a3 0)) ∧ w1 = hiW cs h q f a0 a1 a2 a3 f0 f1 f2 f3
abbrev rmX1_init : Room := { frames := 3, cells := 57, slots := 1064, locals := 72 }
set_option maxRecDepth 100000 in
set_option maxHeartbeats 4000000 in
theorem m_X1_init (l : Launch) {D : va_G} {cs : Nat → ClassId} (h0 sz : Nat) : Met l yX1_init wsX1_init rmX1_init (PC D cs sz [(h0, .inr (1, [.null, .int 0, .int 0]))] [.ref h0]) (QC D (HiB cs h0) (h0, .inr (1, [.null, .int 0, .int 0])) sz) 57 1064 (va_A [(h0, .inr (1, [.null, .int 0, .int 0]))] sz) :=
  k_metC (by decide) rfl rfl (by decide) (fun p e s m below meth c ls A hAe C K N O hin hA hP hD hS hsz hl => by
    subst hsz
    have hin9 : ∀ x ∈ u_ws RX1 TX1 3, x ∈ wsX1_init := fun x h => List.mem_cons_of_mem _ (List.mem_append_left _ (List.mem_append_left _ (List.mem_append_right _ h)))
    refine lv_aload_n C.1 C.2.1 dX1_init_0 rfl (lv_at hl 0 rfl) ?_
    refine k_objInit C hl.1 (List.mem_of_getElem? (i := 1) rfl) (List.mem_of_getElem? (i := 2) rfl) (List.mem_of_getElem? (i := 3) rfl) dX1_init_1 (Nat.le_of_ble_eq_true rfl) (Nat.le_of_ble_eq_true rfl) ?_
    refine lv_aload_n C.1 C.2.1 dX1_init_4 rfl (lv_at hl 0 rfl) ?_
    refine lv_iconst (v := 4) C.1 C.2.1 dX1_init_5 (by decide) ?_
    refine k_newq C K O (List.mem_of_getElem? (i := 4) rfl) hP hD hS hA (Nat.le_of_ble_eq_true rfl) (Nat.le_of_ble_eq_true rfl) dX1_init_6 (fun q H hP hD hS => ?_)
    refine k_putC C K hin hP hD hS rfl 0 (by decide) hin9 (List.mem_of_getElem? (i := 5) rfl) tyX1_ok nmX1 rfl rfl (tyX1_ok 0 (by decide)) rfl rfl (by simp) dX1_init_9 (fun H locs hP hD hS => ?_)
    refine lv_iconst (v := 0) C.1 C.2.1 dX1_init_12 (by decide) ?_
    refine lv_istore_n (lv' := [(1, .int 0), (0, .ref h0)]) C.1 C.2.1 dX1_init_13 rfl hl (by decide) rfl (fun ls hl => ?_)
    have hP : va_P D vwCl ((h0, .inr (1, [.ref q, .int 0, .int 0])) :: (q, .inl (cs 1, 4, .inr (.inr (.inr (.inr (fun _ => none)))))) :: ([] : va_W)) H := hP
    have hD : va_D A ((h0, .inr (1, [.ref q, .int 0, .int 0])) :: (q, .inl (cs 1, 4, .inr (.inr (.inr (.inr (fun _ => none)))))) :: ([] : va_W)) := hD
    refine lv_iload_n C.1 C.2.1 dX1_init_14 rfl (lv_at hl 0 rfl) ?_
    refine lv_iconst (v := 4) C.1 C.2.1 dX1_init_15 (by decide) ?_
    refine lv_icmp_ge (tgt := 38) C.1 C.2.1 dX1_init_16 (by decide) (fun z => absurd z (by decide)) (fun _ => ?_)
    refine lv_aload_n C.1 C.2.1 dX1_init_19 rfl (lv_at hl 1 rfl) ?_
    refine k_getC C K hP rfl 0 (by decide) hin9 (List.mem_of_getElem? (i := 5) rfl) (v := .ref q) rfl dX1_init_20 ?_
    refine lv_iload_n C.1 C.2.1 dX1_init_23 rfl (lv_at hl 0 rfl) ?_
    refine k_newC (ci := 2) (fs := [.null, .null, .int 0, .int 0]) C K hP hD hS hA (fun x h => List.mem_cons_of_mem _ (List.mem_append_left _ (List.mem_append_right _ h))) tyX2_ok (List.mem_of_getElem? (i := 4) rfl) (List.mem_of_getElem? (i := 6) rfl) (List.mem_of_getElem? (i := 7) rfl) rfl (fun j hj => by rcases (show j = 0 ∨ j = 1 ∨ j = 2 ∨ j = 3 by omega) with rfl | rfl | rfl | rfl <;> rfl) (Nat.le_of_ble_eq_true rfl) (Nat.le_of_ble_eq_true rfl) dX1_init_24 (fun b0 H hP hD hS => ?_)
    refine lv_dup C.1 C.2.1 dX1_init_27 rfl ?_
    refine k_ctN C K N O hP hD hS hA (m_X2_init l b0 H.size) ⟨va_cnB 0 C.2.2.2.2.2.1 gX1_init_X2_init_n17 rfl rfl rfl (N.2 _ (List.mem_of_getElem? (i := 2) rfl)) (C.2.2.2.2.2.1 _ (List.mem_of_getElem? (i := 7) rfl)) (by decide +kernel) ⟨Nat.le_of_ble_eq_true rfl, Nat.le_of_ble_eq_true rfl⟩, rfl, C.2.2.2.2.2.1 _ (List.mem_of_getElem? (i := 8) rfl)⟩ hl.1 (Nat.le_of_ble_eq_true rfl) dX1_init_28 ⟨Nat.le_of_ble_eq_true rfl, Nat.le_of_ble_eq_true rfl⟩ (fun w1 H locs hB hP2 hD2 hS2 => ?_)
    obtain ⟨a0, f0, e0, g0, rfl⟩ := hB
    subst e0
    have hS := hS2
    have hP : va_P D vwCl ((h0, .inr (1, [.ref q, .int 0, .int 0])) :: (q, .inl (cs 1, 4, .inr (.inr (.inr (.inr (fun _ => none)))))) :: (([] : va_W) ++ liW cs a0 f0)) H := hP2
    have hD : va_D A ((h0, .inr (1, [.ref q, .int 0, .int 0])) :: (q, .inl (cs 1, 4, .inr (.inr (.inr (.inr (fun _ => none)))))) :: (([] : va_W) ++ liW cs a0 f0)) := hD2
    refine k_astL C K hP hD hS (vs := [.ref (a0 1), .ref (a0 10), .int 0, .int 0]) (List.mem_append_right _ List.mem_cons_self) (j := 0) (chk_in rfl) rfl dX1_init_31 (fun H locs hP hD hS => ?_)
    refine lv_iinc (v := 1) (lv' := [(1, .int 1), (0, .ref h0)]) C.1 C.2.1 dX1_init_32 hl (k := 0) rfl (by decide) (by decide) rfl (fun ls hl => ?_)
    refine lv_goto (tgt := 14) C.1 C.2.1 dX1_init_35 (by decide) ?_
    refine lv_iload_n C.1 C.2.1 dX1_init_14 rfl (lv_at hl 0 rfl) ?_
    refine lv_iconst (v := 4) C.1 C.2.1 dX1_init_15 (by decide) ?_
    refine lv_icmp_ge (tgt := 38) C.1 C.2.1 dX1_init_16 (by decide) (fun z => absurd z (by decide)) (fun _ => ?_)
    refine lv_aload_n C.1 C.2.1 dX1_init_19 rfl (lv_at hl 1 rfl) ?_
    refine k_getC C K hP rfl 0 (by decide) hin9 (List.mem_of_getElem? (i := 5) rfl) (v := .ref q) rfl dX1_init_20 ?_
    refine lv_iload_n C.1 C.2.1 dX1_init_23 rfl (lv_at hl 0 rfl) ?_
    refine k_newC (ci := 2) (fs := [.null, .null, .int 0, .int 0]) C K hP hD hS hA (fun x h => List.mem_cons_of_mem _ (List.mem_append_left _ (List.mem_append_right _ h))) tyX2_ok (List.mem_of_getElem? (i := 4) rfl) (List.mem_of_getElem? (i := 6) rfl) (List.mem_of_getElem? (i := 7) rfl) rfl (fun j hj => by rcases (show j = 0 ∨ j = 1 ∨ j = 2 ∨ j = 3 by omega) with rfl | rfl | rfl | rfl <;> rfl) (Nat.le_of_ble_eq_true rfl) (Nat.le_of_ble_eq_true rfl) dX1_init_24 (fun b1 H hP hD hS => ?_)
    refine lv_dup C.1 C.2.1 dX1_init_27 rfl ?_
    refine k_ctN C K N O hP hD hS hA (m_X2_init l b1 H.size) ⟨va_cnB 0 C.2.2.2.2.2.1 gX1_init_X2_init_n17 rfl rfl rfl (N.2 _ (List.mem_of_getElem? (i := 2) rfl)) (C.2.2.2.2.2.1 _ (List.mem_of_getElem? (i := 7) rfl)) (by decide +kernel) ⟨Nat.le_of_ble_eq_true rfl, Nat.le_of_ble_eq_true rfl⟩, rfl, C.2.2.2.2.2.1 _ (List.mem_of_getElem? (i := 8) rfl)⟩ hl.1 (Nat.le_of_ble_eq_true rfl) dX1_init_28 ⟨Nat.le_of_ble_eq_true rfl, Nat.le_of_ble_eq_true rfl⟩ (fun w1 H locs hB hP2 hD2 hS2 => ?_)
    obtain ⟨a1, f1, e1, g1, rfl⟩ := hB
    subst e1
    have hS := hS2
    have hP : va_P D vwCl ((h0, .inr (1, [.ref q, .int 0, .int 0])) :: (q, .inl (cs 1, 4, .inr (.inr (.inr (.inr (va_up (fun _ => none) 0 (some (a0 0)))))))) :: ((([] : va_W) ++ liW cs a0 f0) ++ liW cs a1 f1)) H := hP2
    have hD : va_D A ((h0, .inr (1, [.ref q, .int 0, .int 0])) :: (q, .inl (cs 1, 4, .inr (.inr (.inr (.inr (va_up (fun _ => none) 0 (some (a0 0)))))))) :: ((([] : va_W) ++ liW cs a0 f0) ++ liW cs a1 f1)) := hD2
    refine k_astL C K hP hD hS (vs := [.ref (a1 1), .ref (a1 10), .int 0, .int 0]) (List.mem_append_right _ List.mem_cons_self) (j := 1) (chk_in rfl) rfl dX1_init_31 (fun H locs hP hD hS => ?_)
    refine lv_iinc (v := 2) (lv' := [(1, .int 2), (0, .ref h0)]) C.1 C.2.1 dX1_init_32 hl (k := 0) rfl (by decide) (by decide) rfl (fun ls hl => ?_)
    refine lv_goto (tgt := 14) C.1 C.2.1 dX1_init_35 (by decide) ?_
    refine lv_iload_n C.1 C.2.1 dX1_init_14 rfl (lv_at hl 0 rfl) ?_
    refine lv_iconst (v := 4) C.1 C.2.1 dX1_init_15 (by decide) ?_
    refine lv_icmp_ge (tgt := 38) C.1 C.2.1 dX1_init_16 (by decide) (fun z => absurd z (by decide)) (fun _ => ?_)
    refine lv_aload_n C.1 C.2.1 dX1_init_19 rfl (lv_at hl 1 rfl) ?_
    refine k_getC C K hP rfl 0 (by decide) hin9 (List.mem_of_getElem? (i := 5) rfl) (v := .ref q) rfl dX1_init_20 ?_
    refine lv_iload_n C.1 C.2.1 dX1_init_23 rfl (lv_at hl 0 rfl) ?_
    refine k_newC (ci := 2) (fs := [.null, .null, .int 0, .int 0]) C K hP hD hS hA (fun x h => List.mem_cons_of_mem _ (List.mem_append_left _ (List.mem_append_right _ h))) tyX2_ok (List.mem_of_getElem? (i := 4) rfl) (List.mem_of_getElem? (i := 6) rfl) (List.mem_of_getElem? (i := 7) rfl) rfl (fun j hj => by rcases (show j = 0 ∨ j = 1 ∨ j = 2 ∨ j = 3 by omega) with rfl | rfl | rfl | rfl <;> rfl) (Nat.le_of_ble_eq_true rfl) (Nat.le_of_ble_eq_true rfl) dX1_init_24 (fun b2 H hP hD hS => ?_)
    refine lv_dup C.1 C.2.1 dX1_init_27 rfl ?_
    refine k_ctN C K N O hP hD hS hA (m_X2_init l b2 H.size) ⟨va_cnB 0 C.2.2.2.2.2.1 gX1_init_X2_init_n17 rfl rfl rfl (N.2 _ (List.mem_of_getElem? (i := 2) rfl)) (C.2.2.2.2.2.1 _ (List.mem_of_getElem? (i := 7) rfl)) (by decide +kernel) ⟨Nat.le_of_ble_eq_true rfl, Nat.le_of_ble_eq_true rfl⟩, rfl, C.2.2.2.2.2.1 _ (List.mem_of_getElem? (i := 8) rfl)⟩ hl.1 (Nat.le_of_ble_eq_true rfl) dX1_init_28 ⟨Nat.le_of_ble_eq_true rfl, Nat.le_of_ble_eq_true rfl⟩ (fun w1 H locs hB hP2 hD2 hS2 => ?_)
    obtain ⟨a2, f2, e2, g2, rfl⟩ := hB
    subst e2
    have hS := hS2
    have hP : va_P D vwCl ((h0, .inr (1, [.ref q, .int 0, .int 0])) :: (q, .inl (cs 1, 4, .inr (.inr (.inr (.inr (va_up (va_up (fun _ => none) 0 (some (a0 0))) 1 (some (a1 0)))))))) :: (((([] : va_W) ++ liW cs a0 f0) ++ liW cs a1 f1) ++ liW cs a2 f2)) H := hP2
    have hD : va_D A ((h0, .inr (1, [.ref q, .int 0, .int 0])) :: (q, .inl (cs 1, 4, .inr (.inr (.inr (.inr (va_up (va_up (fun _ => none) 0 (some (a0 0))) 1 (some (a1 0)))))))) :: (((([] : va_W) ++ liW cs a0 f0) ++ liW cs a1 f1) ++ liW cs a2 f2)) := hD2
    refine k_astL C K hP hD hS (vs := [.ref (a2 1), .ref (a2 10), .int 0, .int 0]) (List.mem_append_right _ List.mem_cons_self) (j := 2) (chk_in rfl) rfl dX1_init_31 (fun H locs hP hD hS => ?_)
    refine lv_iinc (v := 3) (lv' := [(1, .int 3), (0, .ref h0)]) C.1 C.2.1 dX1_init_32 hl (k := 0) rfl (by decide) (by decide) rfl (fun ls hl => ?_)
    refine lv_goto (tgt := 14) C.1 C.2.1 dX1_init_35 (by decide) ?_
    refine lv_iload_n C.1 C.2.1 dX1_init_14 rfl (lv_at hl 0 rfl) ?_
    refine lv_iconst (v := 4) C.1 C.2.1 dX1_init_15 (by decide) ?_
    refine lv_icmp_ge (tgt := 38) C.1 C.2.1 dX1_init_16 (by decide) (fun z => absurd z (by decide)) (fun _ => ?_)
    refine lv_aload_n C.1 C.2.1 dX1_init_19 rfl (lv_at hl 1 rfl) ?_
    refine k_getC C K hP rfl 0 (by decide) hin9 (List.mem_of_getElem? (i := 5) rfl) (v := .ref q) rfl dX1_init_20 ?_
    refine lv_iload_n C.1 C.2.1 dX1_init_23 rfl (lv_at hl 0 rfl) ?_
    refine k_newC (ci := 2) (fs := [.null, .null, .int 0, .int 0]) C K hP hD hS hA (fun x h => List.mem_cons_of_mem _ (List.mem_append_left _ (List.mem_append_right _ h))) tyX2_ok (List.mem_of_getElem? (i := 4) rfl) (List.mem_of_getElem? (i := 6) rfl) (List.mem_of_getElem? (i := 7) rfl) rfl (fun j hj => by rcases (show j = 0 ∨ j = 1 ∨ j = 2 ∨ j = 3 by omega) with rfl | rfl | rfl | rfl <;> rfl) (Nat.le_of_ble_eq_true rfl) (Nat.le_of_ble_eq_true rfl) dX1_init_24 (fun b3 H hP hD hS => ?_)
    refine lv_dup C.1 C.2.1 dX1_init_27 rfl ?_
    refine k_ctN C K N O hP hD hS hA (m_X2_init l b3 H.size) ⟨va_cnB 0 C.2.2.2.2.2.1 gX1_init_X2_init_n17 rfl rfl rfl (N.2 _ (List.mem_of_getElem? (i := 2) rfl)) (C.2.2.2.2.2.1 _ (List.mem_of_getElem? (i := 7) rfl)) (by decide +kernel) ⟨Nat.le_of_ble_eq_true rfl, Nat.le_of_ble_eq_true rfl⟩, rfl, C.2.2.2.2.2.1 _ (List.mem_of_getElem? (i := 8) rfl)⟩ hl.1 (Nat.le_of_ble_eq_true rfl) dX1_init_28 ⟨Nat.le_of_ble_eq_true rfl, Nat.le_of_ble_eq_true rfl⟩ (fun w1 H locs hB hP2 hD2 hS2 => ?_)
    obtain ⟨a3, f3, e3, g3, rfl⟩ := hB
    subst e3
    have hS := hS2
    have hP : va_P D vwCl ((h0, .inr (1, [.ref q, .int 0, .int 0])) :: (q, .inl (cs 1, 4, .inr (.inr (.inr (.inr (va_up (va_up (va_up (fun _ => none) 0 (some (a0 0))) 1 (some (a1 0))) 2 (some (a2 0)))))))) :: ((((([] : va_W) ++ liW cs a0 f0) ++ liW cs a1 f1) ++ liW cs a2 f2) ++ liW cs a3 f3)) H := hP2
    have hD : va_D A ((h0, .inr (1, [.ref q, .int 0, .int 0])) :: (q, .inl (cs 1, 4, .inr (.inr (.inr (.inr (va_up (va_up (va_up (fun _ => none) 0 (some (a0 0))) 1 (some (a1 0))) 2 (some (a2 0)))))))) :: ((((([] : va_W) ++ liW cs a0 f0) ++ liW cs a1 f1) ++ liW cs a2 f2) ++ liW cs a3 f3)) := hD2
    refine k_astL C K hP hD hS (vs := [.ref (a3 1), .ref (a3 10), .int 0, .int 0]) (List.mem_append_right _ List.mem_cons_self) (j := 3) (chk_in rfl) rfl dX1_init_31 (fun H locs hP hD hS => ?_)
    refine lv_iinc (v := 4) (lv' := [(1, .int 4), (0, .ref h0)]) C.1 C.2.1 dX1_init_32 hl (k := 0) rfl (by decide) (by decide) rfl (fun ls hl => ?_)
    refine lv_goto (tgt := 14) C.1 C.2.1 dX1_init_35 (by decide) ?_
    refine lv_iload_n C.1 C.2.1 dX1_init_14 rfl (lv_at hl 0 rfl) ?_
    refine lv_iconst (v := 4) C.1 C.2.1 dX1_init_15 (by decide) ?_
    refine lv_icmp_ge (tgt := 38) C.1 C.2.1 dX1_init_16 (by decide) (fun _ => ?_) (fun z => absurd (by decide) z)
    exact k_retC C hAe ⟨q, _, a0, a1, a2, a3, f0, f1, f2, f3, ⟨g0, g1, g2, g3⟩, ⟨rfl, rfl, rfl, rfl⟩, rfl⟩ hP hD hS dX1_init_38)
def lbW (cs : Nat → ClassId) (x h q t y : Nat) (f : Nat → Option Nat) (aL aT a0 a1 a2 a3 : Nat → Nat) (fL fT f0 f1 f2 f3 : Nat → Option Nat) : va_W := (x, .inr (5, [.ref (aL 0), .ref (aT 0), .ref h, .ref t])) :: ((((([] : va_W) ++ liW cs aL fL) ++ liW cs aT fT) ++ hiW cs h q f a0 a1 a2 a3 f0 f1 f2 f3) ++ [(t, .inr (3, [.ref y, .int 0, .int 0, .int 0])), (y, .inl (cs 0, 120, .inl (fun _ => 0)))])
def LbB (cs : Nat → ClassId) (x : Nat) (w1 : va_W) : Prop := ∃ (h q t y : Nat) (f : Nat → Option Nat) (aL aT a0 a1 a2 a3 : Nat → Nat) (fL fT f0 f1 f2 f3 : Nat → Option Nat), (lnO aL fL ∧ lnO aT fT ∧ lnO a0 f0 ∧ lnO a1 f1 ∧ lnO a2 f2 ∧ lnO a3 f3) ∧ (f 0 = some (a0 0) ∧ f 1 = some (a1 0) ∧ f 2 = some (a2 0) ∧ f 3 = some (a3 0)) ∧ w1 = lbW cs x h q t y f aL aT a0 a1 a2 a3 fL fT f0 f1 f2 f3
abbrev rmX5_init : Room := { frames := 4, cells := 88, slots := 1721, locals := 110 }
set_option maxRecDepth 100000 in
set_option maxHeartbeats 4000000 in
theorem m_X5_init (l : Launch) {D : va_G} {cs : Nat → ClassId} (h0 sz : Nat) : Met l yX5_init wsX5_init rmX5_init (PC D cs sz [(h0, .inr (5, [.null, .null, .null, .null]))] [.ref h0]) (QC D (LbB cs h0) (h0, .inr (5, [.null, .null, .null, .null])) sz) 88 1721 (va_A [(h0, .inr (5, [.null, .null, .null, .null]))] sz) :=
  k_metC (by decide) rfl rfl (by decide) (fun p e s m below meth c ls A hAe C K N O hin hA hP hD hS hsz hl => by
    subst hsz
    have hin9 : ∀ x ∈ u_ws RX5 TX5 4, x ∈ wsX5_init := fun x h => List.mem_cons_of_mem _ (List.mem_append_left _ (List.mem_append_left _ (List.mem_append_left _ (List.mem_append_right _ h))))
    refine lv_aload_n C.1 C.2.1 dX5_init_0 rfl (lv_at hl 0 rfl) ?_
    refine k_objInit C hl.1 (List.mem_of_getElem? (i := 1) rfl) (List.mem_of_getElem? (i := 2) rfl) (List.mem_of_getElem? (i := 3) rfl) dX5_init_1 (Nat.le_of_ble_eq_true rfl) (Nat.le_of_ble_eq_true rfl) ?_
    refine lv_aload_n C.1 C.2.1 dX5_init_4 rfl (lv_at hl 0 rfl) ?_
    refine k_newC (ci := 2) (fs := [.null, .null, .int 0, .int 0]) C K hP hD hS hA (fun x h => List.mem_cons_of_mem _ (List.mem_append_left _ (List.mem_append_left _ (List.mem_append_left _ (List.mem_append_left _ (List.mem_append_right _ h)))))) tyX2_ok (List.mem_of_getElem? (i := 4) rfl) (List.mem_of_getElem? (i := 5) rfl) (List.mem_of_getElem? (i := 6) rfl) rfl (fun j hj => by rcases (show j = 0 ∨ j = 1 ∨ j = 2 ∨ j = 3 by omega) with rfl | rfl | rfl | rfl <;> rfl) (Nat.le_of_ble_eq_true rfl) (Nat.le_of_ble_eq_true rfl) dX5_init_5 (fun b H hP hD hS => ?_)
    refine lv_dup C.1 C.2.1 dX5_init_8 rfl ?_
    refine k_ctN C K N O hP hD hS hA (m_X2_init l b H.size) ⟨va_cnB 0 C.2.2.2.2.2.1 gX5_init_X2_init_n9 rfl rfl rfl (N.2 _ (List.mem_of_getElem? (i := 0) rfl)) (C.2.2.2.2.2.1 _ (List.mem_of_getElem? (i := 6) rfl)) (by decide +kernel) ⟨Nat.le_of_ble_eq_true rfl, Nat.le_of_ble_eq_true rfl⟩, rfl, C.2.2.2.2.2.1 _ (List.mem_of_getElem? (i := 17) rfl)⟩ hl.1 (Nat.le_of_ble_eq_true rfl) dX5_init_9 ⟨Nat.le_of_ble_eq_true rfl, Nat.le_of_ble_eq_true rfl⟩ (fun w1 H locs hB hP2 hD2 hS2 => ?_)
    obtain ⟨aL, fL, eL, gL, rfl⟩ := hB
    subst eL
    have hP := hP2
    have hD := hD2
    have hS := hS2
    refine k_putC C K hin hP hD hS rfl 0 (by decide) hin9 (List.mem_of_getElem? (i := 7) rfl) tyX5_ok nmX5 rfl rfl (tyX5_ok 0 (by decide)) rfl rfl (by simp) dX5_init_12 (fun H locs hP hD hS => ?_)
    refine lv_aload_n C.1 C.2.1 dX5_init_15 rfl (lv_at hl 0 rfl) ?_
    refine k_newC (ci := 2) (fs := [.null, .null, .int 0, .int 0]) C K hP hD hS hA (fun x h => List.mem_cons_of_mem _ (List.mem_append_left _ (List.mem_append_left _ (List.mem_append_left _ (List.mem_append_left _ (List.mem_append_right _ h)))))) tyX2_ok (List.mem_of_getElem? (i := 4) rfl) (List.mem_of_getElem? (i := 5) rfl) (List.mem_of_getElem? (i := 6) rfl) rfl (fun j hj => by rcases (show j = 0 ∨ j = 1 ∨ j = 2 ∨ j = 3 by omega) with rfl | rfl | rfl | rfl <;> rfl) (Nat.le_of_ble_eq_true rfl) (Nat.le_of_ble_eq_true rfl) dX5_init_16 (fun b H hP hD hS => ?_)
    refine lv_dup C.1 C.2.1 dX5_init_19 rfl ?_
    refine k_ctN C K N O hP hD hS hA (m_X2_init l b H.size) ⟨va_cnB 0 C.2.2.2.2.2.1 gX5_init_X2_init_n9 rfl rfl rfl (N.2 _ (List.mem_of_getElem? (i := 0) rfl)) (C.2.2.2.2.2.1 _ (List.mem_of_getElem? (i := 6) rfl)) (by decide +kernel) ⟨Nat.le_of_ble_eq_true rfl, Nat.le_of_ble_eq_true rfl⟩, rfl, C.2.2.2.2.2.1 _ (List.mem_of_getElem? (i := 17) rfl)⟩ hl.1 (Nat.le_of_ble_eq_true rfl) dX5_init_20 ⟨Nat.le_of_ble_eq_true rfl, Nat.le_of_ble_eq_true rfl⟩ (fun w1 H locs hB hP2 hD2 hS2 => ?_)
    obtain ⟨aT, fT, eT, gT, rfl⟩ := hB
    subst eT
    have hP := hP2
    have hD := hD2
    have hS := hS2
    refine k_putC C K hin hP hD hS rfl 1 (by decide) hin9 (List.mem_of_getElem? (i := 8) rfl) tyX5_ok nmX5 rfl rfl (tyX5_ok 1 (by decide)) rfl rfl (by simp) dX5_init_23 (fun H locs hP hD hS => ?_)
    refine lv_aload_n C.1 C.2.1 dX5_init_26 rfl (lv_at hl 0 rfl) ?_
    refine k_newC (ci := 1) (fs := [.null, .int 0, .int 0]) C K hP hD hS hA (fun x h => List.mem_cons_of_mem _ (List.mem_append_left _ (List.mem_append_left _ (List.mem_append_right _ h)))) tyX1_ok (List.mem_of_getElem? (i := 9) rfl) (List.mem_of_getElem? (i := 10) rfl) (List.mem_of_getElem? (i := 11) rfl) rfl (fun j hj => by rcases (show j = 0 ∨ j = 1 ∨ j = 2 by omega) with rfl | rfl | rfl <;> rfl) (Nat.le_of_ble_eq_true rfl) (Nat.le_of_ble_eq_true rfl) dX5_init_27 (fun b H hP hD hS => ?_)
    refine lv_dup C.1 C.2.1 dX5_init_30 rfl ?_
    refine k_ctI C K N O hP hD hS hA (m_X1_init l b H.size) (cwI 0 C.2.2.2.2.2.1 gX5_init_X1_init rfl rfl rfl (C.2.2.2.2.2.1 _ (List.mem_of_getElem? (i := 11) rfl)) (C.2.2.2.2.2.1 _ (List.mem_of_getElem? (i := 33) rfl)) (C.2.2.2.2.2.1 _ (List.mem_of_getElem? (i := 34) rfl)) rfl (by decide +kernel) ⟨Nat.le_of_ble_eq_true rfl, Nat.le_of_ble_eq_true rfl⟩) hl.1 (Nat.le_of_ble_eq_true rfl) dX5_init_31 ⟨Nat.le_of_ble_eq_true rfl, Nat.le_of_ble_eq_true rfl⟩ (fun w1 H locs hB hP hD hS => ?_)
    obtain ⟨q, f, a0, a1, a2, a3, f0, f1, f2, f3, hln, hfs, rfl⟩ := hB
    refine k_putC C K hin hP hD hS rfl 2 (by decide) hin9 (List.mem_of_getElem? (i := 12) rfl) tyX5_ok nmX5 rfl rfl (tyX5_ok 2 (by decide)) rfl rfl (by simp) dX5_init_34 (fun H locs hP hD hS => ?_)
    refine lv_aload_n C.1 C.2.1 dX5_init_37 rfl (lv_at hl 0 rfl) ?_
    refine k_newC (ci := 3) (fs := [.null, .int 0, .int 0, .int 0]) C K hP hD hS hA (fun x h => List.mem_cons_of_mem _ (List.mem_append_left _ (List.mem_append_right _ h))) tyX3_ok (List.mem_of_getElem? (i := 13) rfl) (List.mem_of_getElem? (i := 14) rfl) (List.mem_of_getElem? (i := 15) rfl) rfl (fun j hj => by rcases (show j = 0 ∨ j = 1 ∨ j = 2 ∨ j = 3 by omega) with rfl | rfl | rfl | rfl <;> rfl) (Nat.le_of_ble_eq_true rfl) (Nat.le_of_ble_eq_true rfl) dX5_init_38 (fun t H hP hD hS => ?_)
    refine lv_dup C.1 C.2.1 dX5_init_41 rfl ?_
    refine k_ctN C K N O hP hD hS hA (m_X3_init l t H.size) ⟨va_cnB 0 C.2.2.2.2.2.1 gX5_init_X3_init_n28 rfl rfl rfl (N.2 _ (List.mem_of_getElem? (i := 3) rfl)) (C.2.2.2.2.2.1 _ (List.mem_of_getElem? (i := 15) rfl)) (by decide +kernel) ⟨Nat.le_of_ble_eq_true rfl, Nat.le_of_ble_eq_true rfl⟩, rfl, C.2.2.2.2.2.1 _ (List.mem_of_getElem? (i := 39) rfl)⟩ hl.1 (Nat.le_of_ble_eq_true rfl) dX5_init_42 ⟨Nat.le_of_ble_eq_true rfl, Nat.le_of_ble_eq_true rfl⟩ (fun w1 H locs hB hP hD hS => ?_)
    obtain ⟨y, rfl⟩ := hB
    refine k_putC C K hin hP hD hS rfl 3 (by decide) hin9 (List.mem_of_getElem? (i := 16) rfl) tyX5_ok nmX5 rfl rfl (tyX5_ok 3 (by decide)) rfl rfl (by simp) dX5_init_45 (fun H locs hP hD hS => ?_)
    exact k_retC C hAe ⟨b, q, t, y, f, aL, aT, a0, a1, a2, a3, fL, fT, f0, f1, f2, f3, ⟨gL, gT, hln⟩, hfs, rfl⟩ hP hD hS dX5_init_48)
