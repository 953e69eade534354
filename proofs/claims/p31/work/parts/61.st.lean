/-! THE LAW: its start -/
def R_law : String := "LineBuffersLaw"
def lw_P (b : Addr) (xs : List Int32) (args : Array Value) (s : State) : Prop := args = #[.ref b] ∧ s.IntsAt b xs ∧ xs.length ≤ 260 ∧ (Jvm.Cond.and given_1 narrow_1).before args s = true
def lw_Q (_ : Array Value) (s : State) (o : Outcome) (t : State) : Prop := o = .returned (some (.int 1)) ∧ Framed s o t [] 600086 7301442
def lw_Z (below : List Frame) (a : Array Value) (s : State) : State → Prop := fun t => ∃ o, t.status = .running ∧ Ended t below o ∧ lw_Q a s o t
/-- the law's own end, with 1 on the stack, nothing written that was there before, its room as the claim has it -/
theorem lw_ret {p : Program} {l : Launch} {e : Env} {s : State} {m : MethodId} {below : List Frame} {meth : Method} {c : Code} {b : Nat} (hx : p.tables.exec = Jvm.exec) (hb : c.code = code) (hr : meth.sig.returnType = ret) (hlocks : meth.locks = false) {pc : Nat} {H : Heap} {ls : Array Slot} (hdg : decode code pc = .ok (.ireturn, 1)) : W p l e room_1 s m #[Value.ref b] below meth c H [] 600086 7301442 (lw_Z below #[Value.ref b] s) (F0 m pc ls [.int 1]) := by
  intro T hT X
  obtain ⟨fs, hret, hrun, hended, hW, hframe⟩ := X.leave (v := some (.int 1)) (hlocks := hlocks) (fun h => by rw [hr] at h; cases h)
  have hmeth' : T.vm.method? m = some meth := X.method'
  refine ⟨T.setFrames fs, ?_, .returned (some (.int 1)), hrun, hended, rfl, ⟨_, rfl⟩, hW, hframe⟩
  jvm_step X.here [X.here.top, hx, hb, hdg, hmeth', hr, ret, narrow_b1]
  (try refine ⟨rfl, ?_⟩); (try refine ⟨rfl, ?_⟩)
  first | (intro acts; rw [hret _ acts rfl rfl rfl]) | rw [hret _ _ rfl rfl rfl]
  exact Steps.refl _
/-- what holds at the law's entry: the machine, the code, the tables' words (any of lw_tbl by 'hts w (by decide +kernel)'), the script of L ints xs at the cell b, what the Statement gives of the start (any of its parts by flat_of_before) -/
def lw_At (p : Program) (s : State) (m : MethodId) (meth : Method) (c : Code) (b L : Nat) (xs : Nat → Int32) : Prop :=
  p.tables.exec = Jvm.exec ∧ c.code = code ∧ meth.sig.returnType = ret ∧ c.maxLocals = 9 ∧ s.vm.findClass R_law = some m.cls ∧ (∀ w ∈ lw_tbl, w.before #[Value.ref b] s = true) ∧ va_X b L xs s s.heap ∧ b < s.heap.size ∧ meth.locks = false ∧ (Jvm.Cond.and given_1 narrow_1).before #[Value.ref b] s = true

abbrev nrT : Jvm.Cond := Jvm.Cond.and given_1 narrow_1
theorem nr_c : ∀ w ∈ ([.not (.castable (exN 1) (exN 2)), .not (.castable (exN 1) (exN 3)), .not (.castable (exN 2) (exN 1)), .not (.castable (exN 2) (exN 3)), .not (.castable (exN 3) (exN 1)), .not (.castable (exN 3) (exN 2))] : List Cond), w ∈ flatC nrT := in_idx [12, 20, 27, 19, 28, 11] (by decide +kernel)
theorem nr_u : ∀ w ∈ ([.isRef (.static Bundle.tN "UNASSIGNED_STACK" Bundle.steD), .isRef (.static Bundle.tN "SUPPRESSED_SENTINEL" Bundle.listD)] : List Cond), w ∈ flatC nrT := in_idx [4, 5] (by decide +kernel)
set_option maxRecDepth 20000 in
theorem nr_s : ∀ w ∈ skL.map (fun q => Cond.exactly (.string RX5 q.1) "java/lang/String"), w ∈ flatC nrT := in_idx [140, 187, 223, 266, 305, 363, 404, 458, 112, 504, 584, 636, 677, 719, 766, 30, 57, 541, 86] (by decide +kernel)
set_option maxRecDepth 20000 in
theorem tb_s : ∀ w ∈ skL.map (fun q => Cond.stringRef RX5 q.1 q.2), w ∈ lw_tbl := in_idx [344, 345, 364, 376, 384, 385, 398, 399, 323, 425, 431, 529, 537, 546, 547, 190, 274, 430, 293] (by decide +kernel)
set_option maxRecDepth 20000 in
theorem tb_f : ∀ w ∈ nwF.map (fun q => Cond.fieldLinkNest q.1 q.2.1 q.2.2.1 q.2.2.2.1 q.2.2.2.2 "LineBuffers"), w ∈ lw_tbl := in_idx [51, 66, 68, 70, 71, 94, 110] (by decide +kernel)
set_option maxRecDepth 20000 in
theorem tb_m : ∀ w ∈ nwM.map (fun q => Cond.methodLinkNest q.1 q.2.1 q.2.2 "LineBuffers"), w ∈ lw_tbl := in_idx [35, 43, 90, 104] (by decide +kernel)
theorem pre_NW {args : Array Value} {s : State} (hts : ∀ w ∈ lw_tbl, w.before args s = true) : NW s :=
  ⟨fun q hq => va_Nw.of rfl (hts _ (tb_f _ (List.mem_map_of_mem hq))), fun q hq => va_Nw.of rfl (hts _ (tb_m _ (List.mem_map_of_mem hq)))⟩
theorem pre_SK {args : Array Value} {s : State} (hts : ∀ w ∈ lw_tbl, w.before args s = true) (hgv : nrT.before args s = true) : SK s := by
  intro q hq
  have h1 := hts _ (tb_s _ (List.mem_map_of_mem hq))
  have h2 := flat_of_before _ hgv _ (nr_s _ (List.mem_map_of_mem hq))
  obtain ⟨a, -, -, -, ha, -⟩ := Cond.exactly_spec h2
  exact ⟨a, vk_R.of h1 ha⟩
theorem pre_TW {args : Array Value} {s : State} (hts : ∀ w ∈ lw_tbl, w.before args s = true) : TW s := fun w hw => va_tabs (twL_tabs w hw) rfl (hts w (List.mem_append_right _ (twL_in w hw)))
theorem pre_YC {args : Array Value} {s : State} (hts : ∀ w ∈ lw_tbl, w.before args s = true) : YC s := fun w hw => va_tabs (ycL_tabs w hw) rfl (hts w (List.mem_append_right _ (ycL_in w hw)))
theorem pre_NC {args : Array Value} {s : State} (hgv : nrT.before args s = true) : NC s := by
  have h := fun w hw => flat_of_before _ hgv w (nr_c w hw)
  intro a b h1 h2 h3 h4 h5
  rcases (show a = 1 ∨ a = 2 ∨ a = 3 by omega) with rfl | rfl | rfl
  · rcases (show b = 1 ∨ b = 2 ∨ b = 3 by omega) with rfl | rfl | rfl
    · exact absurd rfl h5
    · exact va_Nc.of (h _ (List.mem_of_getElem? (i := 0) rfl))
    · exact va_Nc.of (h _ (List.mem_of_getElem? (i := 1) rfl))
  · rcases (show b = 1 ∨ b = 2 ∨ b = 3 by omega) with rfl | rfl | rfl
    · exact va_Nc.of (h _ (List.mem_of_getElem? (i := 2) rfl))
    · exact absurd rfl h5
    · exact va_Nc.of (h _ (List.mem_of_getElem? (i := 3) rfl))
  · rcases (show b = 1 ∨ b = 2 ∨ b = 3 by omega) with rfl | rfl | rfl
    · exact va_Nc.of (h _ (List.mem_of_getElem? (i := 4) rfl))
    · exact va_Nc.of (h _ (List.mem_of_getElem? (i := 5) rfl))
    · exact absurd rfl h5
theorem pre_XS {args : Array Value} {s : State} (hts : ∀ w ∈ lw_tbl, w.before args s = true) (hgv : nrT.before args s = true) (A : Nat → Prop) (hA : ∀ a : Nat, a < s.heap.size → ¬ A a) : vx_Zq Bundle.tN "UNASSIGNED_STACK" Bundle.steD A s s.heap ∧ vx_Zq Bundle.tN "SUPPRESSED_SENTINEL" Bundle.listD A s s.heap :=
  ⟨vx_Zqof (hts _ (List.mem_of_getElem? (i := 176) (by decide +kernel))) (hts _ (List.mem_of_getElem? (i := 16) (by decide +kernel))) (flat_of_before _ hgv _ (nr_u _ (List.mem_of_getElem? (i := 0) rfl))) hA, vx_Zqof (hts _ (List.mem_of_getElem? (i := 178) (by decide +kernel))) (hts _ (List.mem_of_getElem? (i := 16) (by decide +kernel))) (flat_of_before _ hgv _ (nr_u _ (List.mem_of_getElem? (i := 1) rfl))) hA⟩
theorem pre_AO {args : Array Value} {s : State} (hts : ∀ w ∈ lw_tbl, w.before args s = true) : AOx s := ⟨va_AO.of (hts (.arrayOver (.object RX2)) (List.mem_of_getElem? (i := 89) (by decide +kernel))), va_AOA.of (hts (.arrayOver (.array .int)) (List.mem_of_getElem? (i := 40) (by decide +kernel)))⟩
theorem pre_K {args : Array Value} {s : State} (hts : ∀ w ∈ lw_tbl, w.before args s = true) : ∃ (D : va_G) (cs : Nat → ClassId), va_K D vwCl (tyA cs) s := by
  obtain ⟨c0, i0, k0⟩ := u_known (C := RX0) (T := TX0) (N := 1) (n := 1) hts inX0 (hts (.instantiable RX0 1) (List.mem_of_getElem? (i := 401) (by decide +kernel)))
  obtain ⟨c1, i1, k1⟩ := u_known (C := RX1) (T := TX1) (N := 3) (n := 3) hts inX1 (hts (.instantiable RX1 3) (List.mem_of_getElem? (i := 83) (by decide +kernel)))
  obtain ⟨c2, i2, k2⟩ := u_known (C := RX2) (T := TX2) (N := 4) (n := 4) hts inX2 (hts (.instantiable RX2 4) (List.mem_of_getElem? (i := 34) (by decide +kernel)))
  obtain ⟨c3, i3, k3⟩ := u_known (C := RX3) (T := TX3) (N := 4) (n := 4) hts inX3 (hts (.instantiable RX3 4) (List.mem_of_getElem? (i := 103) (by decide +kernel)))
  obtain ⟨c4, i4, k4⟩ := u_known (C := RX4) (T := TX4) (N := 5) (n := 5) hts inX4 (hts (.instantiable RX4 5) (List.mem_of_getElem? (i := 42) (by decide +kernel)))
  obtain ⟨c5, i5, k5⟩ := u_known (C := RX5) (T := TX5) (N := 4) (n := 4) hts inX5 (hts (.instantiable RX5 4) (List.mem_of_getElem? (i := 26) (by decide +kernel)))
  obtain ⟨D, hKc⟩ : ∃ D : va_G, ∀ (k : Nat) (q : vw_C), vwCl[k]? = some q → u_Kn s q.1 q.2.1 q.2.2 (D.1 k) (D.2 k) := by
    refine ⟨(fun k => [c0, c1, c2, c3, c4, c5].getD k c0, fun k => [i0, i1, i2, i3, i4, i5].getD k i0), ?_⟩
    intro k q hq
    match k, hq with
    | 0, hq => cases hq; exact k0
    | 1, hq => cases hq; exact k1
    | 2, hq => cases hq; exact k2
    | 3, hq => cases hq; exact k3
    | 4, hq => cases hq; exact k4
    | 5, hq => cases hq; exact k5
    | k + 6, hq => simp [vwCl] at hq
  obtain ⟨ci, ki, pi, hi1, hi2, hi3⟩ := Cond.arrayClass_spec (hts (.arrayClass .int) (List.mem_of_getElem? (i := 64) (by decide +kernel)))
  obtain ⟨cmp, cq, kq, q1, q2, q3, q4, q5⟩ := Cond.arrayOver_spec (pre_AO hts).1
  obtain ⟨ca, pa, ka, a1, a2, a3⟩ := va_AOA.spec (pre_AO hts).2
  refine ⟨D, fun k => [ci, cq, ca].getD k ci, hKc, fun k q hq => ?_⟩
  match k, hq with
  | 0, hq => cases hq; exact ⟨fun n z => ⟨(fun k h => by cases h), ki, hi2, pi, hi3⟩, hi1⟩
  | 1, hq => cases hq; exact ⟨fun n z => ⟨(fun k h => by cases h), kq, q3, cmp, q4⟩, kq, cmp, q3, q4, q1, q5⟩
  | 2, hq => cases hq; exact ⟨fun n z => ⟨(fun k h => by cases h), ka, a1, pa, a2⟩, a3⟩
  | k + 3, hq => simp at hq
set_option maxRecDepth 100000 in
set_option maxHeartbeats 4000000 in
/-- behind the constructor -/
theorem start_8 {p : Program} {e : Env} {s : State} {m : MethodId} {below : List Frame} {meth : Method} {c : Code} (l : Launch) (hfl : l.stackTraces = false) {bs L : Nat} {xs : Nat → Int32} (hL : L ≤ 260) (C0 : lw_At p s m meth c bs L xs) {D : va_G} {cs : Nat → ClassId} (K : va_K D vwCl (tyA cs) s) {x h q t y : Nat} {f : Nat → Option Nat} {aL aT a0 a1 a2 a3 : Nat → Nat} {fL fT f0 f1 f2 f3 : Nat → Option Nat} (hln : lnO aL fL ∧ lnO aT fT ∧ lnO a0 f0 ∧ lnO a1 f1 ∧ lnO a2 f2 ∧ lnO a3 f3) (hfs : f 0 = some (a0 0) ∧ f 1 = some (a1 0) ∧ f 2 = some (a2 0) ∧ f 3 = some (a3 0)) {H : Heap} {locs : List Loc} {ls : Array Slot} (hP : va_P D vwCl (stW cs x h q t y f aL aT a0 a1 a2 a3 fL fT f0 f1 f2 f3) H) (hD : va_D (fun q : Nat => s.heap.size ≤ q) (stW cs x h q t y f aL aT a0 a1 a2 a3 fL fT f0 f1 f2 f3)) (hS : va_S (fun q : Nat => s.heap.size ≤ q) s.heap H locs) (hl : lv_has ls 9 [(1, .ref x), (0, .ref bs)]) : W p l e room_1 s m #[Value.ref bs] below meth c H locs 89 1725 (lw_Z below #[Value.ref bs] s) (F0 m 8 ls []) := by
  obtain ⟨hx, hb, hr, hml, hown, hts, hX, hbl, hlocks, hgv⟩ := C0
  obtain ⟨ad, hok, hfr, e0, hP2⟩ := world0 hln hfs hP hD
  have hAf : ∀ z : Nat, Afr ad s.heap.size z → s.heap.size ≤ z := fun z hz => by
    rcases hz with ⟨w, hw, rfl⟩ | hz
    · exact hfr w hw
    · exact hz
  have C : Cx p s m #[.ref bs] meth c code 9 ret RL lw_tbl := ⟨hx, hb, hml, hr, hown, hts, hlocks⟩
  have hXS := pre_XS hts hgv (Afr ad s.heap.size) (fun a ha hz => absurd (hAf a hz) (Nat.not_le.mpr ha))
  have E : LX p l s m meth c bs L xs D cs ad := ⟨C, ⟨K, hok, pre_NW hts⟩, ⟨hXS.1, hXS.2, pre_SK hts hgv, pre_TW hts⟩, pre_NC hgv, pre_YC hts, hX, hbl, fun hz => absurd (hAf _ hz) (Nat.not_le.mpr hbl), hL, hfl⟩
  have hS2 : va_S (Afr ad s.heap.size) s.heap H locs := ⟨hS.1, fun z h1 _ => hS.2.1 z h1 (Nat.not_le.mpr h1), fun z hz => Or.inr (hS.2.2 z hz)⟩
  rw [← e0] at hl
  clear hS hP hD
  have hS := hS2
  have hP := hP2
  clear hS2 hP2
  obtain ⟨C, G, X, N, Y, hX, hbl, hbA, hL, hfl⟩ := id E
  have hSC := SS0 FQ FQ0
  have eu : fw_undo (fun _ _ _ => 0) (fun _ _ => 0) = some (-5000002, (fun _ _ _ => 0), (fun _ _ => 0)) := by
    unfold fw_undo
    rw [a_und0 hSC, fwt_r, if_pos rfl]
  have hr1 : (89 + 200 ≤ room_1.cells ∧ 1725 + 2000 ≤ room_1.slots) := ⟨Nat.le_of_ble_eq_true rfl, Nat.le_of_ble_eq_true rfl⟩
  refine lv_aload_n C.1 C.2.1 dL_law_8 rfl (lv_at hl 0 rfl) ?_
  refine k_callSWi (r := (-5000002)) (w' := wA cs ad (fun _ _ _ => 0) (fun _ _ => 0) TZ) C G X N Y hP hS (m_L_undo l hfl G.2.1 _ eu) (vx_cwSW 1 C.2.2.2.2.2.1 (lwG_up wl_undo) rfl rfl rfl (by decide +kernel) ⟨Nat.le_of_ble_eq_true rfl, Nat.le_of_ble_eq_true rfl⟩) (As := [.ref (ad 0)]) rfl hl.1 rfl (Nat.le_of_ble_eq_true rfl) dL_law_9 ⟨by omega, by omega⟩ (fun H locs hP hS => ?_)
  refine k_ldci C G (List.mem_filter.mp lk_20).1 dL_law_12 ?_
  refine lv_icmp_ne (tgt := 35) C.1 C.2.1 dL_law_14 (by decide) (fun z => absurd z (fun w => w rfl)) (fun _ => ?_)
  refine lv_aload_n C.1 C.2.1 dL_law_17 rfl (lv_at hl 0 rfl) ?_
  refine k_callSPi (r := 1) (w' := wA cs ad (fun _ _ _ => 0) (fun _ _ => 0) TZ) C G X N Y hP hS (m_L_refused l hfl G.2.1 _ (rf_all (TT := TZ) hSC)) (va_cwS 1 C.2.2.2.2.2.1 (lwG_up wl_refused) rfl rfl rfl (by decide +kernel) ⟨Nat.le_of_ble_eq_true rfl, Nat.le_of_ble_eq_true rfl⟩) (As := [.ref (ad 0)]) rfl hl.1 rfl (Nat.le_of_ble_eq_true rfl) dL_law_18 ⟨by omega, by omega⟩ (fun H locs hP hS => ?_)
  refine lv_if_eq (tgt := 35) C.1 C.2.1 dL_law_21 (by decide) (fun z => absurd z (by decide)) (fun _ => ?_)
  refine lv_aload_n C.1 C.2.1 dL_law_24 rfl (lv_at hl 0 rfl) ?_
  refine k_callSPi (r := 1) (w' := wA cs ad (fun _ _ _ => 0) (fun _ _ => 0) TZ) C G X N Y hP hS (m_L_areFit l hfl G.2.1 _ (ft_all hSC)) (va_cwS 1 C.2.2.2.2.2.1 (lwG_up wl_areFit) rfl rfl rfl (by decide +kernel) ⟨Nat.le_of_ble_eq_true rfl, Nat.le_of_ble_eq_true rfl⟩) (As := [.ref (ad 0)]) rfl hl.1 rfl (Nat.le_of_ble_eq_true rfl) dL_law_25 ⟨by omega, by omega⟩ (fun H locs hP hS => ?_)
  refine lv_if_eq (tgt := 35) C.1 C.2.1 dL_law_28 (by decide) (fun z => absurd z (by decide)) (fun _ => ?_)
  refine lv_iconst (v := 1) C.1 C.2.1 dL_law_31 (by decide) ?_
  refine lv_goto (tgt := 36) C.1 C.2.1 dL_law_32 (by decide) ?_
  refine lv_istore_n (lv' := [(2, .int 1), (1, .ref (ad 0)), (0, .ref bs)]) C.1 C.2.1 dL_law_36 rfl hl (by decide) rfl (fun ls hl => ?_)
  refine lv_iconst (v := 0) C.1 C.2.1 dL_law_37 (by decide) ?_
  refine lv_istore_n (lv' := [(3, .int 0), (2, .int 1), (1, .ref (ad 0)), (0, .ref bs)]) C.1 C.2.1 dL_law_38 rfl hl (by decide) rfl (fun ls hl => ?_)
  exact W.widen (k := 200 + 55 * 0) (n := 2500 + 330 * 0) (by omega) (by omega) (law_loop (c0 := 200) (s0 := 2500) E ⟨Nat.le_of_ble_eq_true rfl, Nat.le_of_ble_eq_true rfl⟩ (fun k n H locs ls hk hn hS => va_forget (fun z hz => hAf _ (hS.2.2 z hz)) (W.widen (k := 600086) (n := 7301442) (by omega) (by omega) (lw_ret hx hb hr hlocks dL_law_246))) 40 0 _ _ _ _ _ H locs ls (by omega) hSC (by show 0 ≤ 90 * 0; omega) hP hS (lv_sub hl [3, 2, 1, 0] rfl))
theorem st_flags (l : Launch) (h : l.flags = flags0) : l.stackTraces = false := by
  unfold Launch.stackTraces
  rw [h]
  decide +kernel
set_option maxRecDepth 100000 in
set_option maxHeartbeats 4000000 in
theorem whole_start {p : Program} {e : Env} {s : State} {m : MethodId} {below : List Frame} {meth : Method} {c : Code} (l : Launch) (hflags : l.flags = flags0) {b L : Nat} {xs : Nat → Int32} (hL : L ≤ 260) (C0 : lw_At p s m meth c b L xs) : W p l e room_1 s m #[Value.ref b] below meth c s.heap [] 0 0 (lw_Z below #[Value.ref b] s) (entryFrame m ([Value.ref b] : List Value).toArray 9) := by
  obtain ⟨hx, hb, hr, hml, hown, hts, hX, hbl, hlocks, hgv⟩ := id C0
  have C : Cx p s m #[.ref b] meth c code 9 ret RL lw_tbl := ⟨hx, hb, hml, hr, hown, hts, hlocks⟩
  obtain ⟨D, cs, K⟩ := pre_K hts
  have N := pre_NW hts
  have O := pre_AO hts
  have hA : ∀ q : Nat, s.heap.size ≤ q → (fun q : Nat => s.heap.size ≤ q) q := fun _ h => h
  have hS : va_S (fun q : Nat => s.heap.size ≤ q) s.heap s.heap [] := va_S.rf
  have hP : va_P D vwCl [] s.heap := fun k q h => by simp at h
  have hD : va_D (fun q : Nat => s.heap.size ≤ q) [] := ⟨fun i j p q h => by simp at h, fun k q h => by simp at h⟩
  have hl := lv_entry ([.ref b]) (n := 9) (Nat.le_of_ble_eq_true rfl)
  rw [lg_entry_eq]
  generalize (lg_sl ([.ref b]) ++ List.replicate (9 - (lg_sl ([.ref b])).length) Slot.unset).toArray = ls at hl ⊢
  have hl : lv_has ls 9 [(0, .ref b)] := hl
  refine k_newC (ci := 5) (fs := [.null, .null, .null, .null]) C K hP hD hS hA inX5 tyX5_ok (List.mem_of_getElem? (i := 25) (by decide +kernel)) (List.mem_of_getElem? (i := 26) (by decide +kernel)) (List.mem_of_getElem? (i := 11) (by decide +kernel)) rfl (fun j hj => by rcases (show j = 0 ∨ j = 1 ∨ j = 2 ∨ j = 3 by omega) with rfl | rfl | rfl | rfl <;> rfl) (Nat.le_of_ble_eq_true rfl) (Nat.le_of_ble_eq_true rfl) dL_law_0 (fun x H hP hD hS => ?_)
  refine lv_dup hx hb dL_law_3 rfl ?_
  refine k_ctI C K N O hP hD hS hA (m_X5_init l x H.size) (cwI 0 hts (lwG_up wg_X5_init) rfl rfl rfl (hts _ (List.mem_of_getElem? (i := 11) (by decide +kernel))) (hts (.methodLink RL 151 yX5_init) (List.mem_of_getElem? (i := 27) (by decide +kernel))) (hts (.instanceMethod yX5_init) (List.mem_of_getElem? (i := 28) (by decide +kernel))) rfl (by decide +kernel) ⟨Nat.le_of_ble_eq_true rfl, Nat.le_of_ble_eq_true rfl⟩) hl.1 (Nat.le_of_ble_eq_true rfl) dL_law_4 ⟨Nat.le_of_ble_eq_true rfl, Nat.le_of_ble_eq_true rfl⟩ (fun w1 H locs hB hP hD hS => ?_)
  obtain ⟨h, q, t, y, f, aL, aT, a0, a1, a2, a3, fL, fT, f0, f1, f2, f3, hln, hfs, rfl⟩ := hB
  refine lv_astore_n (lv' := [(1, .ref x), (0, .ref b)]) hx hb dL_law_7 rfl hl (by decide) rfl (fun ls hl => ?_)
  exact start_8 l (st_flags l hflags) hL C0 K hln hfs (h := h) (q := q) (t := t) (y := y) (x := x) hP hD hS hl
