/-! THE LAW: its start -/
def R_law : String := "LineBuffersLaw"
def lw_P (b : Addr) (xs : List Int32) (args : Array Value) (s : State) : Prop := args = #[.ref b] ∧ s.IntsAt b xs ∧ xs.length ≤ 3072 ∧ (Jvm.Cond.and given_1 narrow_1).before args s = true
/-- what a walk over the start with the record d0 says of its end, said of the start itself -/
theorem lw_closed {s t : State} {o : Outcome} {d0 : Drawn} {L : List Loc} {k n : Nat} (hd0 : s.drawn.sameBut d0 lw_cs) (hv : ∃ v, o = .returned v) (hW : (s.setDrawn d0).WarmedH t.vm) (hs : (s.setDrawn d0).sameButNew ({ t with vm := s.vm } : State) L k n) : State.butDraws s t lw_cs (fun t1 => Framed s o t1 L k n) := by
  have h2 : t.drawn = d0 := congrArg State.drawn hs.1
  refine ⟨⟨hv, hW, State.sameButNew.setDrawn hs s.drawn⟩, ?_, by decide⟩
  rw [h2]
  exact hd0
def lw_Q (_ : Array Value) (s : State) (o : Outcome) (t : State) : Prop := o = .returned (some (.int 1)) ∧ State.butDraws s t lw_cs (fun t1 => Framed s o t1 [] 601024 7293034)
def lw_Z (below : List Frame) (a : Array Value) (s : State) : State → Prop := fun t => ∃ o, t.status = .running ∧ Ended t below o ∧ lw_Q a s o t
/-- the law's own end, with 1 on the stack, nothing written that was there before, its room as the claim has it; d0: the record of draws at this point (at the entry s.drawn: begin with 'refine W.base ?_' and 'have hd0 := Drawn.sameBut.refl s.drawn lw_cs') -/
theorem lw_ret {p : Program} {l : Launch} {e : Env} {s : State} {m : MethodId} {below : List Frame} {meth : Method} {c : Code} {b : Nat} {d0 : Drawn} (hd0 : s.drawn.sameBut d0 lw_cs) (hx : p.tables.exec = Jvm.exec) (hb : c.code = code) (hr : meth.sig.returnType = ret) (hlocks : meth.locks = false) {pc : Nat} {H : Heap} {ls : Array Slot} (hdg : decode code pc = .ok (.ireturn, 1)) : W p l e room_1 (s.setDrawn d0) m #[Value.ref b] below meth c H [] 601024 7293034 (lw_Z below #[Value.ref b] s) (F0 m pc ls [.int 1]) := by
  intro T hT X
  obtain ⟨fs, hret, hrun, hended, hW, hframe⟩ := X.leave (v := some (.int 1)) (hlocks := hlocks) (fun h => by rw [hr] at h; cases h)
  have hmeth' : T.vm.method? m = some meth := X.method'
  refine ⟨T.setFrames fs, ?_, .returned (some (.int 1)), hrun, hended, rfl, lw_closed hd0 ⟨_, rfl⟩ hW hframe⟩
  jvm_step X.here [X.here.top, hx, hb, hdg, hmeth', hr, ret, narrow_b1]
  (try refine ⟨rfl, ?_⟩); (try refine ⟨rfl, ?_⟩)
  first | (intro acts; rw [hret _ acts rfl rfl rfl]) | rw [hret _ _ rfl rfl rfl]
  exact Steps.refl _
/-- what holds at the law's entry: the machine, the code, the tables' words (any of lw_tbl by 'hts w (by decide +kernel)'), the script of L ints xs at the cell b, what the Statement gives of the start (any of its parts by flat_of_before) -/
def lw_At (p : Program) (s : State) (m : MethodId) (meth : Method) (c : Code) (b L : Nat) (xs : Nat → Int32) : Prop :=
  p.tables.exec = Jvm.exec ∧ c.code = code ∧ meth.sig.returnType = ret ∧ c.maxLocals = 9 ∧ s.vm.findClass R_law = some m.cls ∧ (∀ w ∈ lw_tbl, w.before #[Value.ref b] s = true) ∧ va_X b L xs s s.heap ∧ b < s.heap.size ∧ meth.locks = false ∧ (Jvm.Cond.and given_1 narrow_1).before #[Value.ref b] s = true

abbrev nrT : Jvm.Cond := Jvm.Cond.and given_1 narrow_1
theorem nr_c : ∀ w ∈ ([.not (.castable (exN 1) (exN 2)), .not (.castable (exN 1) (exN 3)), .not (.castable (exN 2) (exN 1)), .not (.castable (exN 2) (exN 3)), .not (.castable (exN 3) (exN 1)), .not (.castable (exN 3) (exN 2))] : List Cond), w ∈ flatC nrT := in_idx [21, 30, 12, 31, 13, 22] (by decide +kernel)
theorem nr_u : ∀ w ∈ ([.isRef (.static Bundle.tN "UNASSIGNED_STACK" Bundle.steD), .isRef (.static Bundle.tN "SUPPRESSED_SENTINEL" Bundle.listD)] : List Cond), w ∈ flatC nrT := in_idx [4, 5] (by decide +kernel)
set_option maxRecDepth 20000 in
theorem nr_s : ∀ w ∈ skL.map (fun q => Cond.exactly (.string RX5 q.1) "java/lang/String"), w ∈ flatC nrT := in_idx [33, 76, 138, 178, 214, 269, 307, 358, 401, 469, 547, 598, 638, 679, 725, 762, 108, 505, 435] (by decide +kernel)
set_option maxRecDepth 20000 in
theorem tb_s : ∀ w ∈ skL.map (fun q => Cond.stringRef RX5 q.1 q.2), w ∈ lw_tbl := in_idx [362, 398, 434, 443, 451, 452, 462, 463, 489, 502, 508, 640, 648, 657, 658, 670, 427, 507, 493] (by decide +kernel)
set_option maxRecDepth 20000 in
theorem tb_f : ∀ w ∈ nwF.map (fun q => Cond.fieldLinkNest q.1 q.2.1 q.2.2.1 q.2.2.2.1 q.2.2.2.2 "LineBuffers"), w ∈ lw_tbl := in_idx [89, 90, 105, 107, 109, 110, 111, 134, 150] (by decide +kernel)
set_option maxRecDepth 20000 in
theorem tb_m : ∀ w ∈ nwM.map (fun q => Cond.methodLinkNest q.1 q.2.1 q.2.2 "LineBuffers"), w ∈ lw_tbl := in_idx [73, 81, 130, 144, 271] (by decide +kernel)
theorem pre_NW {args : Array Value} {s : State} (hts : ∀ w ∈ lw_tbl, w.before args s = true) : NW s :=
  ⟨fun q hq => va_Nw.of rfl (hts _ (tb_f _ (List.mem_map_of_mem hq))), fun q hq => va_Nw.of rfl (hts _ (tb_m _ (List.mem_map_of_mem hq)))⟩
theorem pre_SK {args : Array Value} {s : State} (hts : ∀ w ∈ lw_tbl, w.before args s = true) (hgv : nrT.before args s = true) : SK s := by
  intro q hq
  have h1 := hts _ (tb_s _ (List.mem_map_of_mem hq))
  have h2 := flat_of_before _ hgv _ (nr_s _ (List.mem_map_of_mem hq))
  obtain ⟨a, -, -, -, ha, -⟩ := Cond.exactly_spec h2
  exact ⟨a, vk_R.of h1 ha⟩
theorem pre_TW {args : Array Value} {s : State} (hts : ∀ w ∈ lw_tbl, w.before args s = true) : TW s := fun w hw => va_tabs (twL_tabs w hw) rfl (hts w (List.mem_append_right _ (twL_in w hw)))
theorem pre_YC {args : Array Value} {s : State} (hts : ∀ w ∈ lw_tbl, w.before args s = true) : YC s := fun w hw => va_tabs (ycL_tabs w hw) rfl (hts w (List.mem_append_right _ (ycL_in w hw)))
theorem pre_NC {args : Array Value} {s : State} (hgv : nrT.before args s = true) : NC s := by
  have h := fun w hw => flat_of_before _ hgv w (nr_c w hw)
  intro a b h1 h2 h3 h4 h5
  rcases (show a = 1 ∨ a = 2 ∨ a = 3 by omega) with rfl | rfl | rfl
  · rcases (show b = 1 ∨ b = 2 ∨ b = 3 by omega) with rfl | rfl | rfl
    · exact absurd rfl h5
    · exact va_Nc.of (h _ (List.mem_of_getElem? (i := 0) rfl))
    · exact va_Nc.of (h _ (List.mem_of_getElem? (i := 1) rfl))
  · rcases (show b = 1 ∨ b = 2 ∨ b = 3 by omega) with rfl | rfl | rfl
    · exact va_Nc.of (h _ (List.mem_of_getElem? (i := 2) rfl))
    · exact absurd rfl h5
    · exact va_Nc.of (h _ (List.mem_of_getElem? (i := 3) rfl))
  · rcases (show b = 1 ∨ b = 2 ∨ b = 3 by omega) with rfl | rfl | rfl
    · exact va_Nc.of (h _ (List.mem_of_getElem? (i := 4) rfl))
    · exact va_Nc.of (h _ (List.mem_of_getElem? (i := 5) rfl))
    · exact absurd rfl h5
theorem pre_XS {args : Array Value} {s : State} (hts : ∀ w ∈ lw_tbl, w.before args s = true) (hgv : nrT.before args s = true) (A : Nat → Prop) (hA : ∀ a : Nat, a < s.heap.size → ¬ A a) : vx_Zq Bundle.tN "UNASSIGNED_STACK" Bundle.steD A s s.heap ∧ vx_Zq Bundle.tN "SUPPRESSED_SENTINEL" Bundle.listD A s s.heap :=
  ⟨vx_Zqof (hts _ (List.mem_of_getElem? (i := 348) (by decide +kernel))) (hts _ (List.mem_of_getElem? (i := 54) (by decide +kernel))) (flat_of_before _ hgv _ (nr_u _ (List.mem_of_getElem? (i := 0) rfl))) hA, vx_Zqof (hts _ (List.mem_of_getElem? (i := 350) (by decide +kernel))) (hts _ (List.mem_of_getElem? (i := 54) (by decide +kernel))) (flat_of_before _ hgv _ (nr_u _ (List.mem_of_getElem? (i := 1) rfl))) hA⟩
theorem pre_AO {args : Array Value} {s : State} (hts : ∀ w ∈ lw_tbl, w.before args s = true) : AOx s := ⟨va_AO.of (hts (.arrayOver (.object RX2)) (List.mem_of_getElem? (i := 129) (by decide +kernel))), va_AOA.of (hts (.arrayOver (.array .int)) (List.mem_of_getElem? (i := 78) (by decide +kernel)))⟩
theorem pre_K {args : Array Value} {s : State} (hts : ∀ w ∈ lw_tbl, w.before args s = true) : ∃ (D : va_G) (cs : Nat → ClassId), va_K D vwCl (tyA cs) s := by
  obtain ⟨c0, i0, k0⟩ := u_known (C := RX0) (T := TX0) (N := 1) (n := 1) hts inX0 (hts (.instantiable RX0 1) (List.mem_of_getElem? (i := 465) (by decide +kernel)))
  obtain ⟨c1, i1, k1⟩ := u_known (C := RX1) (T := TX1) (N := 3) (n := 3) hts inX1 (hts (.instantiable RX1 3) (List.mem_of_getElem? (i := 123) (by decide +kernel)))
  obtain ⟨c2, i2, k2⟩ := u_known (C := RX2) (T := TX2) (N := 4) (n := 4) hts inX2 (hts (.instantiable RX2 4) (List.mem_of_getElem? (i := 72) (by decide +kernel)))
  obtain ⟨c3, i3, k3⟩ := u_known (C := RX3) (T := TX3) (N := 4) (n := 4) hts inX3 (hts (.instantiable RX3 4) (List.mem_of_getElem? (i := 143) (by decide +kernel)))
  obtain ⟨c4, i4, k4⟩ := u_known (C := RX4) (T := TX4) (N := 5) (n := 5) hts inX4 (hts (.instantiable RX4 5) (List.mem_of_getElem? (i := 80) (by decide +kernel)))
  obtain ⟨c5, i5, k5⟩ := u_known (C := RX5) (T := TX5) (N := 4) (n := 4) hts inX5 (hts (.instantiable RX5 4) (List.mem_of_getElem? (i := 64) (by decide +kernel)))
  obtain ⟨c6, i6, k6⟩ := u_known (C := RX6) (T := TX6) (N := 12) (n := 12) hts inX6 (hts (.instantiable RX6 12) (List.mem_of_getElem? (i := 676) (by decide +kernel)))
  obtain ⟨D, hKc⟩ : ∃ D : va_G, ∀ (k : Nat) (q : vw_C), vwCl[k]? = some q → u_Kn s q.1 q.2.1 q.2.2 (D.1 k) (D.2 k) := by
    refine ⟨(fun k => [c0, c1, c2, c3, c4, c5, c6].getD k c0, fun k => [i0, i1, i2, i3, i4, i5, i6].getD k i0), ?_⟩
    intro k q hq
    match k, hq with
    | 0, hq => cases hq; exact k0
    | 1, hq => cases hq; exact k1
    | 2, hq => cases hq; exact k2
    | 3, hq => cases hq; exact k3
    | 4, hq => cases hq; exact k4
    | 5, hq => cases hq; exact k5
    | 6, hq => cases hq; exact k6
    | k + 7, hq => simp [vwCl] at hq
  obtain ⟨ci, ki, pi, hi1, hi2, hi3⟩ := Cond.arrayClass_spec (hts (.arrayClass .int) (List.mem_of_getElem? (i := 103) (by decide +kernel)))
  obtain ⟨cl, kl, pl, hl1, hl2, hl3⟩ := Cond.arrayClass_spec (hts (.arrayClass .long) (List.mem_of_getElem? (i := 987) (by decide +kernel)))
  obtain ⟨cd, kd, pd, hd1, hd2, hd3⟩ := Cond.arrayClass_spec (hts (.arrayClass .double) (List.mem_of_getElem? (i := 988) (by decide +kernel)))
  obtain ⟨cmp, cq, kq, q1, q2, q3, q4, q5⟩ := Cond.arrayOver_spec (pre_AO hts).1
  obtain ⟨ca, pa, ka, a1, a2, a3⟩ := va_AOA.spec (pre_AO hts).2
  refine ⟨D, fun k => [ci, cq, ca, cl, cd].getD k ci, hKc, fun k q hq => ?_⟩
  match k, hq with
  | 0, hq => cases hq; exact ⟨fun n z => ⟨(fun k h => by cases h), ki, hi2, pi, hi3⟩, hi1⟩
  | 1, hq => cases hq; exact ⟨fun n z => ⟨(fun k h => by cases h), kq, q3, cmp, q4⟩, kq, cmp, q3, q4, q1, q5⟩
  | 2, hq => cases hq; exact ⟨fun n z => ⟨(fun k h => by cases h), ka, a1, pa, a2⟩, a3⟩
  | 3, hq => cases hq; exact ⟨fun n z => ⟨(fun k h => by cases h), kl, hl2, pl, hl3⟩, hl1⟩
  | 4, hq => cases hq; exact ⟨fun n z => ⟨(fun k h => by cases h), kd, hd2, pd, hd3⟩, hd1⟩
  | k + 5, hq => simp at hq
section ST
variable {p : Program} {l : Launch} {e : Env} {R : Room} {s : State} {m : MethodId} {args : Array Value} {below : List Frame} {meth : Method} {c : Code} {H : Heap} {locs : List Loc} {cells slots : Nat} {Q : State → Prop}
variable {cc : ByteArray} {pc : Nat} {ls : Array Slot} {rest : List Value} {nL : Nat} {ret : Option FieldType} {own : String} {ws : List Cond} {D : va_G} {cs : Nat → ClassId} {A : Nat → Prop}
theorem k_newaL (C : Cx p s m args meth c cc nL ret own ws) (hK : va_K D vwCl (tyA cs) s) (w1 : Cond.arrayClass .long ∈ ws) {w : va_W} (hP : va_P D vwCl w H) (hD : va_D A w) (hS : va_S A s.heap H locs) (hA : ∀ q : Nat, s.heap.size ≤ q → A q) (hcells : cells + 1 ≤ R.cells) (hslots : slots + 1 ≤ R.slots) (d : decode cc pc = .ok (.newarray .long, 2))
    (kk : ∀ (q : Nat) (H1 : Heap), va_P D vwCl (w ++ [(q, .inl (cs 3, 1, .inr (.inl (fun _ => 0))))]) H1 → va_D A (w ++ [(q, .inl (cs 3, 1, .inr (.inl (fun _ => 0))))]) → va_S A s.heap H1 locs → W p l e R s m args below meth c H1 locs (cells + 1) (slots + 1) Q (F0 m (pc + 2) ls (.ref q :: rest))) : W p l e R s m args below meth c H locs cells slots Q (F0 m pc ls (.int 1 :: rest)) := by
  obtain ⟨hx, hb, hml, hr, hown, hts, hlk⟩ := C
  refine va_newa (atype := .long) (ty := .long) (a0 := (1, .inr (.inl (fun _ => 0)))) hx hb (hts _ w1) rfl hK hP hD hS hA (fun _ => rfl) (by decide) rfl (Nat.le_of_ble_eq_true rfl) hcells hslots d (fun q cA H1 hK1 hP1 hD1 hS1 => ?_)
  have e1 : s.vm.findClass ("[" ++ FieldType.long.toString) = some (cs 3) := (hK.2 3 _ rfl).2
  have e2 : s.vm.findClass ("[" ++ FieldType.long.toString) = some cA := (hK1.2 5 _ rfl).2
  have ec : cA = cs 3 := Option.some.inj (e2.symm.trans e1)
  subst ec
  exact kk q H1 hP1 hD1 hS1
theorem k_newaD (C : Cx p s m args meth c cc nL ret own ws) (hK : va_K D vwCl (tyA cs) s) (w1 : Cond.arrayClass .double ∈ ws) {w : va_W} (hP : va_P D vwCl w H) (hD : va_D A w) (hS : va_S A s.heap H locs) (hA : ∀ q : Nat, s.heap.size ≤ q → A q) (hcells : cells + 1 ≤ R.cells) (hslots : slots + 1 ≤ R.slots) (d : decode cc pc = .ok (.newarray .double, 2))
    (kk : ∀ (q : Nat) (H1 : Heap), va_P D vwCl (w ++ [(q, .inl (cs 4, 1, .inr (.inr (.inr (.inl (fun _ => 0))))))]) H1 → va_D A (w ++ [(q, .inl (cs 4, 1, .inr (.inr (.inr (.inl (fun _ => 0))))))]) → va_S A s.heap H1 locs → W p l e R s m args below meth c H1 locs (cells + 1) (slots + 1) Q (F0 m (pc + 2) ls (.ref q :: rest))) : W p l e R s m args below meth c H locs cells slots Q (F0 m pc ls (.int 1 :: rest)) := by
  obtain ⟨hx, hb, hml, hr, hown, hts, hlk⟩ := C
  refine va_newa (atype := .double) (ty := .double) (a0 := (1, .inr (.inr (.inr (.inl (fun _ => 0)))))) hx hb (hts _ w1) rfl hK hP hD hS hA (fun _ => rfl) (by decide) rfl (Nat.le_of_ble_eq_true rfl) hcells hslots d (fun q cA H1 hK1 hP1 hD1 hS1 => ?_)
  have e1 : s.vm.findClass ("[" ++ FieldType.double.toString) = some (cs 4) := (hK.2 4 _ rfl).2
  have e2 : s.vm.findClass ("[" ++ FieldType.double.toString) = some cA := (hK1.2 5 _ rfl).2
  have ec : cA = cs 4 := Option.some.inj (e2.symm.trans e1)
  subst ec
  exact kk q H1 hP1 hD1 hS1
end ST
set_option maxRecDepth 100000 in
set_option maxHeartbeats 4000000 in
/-- from the loop's head on -/
theorem start_28 {p : Program} {e : Env} {s : State} {m : MethodId} {below : List Frame} {meth : Method} {c : Code} (l : Launch) (hfl : l.stackTraces = false) {bs L : Nat} {xs : Nat → Int32} (hL : L ≤ 3072) (C0 : lw_At p s m meth c bs L xs) {D : va_G} {cs : Nat → ClassId} (K : va_K D vwCl (tyA cs) s) {x h q t y : Nat} {f : Nat → Option Nat} {aL aT a0 a1 a2 a3 : Nat → Nat} {fL fT f0 f1 f2 f3 : Nat → Option Nat} {g ga gb gd gf gg qo qd : Nat} (hln : lnO aL fL ∧ lnO aT fT ∧ lnO a0 f0 ∧ lnO a1 f1 ∧ lnO a2 f2 ∧ lnO a3 f3) (hfs : f 0 = some (a0 0) ∧ f 1 = some (a1 0) ∧ f 2 = some (a2 0) ∧ f 3 = some (a3 0)) {H : Heap} {locs : List Loc} {ls : Array Slot} (hP : va_P D vwCl (stW cs x h q t y f aL aT a0 a1 a2 a3 fL fT f0 f1 f2 f3 g ga gb gd gf gg qo qd) H) (hD : va_D (fun q : Nat => s.heap.size ≤ q) (stW cs x h q t y f aL aT a0 a1 a2 a3 fL fT f0 f1 f2 f3 g ga gb gd gf gg qo qd)) (hS : va_S (fun q : Nat => s.heap.size ≤ q) s.heap H locs) (hl : lv_has ls 9 [(0, .ref bs), (1, .ref x), (2, .ref g), (3, .ref qo), (4, .ref qd), (5, .int 0)]) : W p l e room_1 s m #[Value.ref bs] below meth c H locs 97 13366 (lw_Z below #[Value.ref bs] s) (F0 m 28 ls []) := by
  obtain ⟨hx, hb, hr, hml, hown, hts, hX, hbl, hlocks, hgv⟩ := C0
  obtain ⟨ad, hok, hfr, e0, e89, e95, e96, hP2⟩ := world0 hln hfs hP hD
  have hAf : ∀ z : Nat, Afr ad s.heap.size z → s.heap.size ≤ z := fun z hz => by
    rcases hz with ⟨w, hw, rfl⟩ | hz
    · exact hfr w hw
    · exact hz
  have C : Cx p s m #[.ref bs] meth c code 9 ret RL lw_tbl := ⟨hx, hb, hml, hr, hown, hts, hlocks⟩
  have hXS := pre_XS hts hgv (Afr ad s.heap.size) (fun a ha hz => absurd (hAf a hz) (Nat.not_le.mpr ha))
  have E : LX p l s m meth c bs L xs D cs ad := ⟨C, ⟨K, hok, pre_NW hts⟩, ⟨hXS.1, hXS.2, pre_SK hts hgv, pre_TW hts⟩, pre_NC hgv, pre_YC hts, hX, hbl, fun hz => absurd (hAf _ hz) (Nat.not_le.mpr hbl), hL, hfl⟩
  have hS2 : va_S (Afr ad s.heap.size) s.heap H locs := ⟨hS.1, fun z h1 _ => hS.2.1 z h1 (Nat.not_le.mpr h1), fun z hz => Or.inr (hS.2.2 z hz)⟩
  have hl2 : lv_has ls 9 (lvL bs ad (nI (6 * 0))) := by
    unfold lvL
    rw [e0, e89, e95, e96]
    exact hl
  exact law_loop (c0 := 97) (s0 := 13366) E ⟨Nat.le_of_ble_eq_true rfl, Nat.le_of_ble_eq_true rfl⟩ (fun k n H locs ls hk hn hS => va_forget (fun z hz => hAf _ (hS.2.2 z hz)) (W.widen (k := 601024) (n := 7293034) (by omega) (by omega) (W.base (lw_ret (Drawn.sameBut.refl s.drawn lw_cs) hx hb hr hlocks dL_law_1650)))) 512 0 _ _ _ _ _ _ _ _ H locs ls (by omega) (by omega) SS0 hP2 hS2 hl2
theorem st_flags (l : Launch) (h : l.flags = flags0) : l.stackTraces = false := by
  unfold Launch.stackTraces
  rw [h]
  decide +kernel
set_option maxRecDepth 100000 in
set_option maxHeartbeats 4000000 in
theorem whole_start {p : Program} {e : Env} {s : State} {m : MethodId} {below : List Frame} {meth : Method} {c : Code} (l : Launch) (hflags : l.flags = flags0) {b L : Nat} {xs : Nat → Int32} (hL : L ≤ 3072) (C0 : lw_At p s m meth c b L xs) : W p l e room_1 s m #[Value.ref b] below meth c s.heap [] 0 0 (lw_Z below #[Value.ref b] s) (entryFrame m ([Value.ref b] : List Value).toArray 9) := by
  obtain ⟨hx, hb, hr, hml, hown, hts, hX, hbl, hlocks, hgv⟩ := id C0
  have C : Cx p s m #[.ref b] meth c code 9 ret RL lw_tbl := ⟨hx, hb, hml, hr, hown, hts, hlocks⟩
  obtain ⟨D, cs, K⟩ := pre_K hts
  have N := pre_NW hts
  have O := pre_AO hts
  have hA : ∀ q : Nat, s.heap.size ≤ q → (fun q : Nat => s.heap.size ≤ q) q := fun _ h => h
  have hS : va_S (fun q : Nat => s.heap.size ≤ q) s.heap s.heap [] := va_S.rf
  have hP : va_P D vwCl [] s.heap := fun k q h => by simp at h
  have hD : va_D (fun q : Nat => s.heap.size ≤ q) [] := ⟨fun i j p q h => by simp at h, fun k q h => by simp at h⟩
  have hl := lv_entry ([.ref b]) (n := 9) (Nat.le_of_ble_eq_true rfl)
  rw [lg_entry_eq]
  generalize (lg_sl ([.ref b]) ++ List.replicate (9 - (lg_sl ([.ref b])).length) Slot.unset).toArray = ls at hl ⊢
  have hl : lv_has ls 9 [(0, .ref b)] := hl
  refine k_newC (ci := 5) (fs := [.null, .null, .null, .null]) C K hP hD hS hA inX5 tyX5_ok (List.mem_of_getElem? (i := 63) (by decide +kernel)) (List.mem_of_getElem? (i := 64) (by decide +kernel)) (List.mem_of_getElem? (i := 48) (by decide +kernel)) rfl (fun j hj => by rcases (show j = 0 ∨ j = 1 ∨ j = 2 ∨ j = 3 by omega) with rfl | rfl | rfl | rfl <;> rfl) (Nat.le_of_ble_eq_true rfl) (Nat.le_of_ble_eq_true rfl) dL_law_0 (fun x H hP hD hS => ?_)
  refine lv_dup hx hb dL_law_3 rfl ?_
  refine k_ctI C K N O hP hD hS hA (m_X5_init l x H.size) (cwI 0 hts (lwG_up wg_X5_init) rfl rfl rfl (hts _ (List.mem_of_getElem? (i := 48) (by decide +kernel))) (hts (.methodLink RL 78 yX5_init) (List.mem_of_getElem? (i := 65) (by decide +kernel))) (hts (.instanceMethod yX5_init) (List.mem_of_getElem? (i := 66) (by decide +kernel))) rfl (by decide +kernel) ⟨Nat.le_of_ble_eq_true rfl, Nat.le_of_ble_eq_true rfl⟩) hl.1 (Nat.le_of_ble_eq_true rfl) dL_law_4 ⟨Nat.le_of_ble_eq_true rfl, Nat.le_of_ble_eq_true rfl⟩ (fun w1 H locs hB hP hD hS => ?_)
  obtain ⟨h, q, t, y, f, aL, aT, a0, a1, a2, a3, fL, fT, f0, f1, f2, f3, hln, hfs, rfl⟩ := hB
  refine lv_astore_n (lv' := [(1, .ref x), (0, .ref b)]) hx hb dL_law_7 rfl hl (by decide) rfl (fun ls hl => ?_)
  refine k_newC (ci := 6) (fs := [.null, .null, .null, .int 0, .int 0, .null, .int 0, .null, .long 0, .int 0, .int 0, .long 0]) C K hP hD hS hA inX6 tyX6_ok (List.mem_of_getElem? (i := 675) (by decide +kernel)) (List.mem_of_getElem? (i := 676) (by decide +kernel)) (List.mem_of_getElem? (i := 53) (by decide +kernel)) rfl (fun j hj => by rcases (show j = 0 ∨ j = 1 ∨ j = 2 ∨ j = 3 ∨ j = 4 ∨ j = 5 ∨ j = 6 ∨ j = 7 ∨ j = 8 ∨ j = 9 ∨ j = 10 ∨ j = 11 by omega) with rfl | rfl | rfl | rfl | rfl | rfl | rfl | rfl | rfl | rfl | rfl | rfl <;> rfl) (Nat.le_of_ble_eq_true rfl) (Nat.le_of_ble_eq_true rfl) dL_law_8 (fun g H hP hD hS => ?_)
  refine lv_dup hx hb dL_law_11 rfl ?_
  refine k_ctI C K N O hP hD hS hA (m_X6_init l g H.size) (cwI 0 hts (lwG_up wg_X6_init) rfl rfl rfl (hts _ (List.mem_of_getElem? (i := 53) (by decide +kernel))) (hts (.methodLink RL 81 yX6_init) (List.mem_of_getElem? (i := 677) (by decide +kernel))) (hts (.instanceMethod yX6_init) (List.mem_of_getElem? (i := 678) (by decide +kernel))) rfl (by decide +kernel) ⟨Nat.le_of_ble_eq_true rfl, Nat.le_of_ble_eq_true rfl⟩) hl.1 (Nat.le_of_ble_eq_true rfl) dL_law_12 ⟨Nat.le_of_ble_eq_true rfl, Nat.le_of_ble_eq_true rfl⟩ (fun w1 H locs hB hP hD hS => ?_)
  obtain ⟨ga, gb, gd, gf, gg, rfl⟩ := hB
  refine lv_astore_n (lv' := [(2, .ref g), (1, .ref x), (0, .ref b)]) hx hb dL_law_15 rfl hl (by decide) rfl (fun ls hl => ?_)
  refine lv_iconst (v := 1) hx hb dL_law_16 (by decide) ?_
  refine k_newaL C K (List.mem_of_getElem? (i := 987) (by decide +kernel)) hP hD hS hA (Nat.le_of_ble_eq_true rfl) (Nat.le_of_ble_eq_true rfl) dL_law_17 (fun qo H hP hD hS => ?_)
  refine lv_astore_n (lv' := [(3, .ref qo), (2, .ref g), (1, .ref x), (0, .ref b)]) hx hb dL_law_19 rfl hl (by decide) rfl (fun ls hl => ?_)
  refine lv_iconst (v := 1) hx hb dL_law_20 (by decide) ?_
  refine k_newaD C K (List.mem_of_getElem? (i := 988) (by decide +kernel)) hP hD hS hA (Nat.le_of_ble_eq_true rfl) (Nat.le_of_ble_eq_true rfl) dL_law_21 (fun qd H hP hD hS => ?_)
  refine lv_astore (lv' := [(4, .ref qd), (3, .ref qo), (2, .ref g), (1, .ref x), (0, .ref b)]) hx hb dL_law_23 hl (by decide) rfl (fun ls hl => ?_)
  refine lv_iconst (v := 0) hx hb dL_law_25 (by decide) ?_
  refine lv_istore (lv' := [(5, .int 0), (4, .ref qd), (3, .ref qo), (2, .ref g), (1, .ref x), (0, .ref b)]) hx hb dL_law_26 hl (by decide) rfl (fun ls hl => ?_)
  exact start_28 l (st_flags l hflags) hL C0 K hln hfs (h := h) (q := q) (t := t) (y := y) (x := x) (g := g) (ga := ga) (gb := gb) (gd := gd) (gf := gf) (gg := gg) (qo := qo) (qd := qd) hP hD hS (lv_sub hl [5, 4, 3, 2, 1, 0] rfl)
