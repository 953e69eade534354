/-! CONSTRUCTORS: rows -/
theorem va_AOA.moved {ty : FieldType} {u U : State} (hvm : u.vm.Alike U.vm) (h : va_AOA ty u) : va_AOA ty U := by
  have h0 : (Cond.arrayOver (.array ty)).before #[] (u.setVm U.vm) = true := by
    rw [Cond.arrayOver_setVmC hvm]
    exact h
  unfold Cond.before Cond.holds at h0
  unfold va_AOA Cond.before Cond.holds
  simp only [Cond.value] at h0 ⊢
  exact h0
theorem va_AOA.spec {ty : FieldType} {U : State} (h : va_AOA ty U) : ∃ (c comp : ClassId) (k : Class), U.vm.classes[c]? = some k ∧ k.kind = .array comp (.array ty) ∧ U.vm.findClass ("[" ++ (FieldType.array ty).toString) = some c := by
  unfold va_AOA Cond.before Cond.holds at h
  simp only [Cond.value] at h
  cases h1 : U.vm.findClass (FieldType.array ty).toString with
  | none =>
    rw [h1] at h
    simp at h
  | some comp =>
    rw [h1, Option.bind_some] at h
    generalize (U.vm.classes.findIdx? fun (x : Class) => match x.kind with | .array component _ => component == comp | _ => false) = o at h
    cases o with
    | none => simp at h
    | some c =>
      rw [Option.bind_some] at h
      cases h3 : U.vm.classes[c]? with
      | none =>
        rw [h3] at h
        simp at h
      | some k =>
        rw [h3, Option.map_some] at h
        cases hk : k.kind with
        | array c2 ty2 =>
          rw [hk] at h
          simp at h
          exact ⟨c, c2, k, h3, by rw [hk, h.1], h.2⟩
        | _ =>
          rw [hk] at h
          simp at h
def AOx (U : State) : Prop := va_AO RX2 U ∧ va_AOA .int U
theorem AOx.moved {u U : State} (hvm : u.vm.Alike U.vm) (h : AOx u) : AOx U := ⟨va_AO.moved hvm h.1, va_AOA.moved hvm h.2⟩
def PC (D : va_G) (cs : Nat → ClassId) (sz : Nat) (w : va_W) (av : List Value) : Array Value → State → Prop := va_Pc av (fun U => U.heap.size = sz ∧ va_P D vwCl w U.heap ∧ va_K D vwCl (tyA cs) U ∧ NW U ∧ AOx U)
theorem PC_blind {D : va_G} {cs : Nat → ClassId} {sz : Nat} {w : va_W} {av : List Value} : FrameBlind (PC D cs sz w av) := by
  intro a U g mk h
  obtain ⟨h1, h2, h3, h4, h5, h6⟩ := h
  exact ⟨h1, h2, h3, va_K.moved (u := U) (U := U.calling g mk a) (Vm.Alike.refl U.vm) h4, NW.same (u := U) (U := U.calling g mk a) rfl h5, AOx.moved (u := U) (U := U.calling g mk a) (Vm.Alike.refl U.vm) h6⟩
/-- what a constructor leaves -/
abbrev QC (D : va_G) (B : va_W → Prop) (x : Nat × va_E) (sz : Nat) : Array Value → State → Outcome → State → Prop := va_Qv (fun _ : Unit => True) (fun _ t => ∃ w1 : va_W, B w1 ∧ va_P D vwCl w1 t.heap ∧ va_D (va_A [x] sz) w1) (va_A [x] sz)
theorem j_last {D : va_G} {cl : List vw_C} {A0 : Nat → Prop} {w0 w1 : va_W} {x : Nat × va_E} {H H1 : Heap} (hP : va_P D cl (w0 ++ [x]) H) (hD : va_D A0 (w0 ++ [x])) (hk : ∀ q : Nat, q < H.size → ¬ va_A [x] H.size q → H1[q]? = H[q]?) (hF : ∀ q, va_A [x] H.size q → A0 q) (hP1 : va_P D cl w1 H1) (hD1 : va_D (va_A [x] H.size) w1) : va_P D cl (w0 ++ w1) H1 ∧ va_D A0 (w0 ++ w1) := by
  have hx : (w0 ++ [x])[w0.length]? = some x := by simp
  have h0 : ∀ (k : Nat) (q : Nat × va_E), w0[k]? = some q → (w0 ++ [x])[k]? = some q ∧ k < w0.length := fun k q hq => by
    have hl := (List.getElem?_eq_some_iff.mp hq).1
    exact ⟨by rw [List.getElem?_append_left hl]; exact hq, hl⟩
  have hap : ∀ (k : Nat) (q : Nat × va_E), w0[k]? = some q → q.1 < H.size ∧ ¬ va_A [x] H.size q.1 := fun k q hq => by
    obtain ⟨a1, a2⟩ := h0 k q hq
    have hlt := (hP k q a1).lt
    refine ⟨hlt, fun z => ?_⟩
    rcases z with ⟨j, e, hj⟩ | z
    · have hj0 : (q.1, e) = x := List.mem_singleton.mp (List.mem_of_getElem? hj)
      have := hD.1 k w0.length q x a1 hx (by rw [← hj0])
      omega
    · exact absurd z (Nat.not_le.mpr hlt)
  have hP0 : va_P D cl w0 H := fun k q hq => hP k q (h0 k q hq).1
  refine ⟨(hP0.kept (fun k q hq => hk q.1 (hap k q hq).1 (hap k q hq).2)).app hP1, va_D.app ⟨fun i j p q hi hj e => hD.1 i j p q (h0 i p hi).1 (h0 j q hj).1 e, fun k q hq => hD.2 k q (h0 k q hq).1⟩ (hD1.weaken (fun _ _ _ h => hF _ h)) (fun i j p q hi hj e => ?_)⟩
  exact (hap i p hi).2 (e ▸ hD1.2 j q hj)
theorem one_D {sz : Nat} {x : Nat × va_E} : va_D (va_A [x] sz) [x] := by
  refine ⟨fun i j p q hi hj _ => ?_, fun k q hk => va_A.in hk⟩
  have h1 : i < 1 := (List.getElem?_eq_some_iff.mp hi).1
  have h2 : j < 1 := (List.getElem?_eq_some_iff.mp hj).1
  omega
theorem k_metC {cc : ByteArray} {nL : Nat} {l : Launch} {D : va_G} {cs : Nat → ClassId} {y : MethodName} {wsy ws' : List Cond} {rm : Room} {h0 sz mc ms : Nat} {e0 : va_E} {B : va_W → Prop} (hy : plainName y.cls = true) (hyi : y.name = "<init>") (hw : wsy = Cond.code y cc nL none :: ws') (h1 : 1 ≤ nL)
    (body : ∀ (p : Program) (e : Env) (s : State) (m : MethodId) (below : List Frame) (meth : Method) (c : Code) (ls : Array Slot) (A : Nat → Prop), A = va_A [(h0, e0)] s.heap.size → Cx p s m #[.ref h0] meth c cc nL none y.cls wsy → va_K D vwCl (tyA cs) s → NW s → AOx s → meth.name = "<init>" → (∀ q : Nat, s.heap.size ≤ q → A q) → va_P D vwCl [(h0, e0)] s.heap → va_D A [(h0, e0)] → va_S A s.heap s.heap [] → s.heap.size = sz → lv_has ls nL [(0, .ref h0)] → W p l e rm s m #[.ref h0] below meth c s.heap [] 0 0 (MQ below (QC D B (h0, e0) sz) #[.ref h0] s mc ms (va_A [(h0, e0)] sz)) (F0 m 0 ls [])) : Met l y wsy rm (PC D cs sz [(h0, e0)] [.ref h0]) (QC D B (h0, e0) sz) mc ms (va_A [(h0, e0)] sz) := by
  refine Met.ofW (cc := cc) (maxL := nL) (ret := none) hy hw ?_
  intro p e s m args below meth c s₁ Bd hml hv
  obtain ⟨rfl, hsz, hP, hK, hN, hO⟩ := hv
  have hin : meth.name = y.name := (name_of_methodNamed Bd.named Bd.method).1
  have hl := lv_entry ([.ref h0]) (n := nL) (by exact h1)
  rw [lg_entry_eq]
  generalize (lg_sl ([.ref h0]) ++ List.replicate (nL - (lg_sl ([.ref h0])).length) Slot.unset).toArray = ls at hl ⊢
  exact body p e s m below meth c ls _ rfl ⟨Bd.exec, Bd.bytes, hml, Bd.returns, findClass_of_methodNamed Bd.named, atoms_spec (ws := wsy) Bd.pre, Bd.notSynchronized⟩ hK hN hO (hin.trans hyi) (fun q h => Or.inr h) hP one_D va_S.rf hsz hl
section CROWS
variable {p : Program} {l : Launch} {e : Env} {R : Room} {s : State} {m : MethodId} {args : Array Value} {below : List Frame} {meth : Method} {c : Code} {H : Heap} {locs : List Loc} {cells slots : Nat} {Q : State → Prop}
variable {cc : ByteArray} {pc : Nat} {ls : Array Slot} {rest : List Value} {nL : Nat} {ret : Option FieldType} {own : String} {ws : List Cond} {D : va_G} {cs : Nat → ClassId} {A : Nat → Prop}
theorem k_objInit (C : Cx p s m args meth c cc nL ret own ws) (hsz : ls.size = nL) {idx a : Nat} (w1 : Cond.methodLink own idx objectInit ∈ ws) (w2 : Cond.instanceMethod objectInit ∈ ws) (w3 : Cond.code objectInit ⟨#[0xb1]⟩ 1 none ∈ ws) (d : decode cc pc = .ok (.invokespecial idx, 3)) (hf : 1 ≤ R.frames) (hlo : (rest.map fun v => v.category).sum + 12 ≤ R.locals)
    (kk : W p l e R s m args below meth c H locs cells slots Q (F0 m (pc + 3) ls rest)) : W p l e R s m args below meth c H locs cells slots Q (F0 m pc ls (.ref a :: rest)) := by
  obtain ⟨hx, hb, hml, hr, hown, hts, hlk⟩ := C
  exact W.objInit hx hb hown (hts _ w1) (hts _ w2) (hts _ w3) rfl (by rw [hml]; exact hsz) rfl d hf (by show 2 * 0 + _ + 12 ≤ _; omega) kk
theorem k_newaI (C : Cx p s m args meth c cc nL ret own ws) (hK : va_K D vwCl (tyA cs) s) (w1 : Cond.arrayClass .int ∈ ws) {w : va_W} (hP : va_P D vwCl w H) (hD : va_D A w) (hS : va_S A s.heap H locs) (hA : ∀ q : Nat, s.heap.size ≤ q → A q) {n : Int32} {N' : Nat} (hn : ¬ n < 0) (hN : n.toNatClampNeg = N') (hb4 : N' * 4 ≤ 536870912) (hcells : cells + 1 ≤ R.cells) (hslots : slots + N' ≤ R.slots) (d : decode cc pc = .ok (.newarray .int, 2))
    (kk : ∀ (q : Nat) (H1 : Heap), va_P D vwCl (w ++ [(q, .inl (cs 0, N', .inl (fun _ => 0)))]) H1 → va_D A (w ++ [(q, .inl (cs 0, N', .inl (fun _ => 0)))]) → va_S A s.heap H1 locs → W p l e R s m args below meth c H1 locs (cells + 1) (slots + N') Q (F0 m (pc + 2) ls (.ref q :: rest))) : W p l e R s m args below meth c H locs cells slots Q (F0 m pc ls (.int n :: rest)) := by
  obtain ⟨hx, hb, hml, hr, hown, hts, hlk⟩ := C
  refine va_newa (atype := .int) (ty := .int) (a0 := (N', .inl (fun _ => 0))) hx hb (hts _ w1) rfl hK hP hD hS hA (fun _ => rfl) hn hN hb4 hcells hslots d (fun q cA H1 hK1 hP1 hD1 hS1 => ?_)
  have e1 : s.vm.findClass ("[" ++ FieldType.int.toString) = some (cs 0) := (hK.2 0 _ rfl).2
  have e2 : s.vm.findClass ("[" ++ FieldType.int.toString) = some cA := (hK1.2 3 _ rfl).2
  have ec : cA = cs 0 := Option.some.inj (e2.symm.trans e1)
  subst ec
  exact kk q H1 hP1 hD1 hS1
/-- a final field of the object at the head of the world -/
theorem k_putC (C : Cx p s m args meth c cc nL ret own ws) (hK : va_K D vwCl (tyA cs) s) (hin2 : meth.name = "<init>") {tl : va_W} {a ci : Nat} {fs : List Value} (hP : va_P D vwCl ((a, .inr (ci, fs)) :: tl) H) (hD : va_D A ((a, .inr (ci, fs)) :: tl)) (hS : va_S A s.heap H locs) {Cn : String} {T : u_T} {N : Nat} (hc : vwCl[ci]? = some (Cn, T, N)) (k : Nat) (hk : k < N) (hin : ∀ x ∈ u_ws Cn T N, x ∈ ws) {index : Nat} (hw : Cond.fieldLink own index (T k).1 (T k).2.1 (T k).2.2.1 ∈ ws) {ty0 : Nat → FieldType} (hty : ∀ k, k < N → parseFieldDescriptor (T k).2.2.1 = some (ty0 k)) (hnm : ∀ a, a < N → ∀ b, b < N → a ≠ b → (T a).2.1 ≠ (T b).2.1) (hfin : (T k).2.2.2 = true) (hdecl : (T k).1 = own) {b : Nat} {ty : FieldType} (hd : parseFieldDescriptor (T k).2.2.1 = some ty) (hn : narrow ty (.ref b) = .ref b) (hfit : fits ty (.ref b) = true) (hl : k < fs.length) (d : decode cc pc = .ok (.putfield index, 3))
    (kk : ∀ (H1 : Heap) (locs1 : List Loc), va_P D vwCl ((a, .inr (ci, fs.set k (.ref b))) :: tl) H1 → va_D A ((a, .inr (ci, fs.set k (.ref b))) :: tl) → va_S A s.heap H1 locs1 → W p l e R s m args below meth c H1 locs1 cells slots Q (F0 m (pc + 3) ls rest)) : W p l e R s m args below meth c H locs cells slots Q (F0 m pc ls (.ref b :: .ref a :: rest)) := by
  obtain ⟨hx, hb, hml, hr, hown, hts, hlk⟩ := C
  exact va_putF hx hb hts hin ty0 hty hnm hown hK hP hD hS 0 rfl hc k hk (hts _ hw) (fun _ h => h) hfin hin2 hdecl hd hn hfit hl d (fun H1 locs1 h1 h2 h3 => kk H1 locs1 h1 h2 h3)
theorem k_newC (C : Cx p s m args meth c cc nL ret own ws) (hK : va_K D vwCl (tyA cs) s) {w : va_W} (hP : va_P D vwCl w H) (hD : va_D A w) (hS : va_S A s.heap H locs) (hA : ∀ q : Nat, s.heap.size ≤ q → A q) {Cn : String} {T : u_T} {N ci index : Nat} (hin : ∀ x ∈ u_ws Cn T N, x ∈ ws) {ty : Nat → FieldType} (hty : ∀ k, k < N → parseFieldDescriptor (T k).2.2.1 = some (ty k)) (w1 : Cond.classLink own index Cn ∈ ws) (w2 : Cond.instantiable Cn N ∈ ws) (w3 : Cond.initialized Cn ∈ ws) (hc : vwCl[ci]? = some (Cn, T, N)) {fs : List Value} (hfs : ∀ j, j < N → defaultValue (ty j) = vp_V fs j) (hcells : cells + 1 ≤ R.cells) (hslots : slots + N ≤ R.slots) (d : decode cc pc = .ok (.new index, 3))
    (kk : ∀ (q : Nat) (H1 : Heap), va_P D vwCl (w ++ [(q, .inr (ci, fs))]) H1 → va_D A (w ++ [(q, .inr (ci, fs))]) → va_S A s.heap H1 locs → W p l e R s m args below meth c H1 locs (cells + 1) (slots + N) Q (F0 m (pc + 3) ls (.ref q :: rest))) : W p l e R s m args below meth c H locs cells slots Q (F0 m pc ls rest) := by
  obtain ⟨hx, hb, hml, hr, hown, hts, hlk⟩ := C
  exact va_new hx hb hts hin ty hty hown (hts _ w1) (hts _ w2) (hts _ w3) hK hP hD hS hA hc hfs hcells hslots d kk
/-- a constructor of a nest mate is called, over the last cell -/
theorem k_ctN (C : Cx p s m args meth c cc nL ret own ws) (hK : va_K D vwCl (tyA cs) s) (hN : NW s) (hO : AOx s) {w : va_W} {b : Nat} {e0 : va_E} (hP : va_P D vwCl (w ++ [(b, e0)]) H) (hD : va_D A (w ++ [(b, e0)])) (hS : va_S A s.heap H locs) (hA : ∀ q : Nat, s.heap.size ≤ q → A q) {y : MethodName} {wsy : List Cond} {rm : Room} {B : va_W → Prop} {mc ms : Nat} (hM : Met l y wsy rm (PC D cs H.size [(b, e0)] [.ref b]) (QC D B (b, e0) H.size) mc ms (va_A [(b, e0)] H.size)) {index : Nat} {bytes : ByteArray} {maxL : Nat} (cw : va_CN R s args own index y "LineBuffers" bytes maxL none wsy rm mc ms 0 ∧ y.name = "<init>" ∧ (Cond.instanceMethod y).before args s = true) (hsz : ls.size = nL) (hroom : (rest.map fun v => v.category).sum ≤ 8) (d : decode cc pc = .ok (.invokespecial index, 3)) (hf : cells + mc ≤ R.cells ∧ slots + ms ≤ R.slots)
    (kk : ∀ (w1 : va_W) (H1 : Heap) (locs1 : List Loc), B w1 → va_P D vwCl (w ++ w1) H1 → va_D A (w ++ w1) → va_S A s.heap H1 locs1 → W p l e R s m args below meth c H1 locs1 (cells + mc) (slots + ms) Q (F0 m (pc + 3) ls rest)) : W p l e R s m args below meth c H locs cells slots Q (F0 m pc ls (.ref b :: rest)) := by
  obtain ⟨hx, hb, hml, hr, hown, hts, hlk⟩ := C
  have hlast : (w ++ [(b, e0)])[w.length]? = some (b, e0) := by simp
  have hPc : va_P D vwCl [(b, e0)] H := fun k q hk => by
    have hk0 : k < 1 := (List.getElem?_eq_some_iff.mp hk).1
    rw [show k = 0 by omega] at hk
    cases hk
    exact hP _ _ hlast
  have hFc : ∀ q, va_A [(b, e0)] H.size q → A q := fun q h => by
    rcases h with ⟨j, e9, hj⟩ | h
    · have hj0 : (q, e9) = (b, e0) := List.mem_singleton.mp (List.mem_of_getElem? hj)
      cases hj0
      exact hD.2 _ _ hlast
    · exact hA q (Nat.le_trans hS.1 h)
  refine va_callv (va_runIN (As := []) ⟨hx, hb, hml, hown, hts⟩ hM cw ⟨PC_blind, fun U hU hW => ⟨rfl, by rw [hU], by rw [hU]; exact hPc, va_K.moved hW.alike hK, NW.warm hW hN, AOx.moved hW.alike hO⟩⟩ rfl rfl hsz rfl (lv_room hroom) d hf) hS (fun q _ h => hFc q h) hFc (fun u t H1 locs1 ht hvm hw hB hz1 hk1 hS1 => ?_)
  obtain ⟨w1, hBw, hP1, hD1⟩ := hB
  rw [ht] at hP1
  obtain ⟨hP2, hD2⟩ := j_last hP hD hk1 hFc hP1 hD1
  exact kk w1 H1 locs1 hBw hP2 hD2 hS1
/-- a constructor that all may call -/
theorem k_ctI (C : Cx p s m args meth c cc nL ret own ws) (hK : va_K D vwCl (tyA cs) s) (hN : NW s) (hO : AOx s) {w : va_W} {b : Nat} {e0 : va_E} (hP : va_P D vwCl (w ++ [(b, e0)]) H) (hD : va_D A (w ++ [(b, e0)])) (hS : va_S A s.heap H locs) (hA : ∀ q : Nat, s.heap.size ≤ q → A q) {y : MethodName} {wsy : List Cond} {rm : Room} {B : va_W → Prop} {mc ms : Nat} (hM : Met l y wsy rm (PC D cs H.size [(b, e0)] [.ref b]) (QC D B (b, e0) H.size) mc ms (va_A [(b, e0)] H.size)) {index : Nat} {bytes : ByteArray} {maxL : Nat} (cw : CallB R s args own index y bytes maxL none wsy rm mc ms 0 ∧ y.name = "<init>" ∧ (Cond.instanceMethod y).before args s = true) (hsz : ls.size = nL) (hroom : (rest.map fun v => v.category).sum ≤ 8) (d : decode cc pc = .ok (.invokespecial index, 3)) (hf : cells + mc ≤ R.cells ∧ slots + ms ≤ R.slots)
    (kk : ∀ (w1 : va_W) (H1 : Heap) (locs1 : List Loc), B w1 → va_P D vwCl (w ++ w1) H1 → va_D A (w ++ w1) → va_S A s.heap H1 locs1 → W p l e R s m args below meth c H1 locs1 (cells + mc) (slots + ms) Q (F0 m (pc + 3) ls rest)) : W p l e R s m args below meth c H locs cells slots Q (F0 m pc ls (.ref b :: rest)) := by
  obtain ⟨hx, hb, hml, hr, hown, hts, hlk⟩ := C
  have hlast : (w ++ [(b, e0)])[w.length]? = some (b, e0) := by simp
  have hPc : va_P D vwCl [(b, e0)] H := fun k q hk => by
    have hk0 : k < 1 := (List.getElem?_eq_some_iff.mp hk).1
    rw [show k = 0 by omega] at hk
    cases hk
    exact hP _ _ hlast
  have hFc : ∀ q, va_A [(b, e0)] H.size q → A q := fun q h => by
    rcases h with ⟨j, e9, hj⟩ | h
    · have hj0 : (q, e9) = (b, e0) := List.mem_singleton.mp (List.mem_of_getElem? hj)
      cases hj0
      exact hD.2 _ _ hlast
    · exact hA q (Nat.le_trans hS.1 h)
  refine va_callv (va_runI (As := []) ⟨hx, hb, hml, hown, hts⟩ hM cw ⟨PC_blind, fun U hU hW => ⟨rfl, by rw [hU], by rw [hU]; exact hPc, va_K.moved hW.alike hK, NW.warm hW hN, AOx.moved hW.alike hO⟩⟩ rfl rfl hsz rfl (lv_room hroom) d hf) hS (fun q _ h => hFc q h) hFc (fun u t H1 locs1 ht hvm hw hB hz1 hk1 hS1 => ?_)
  obtain ⟨w1, hBw, hP1, hD1⟩ := hB
  rw [ht] at hP1
  obtain ⟨hP2, hD2⟩ := j_last hP hD hk1 hFc hP1 hD1
  exact kk w1 H1 locs1 hBw hP2 hD2 hS1
/-- a constructor's end -/
theorem k_retC (C : Cx p s m args meth c cc nL none own ws) {B : va_W → Prop} {x : Nat × va_E} {w1 : va_W} (hAe : A = va_A [x] s.heap.size) (hB : B w1) (hP : va_P D vwCl w1 H) (hD : va_D A w1) (hS : va_S A s.heap H locs) (d : decode cc pc = .ok (.return_, 1)) : W p l e R s m args below meth c H locs cells slots (MQ below (QC D B x s.heap.size) args s cells slots (va_A [x] s.heap.size)) (F0 m pc ls []) := by
  obtain ⟨hx, hb, hml, hr, hown, hts, hlk⟩ := C
  subst hAe
  exact W.vret hx hb hr (fun t ht hW => ⟨⟨(), rfl, trivial, w1, hB, by rw [ht]; exact hP, hD⟩, hS.F ht⟩) hS.2.2 d hlk
end CROWS
/-! Stops -/
abbrev saE (cs : Nat → ClassId) : va_E := .inl (cs 0, 40, .inl (fun _ => 0))
abbrev roE (cs : Nat → ClassId) : va_E := .inl (cs 0, 16, .inl (fun _ => 0))
abbrev rmX4_init : Room := { frames := 1, cells := 3, slots := 120, locals := 20 }
set_option maxRecDepth 100000 in
set_option maxHeartbeats 4000000 in
theorem m_X4_init (l : Launch) {D : va_G} {cs : Nat → ClassId} (h0 sz : Nat) : Met l yX4_init wsX4_init rmX4_init (PC D cs sz [(h0, .inr (4, [.null, .null, .null, .int 0, .int 0]))] [.ref h0]) (QC D (fun w1 => ∃ a b c : Nat, w1 = [(h0, .inr (4, [.ref a, .ref b, .ref c, .int 0, .int 0])), (a, saE cs), (b, saE cs), (c, saE cs)]) (h0, .inr (4, [.null, .null, .null, .int 0, .int 0])) sz) 3 120 (va_A [(h0, .inr (4, [.null, .null, .null, .int 0, .int 0]))] sz) :=
  k_metC (by decide) rfl rfl (by decide) (fun p e s m below meth c ls A hAe C K N O hin hA hP hD hS hsz hl => by
    subst hsz
    have hin4 : ∀ x ∈ u_ws RX4 TX4 5, x ∈ wsX4_init := fun x h => List.mem_cons_of_mem _ (List.mem_append_right _ h)
    refine lv_aload_n C.1 C.2.1 dX4_init_0 rfl (lv_at hl 0 rfl) ?_
    refine k_objInit C hl.1 (List.mem_of_getElem? (i := 1) rfl) (List.mem_of_getElem? (i := 2) rfl) (List.mem_of_getElem? (i := 3) rfl) dX4_init_1 (Nat.le_of_ble_eq_true rfl) (Nat.le_of_ble_eq_true rfl) ?_
    refine lv_aload_n C.1 C.2.1 dX4_init_4 rfl (lv_at hl 0 rfl) ?_
    refine lv_bipush (v := 40) C.1 C.2.1 dX4_init_5 (by decide) ?_
    refine k_newaI C K (List.mem_of_getElem? (i := 4) rfl) hP hD hS hA (by decide) rfl (Nat.le_of_ble_eq_true rfl) (Nat.le_of_ble_eq_true rfl) (Nat.le_of_ble_eq_true rfl) dX4_init_7 (fun a H hP hD hS => ?_)
    refine k_putC C K hin hP hD hS rfl 0 (by decide) hin4 (List.mem_of_getElem? (i := 5) rfl) tyX4_ok nmX4 rfl rfl (tyX4_ok 0 (by decide)) rfl rfl (by decide) dX4_init_9 (fun H locs hP hD hS => ?_)
    refine lv_aload_n C.1 C.2.1 dX4_init_12 rfl (lv_at hl 0 rfl) ?_
    refine lv_bipush (v := 40) C.1 C.2.1 dX4_init_13 (by decide) ?_
    refine k_newaI C K (List.mem_of_getElem? (i := 4) rfl) hP hD hS hA (by decide) rfl (Nat.le_of_ble_eq_true rfl) (Nat.le_of_ble_eq_true rfl) (Nat.le_of_ble_eq_true rfl) dX4_init_15 (fun b H hP hD hS => ?_)
    refine k_putC C K hin hP hD hS rfl 1 (by decide) hin4 (List.mem_of_getElem? (i := 6) rfl) tyX4_ok nmX4 rfl rfl (tyX4_ok 1 (by decide)) rfl rfl (by simp) dX4_init_17 (fun H locs hP hD hS => ?_)
    refine lv_aload_n C.1 C.2.1 dX4_init_20 rfl (lv_at hl 0 rfl) ?_
    refine lv_bipush (v := 40) C.1 C.2.1 dX4_init_21 (by decide) ?_
    refine k_newaI C K (List.mem_of_getElem? (i := 4) rfl) hP hD hS hA (by decide) rfl (Nat.le_of_ble_eq_true rfl) (Nat.le_of_ble_eq_true rfl) (Nat.le_of_ble_eq_true rfl) dX4_init_23 (fun c H hP hD hS => ?_)
    refine k_putC C K hin hP hD hS rfl 2 (by decide) hin4 (List.mem_of_getElem? (i := 7) rfl) tyX4_ok nmX4 rfl rfl (tyX4_ok 2 (by decide)) rfl rfl (by simp) dX4_init_25 (fun H locs hP hD hS => ?_)
    exact k_retC C hAe ⟨a, b, c, rfl⟩ hP hD hS dX4_init_28)
