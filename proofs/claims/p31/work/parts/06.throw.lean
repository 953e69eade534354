/-! what a method that throws stands on: its texts, the two statics of Throwable, words of the tables that no list of words holds -/
def exN (k : Nat) : String := if k = 1 then "java/lang/IllegalArgumentException" else if k = 2 then "java/lang/IllegalStateException" else "java/lang/IndexOutOfBoundsException"
abbrev exL : List String := ["java/lang/RuntimeException", "java/lang/Exception"]
def skL : List (Nat × String) := [(43, "a cycle or the capacity is out of range"), (57, "no machine can be added now"), (72, "a cycle or a mark is out of range"), (82, "the capacity is out of range"), (84, "the first tick or the duration is out of range"), (95, "no more stops can be planned"), (101, "seed, up, down or number is out of range"), (103, "so many stops cannot be planned"), (118, "there is no such stop"), (129, "ticks is out of range"), (134, "the present tick would be too high"), (164, "wanted is out of range"), (166, "places is out of range"), (173, "value is no byte of a text"), (178, "the text is full"), (194, "there is no saved state"), (208, "there is no such machine"), (210, "there are too few machines"), (212, "what is out of range")]
abbrev twA : List Cond := vx_atS RX5 45 "java/lang/IllegalArgumentException" exL ++ vx_atS RX5 59 "java/lang/IllegalStateException" exL ++ vx_atS RX5 120 "java/lang/IndexOutOfBoundsException" exL
def twL : List Cond := twA.filter (fun w => !goodWord w)
theorem twL_tabs : ∀ w ∈ twL, w.onTables = true := by decide +kernel
theorem twL_in : ∀ w ∈ twL, w ∈ tables_1 := by decide +kernel
theorem tw_45 : ∀ w ∈ vx_atS RX5 45 "java/lang/IllegalArgumentException" exL, w ∈ twA := by decide +kernel
theorem tg_45 : ∀ w ∈ Cond.classLink RX5 41 "java/lang/IllegalArgumentException" :: Cond.initialized "java/lang/IllegalArgumentException" :: vx_atS RX5 45 "java/lang/IllegalArgumentException" exL, vx_ot w = true := by decide +kernel
theorem tw_59 : ∀ w ∈ vx_atS RX5 59 "java/lang/IllegalStateException" exL, w ∈ twA := by decide +kernel
theorem tg_59 : ∀ w ∈ Cond.classLink RX5 55 "java/lang/IllegalStateException" :: Cond.initialized "java/lang/IllegalStateException" :: vx_atS RX5 59 "java/lang/IllegalStateException" exL, vx_ot w = true := by decide +kernel
theorem tw_120 : ∀ w ∈ vx_atS RX5 120 "java/lang/IndexOutOfBoundsException" exL, w ∈ twA := by decide +kernel
theorem tg_120 : ∀ w ∈ Cond.classLink RX5 116 "java/lang/IndexOutOfBoundsException" :: Cond.initialized "java/lang/IndexOutOfBoundsException" :: vx_atS RX5 120 "java/lang/IndexOutOfBoundsException" exL, vx_ot w = true := by decide +kernel
def sx_dummy : Nat := 0
theorem sx_l {α β : Type} {a : α} {f : α → Option β} {g : Nat → Option β} {r : β} (h : sx (Sum.inl a) f g = some r) : f a = some r := h

def SK (U : State) : Prop := ∀ q ∈ skL, ∃ a, vk_R RX5 q.1 q.2 a U
def TW (U : State) : Prop := ∀ w ∈ twL, w.before #[] U = true
def XS (ad : Nat → Nat) (sz : Nat) (U : State) (H : Heap) : Prop := vx_Zq Bundle.tN "UNASSIGNED_STACK" Bundle.steD (Afr ad sz) U H ∧ vx_Zq Bundle.tN "SUPPRESSED_SENTINEL" Bundle.listD (Afr ad sz) U H ∧ SK U ∧ TW U
theorem TW.same {u U : State} (hv : u.vm = U.vm) (h : TW u) : TW U := fun w hw => va_tabs (twL_tabs w hw) hv (h w hw)
theorem XS.same {ad : Nat → Nat} {sz : Nat} {u U : State} {H : Heap} (hv : u.vm = U.vm) (h : XS ad sz u H) : XS ad sz U H :=
  ⟨vx_Zq.moved (by rw [hv]; exact Vm.Alike.refl _) h.1, vx_Zq.moved (by rw [hv]; exact Vm.Alike.refl _) h.2.1, fun q hq => (h.2.2.1 q hq).imp fun a ha => vk_R.same hv.symm ha, TW.same hv h.2.2.2⟩
theorem twL_kind : (twL.all fun w => match w with
    | .castable .. => true
    | .declares .. => true
    | _ => false) = true := by decide +kernel
theorem TW.warm {s U : State} (hW : s.WarmedH U.vm) (h : TW s) : TW U := by
  intro w hw
  have hk := List.all_eq_true.mp twL_kind w hw
  have h0 : w.before #[] (s.setVm U.vm) = true := by
    cases w with
    | castable a b => rw [Cond.castable_setVm hW.alike]; exact h _ hw
    | declares x => rw [Cond.declares_setVm hW.alike]; exact h _ hw
    | _ => exact absurd hk (by simp)
  exact va_tabs (twL_tabs w hw) (u := s.setVm U.vm) (rfl : (s.setVm U.vm).vm = U.vm) h0

theorem XS.go {ad : Nat → Nat} {s U : State} {H : Heap} {locs : List Loc} (hW : s.WarmedH U.vm) (hS : va_S (Afr ad s.heap.size) s.heap H locs) (h : XS ad s.heap.size s s.heap) : XS ad H.size U H :=
  ⟨vx_Zq.narrow (vx_Zq.kept (vx_Zq.moved hW.alike h.1) hS.2.1) (fun q hq => Afr.mono hS.1 hq), vx_Zq.narrow (vx_Zq.kept (vx_Zq.moved hW.alike h.2.1) hS.2.1) (fun q hq => Afr.mono hS.1 hq), fun q hq => (h.2.2.1 q hq).imp fun a ha => vk_R.warm hW ha, TW.warm hW h.2.2.2⟩
def PX (D : va_G) (cs : Nat → ClassId) (ad : Nat → Nat) (sz : Nat) (w : va_W) (av : List Value) : Array Value → State → Prop := va_Pc av (fun U => (U.heap.size = sz ∧ va_P D vwCl w U.heap ∧ va_K D vwCl (tyA cs) U ∧ NW U) ∧ XS ad sz U U.heap)
theorem PX_blind {D : va_G} {cs : Nat → ClassId} {ad : Nat → Nat} {sz : Nat} {w : va_W} {av : List Value} : FrameBlind (PX D cs ad sz w av) := by
  intro a U g mk h
  obtain ⟨h1, ⟨h2, h3, h4, h5⟩, h6⟩ := h
  exact ⟨h1, ⟨h2, h3, va_K.moved (u := U) (U := U.calling g mk a) (Vm.Alike.refl U.vm) h4, NW.same (u := U) (U := U.calling g mk a) rfl h5⟩, XS.same (u := U) (U := U.calling g mk a) rfl h6⟩
/-- where a method that throws stands: no table of its own, no stack traces, what the throws need -/
def Tx (l : Launch) (c : Code) (ad : Nat → Nat) (s : State) : Prop := l.stackTraces = false ∧ (∀ x ∈ c.exceptionTable.toList, False) ∧ XS ad s.heap.size s s.heap
section THROW
variable {p : Program} {l : Launch} {e : Env} {R : Room} {s : State} {m : MethodId} {args : Array Value} {below : List Frame} {meth : Method} {c : Code} {H : Heap} {locs : List Loc} {cells slots : Nat} {Q : State → Prop}
variable {cc : ByteArray} {pc : Nat} {ls : Array Slot} {rest : List Value} {nL : Nat} {ret : Option FieldType} {own : String} {ws : List Cond} {D : va_G} {cs : Nat → ClassId} {ad : Nat → Nat}
variable {Qn : Array Value → State → Outcome → State → Prop} {mc ms : Nat}
/-- 'throw new E("text")' -/
theorem k_throw {A : Type} {res : Sum A Nat} {w0 : va_W} (C : Cx p s m args meth c cc nL ret RX5 ws) (X : Tx l c ad s) (hP : va_P D vwCl w0 H) (hS : va_S (Afr ad s.heap.size) s.heap H locs) {k ik is ic : Nat} {text : String} (hr : res = Sum.inr k) (hfit : Bundle.fit (exN k) = true) (hk : Cond.classLink RX5 ik (exN k) ∈ ws) (hini : Cond.initialized (exN k) ∈ ws) (hst : (is, text) ∈ skL) (hat : ∀ w ∈ (vx_atS RX5 ic (exN k) exL).filter goodWord, w ∈ ws) (htw : ∀ w ∈ vx_atS RX5 ic (exN k) exL, w ∈ twA) (hgood : ∀ w ∈ Cond.classLink RX5 ik (exN k) :: Cond.initialized (exN k) :: vx_atS RX5 ic (exN k) exL, vx_ot w = true)
    (hsz : ls.size = nL) (d0 : decode cc pc = .ok (.new ik, 3)) (d3 : decode cc (pc + 3) = .ok (.dup, 1)) (d4 : decode cc (pc + 4) = .ok (.ldc is, 2)) (d6 : decode cc (pc + 6) = .ok (.invokespecial ic, 3)) (d9 : decode cc (pc + 9) = .ok (.athrow, 1))
    (hRframes : 5 < R.frames) (hRlocals : (rest.map fun v => v.category).sum + 82 ≤ R.locals) (hRcells : cells + 1 ≤ R.cells) (hRslots : slots + 6 ≤ R.slots) (hc : cells + 1 ≤ mc) (hs : slots + 6 ≤ ms) :
    W p l e R s m args below meth c H locs cells slots (vx_MQ below Qn (vx_X (fun k : Nat => res = Sum.inr k) (fun E k t => E = exN k ∧ va_P D vwCl w0 t.heap) (Afr ad s.heap.size)) args s mc ms (Afr ad s.heap.size)) (F0 m pc ls rest) := by
  obtain ⟨hx, hb, hml, hr9, hown, hts, hlk⟩ := C
  obtain ⟨hl, hex, hU, hN, hSK, hTW⟩ := X
  obtain ⟨sa, hstr⟩ := hSK _ hst
  have hat2 : ∀ w ∈ vx_atS RX5 ic (exN k) exL, w.before args s = true := by
    intro w hw
    by_cases g : goodWord w = true
    · exact hts w (hat w (List.mem_filter.mpr ⟨hw, g⟩))
    · have hin : w ∈ twL := List.mem_filter.mpr ⟨htw w hw, by cases h9 : goodWord w with
        | true => exact absurd h9 g
        | false => rfl⟩
      exact va_tabs (twL_tabs w hin) rfl (hTW w hin)
  refine vx_throwS hx hb hl (cls := exN k) (names := exL) (text := text) (ik := ik) (is := is) (ic := ic) (sa := sa) (A := Afr ad s.heap.size) hown hfit (by decide) (hts _ hk) (hts _ hini) hstr hat2 hgood hU hN hS (hsz.trans hml.symm) d0 d3 d4 d6 d9 (fun x h => absurd (hex x h) (fun q => q)) hRframes hRlocals hRcells hRslots hlk (fun t h1 h2 h3 => ?_) hS.2.2 hc hs
  have hk9 : ∀ (j : Nat) (q : Nat × va_E), w0[j]? = some q → t.heap[q.1]? = H[q.1]? := fun j q hq => h3 q.1 ((hP j q hq).lt)
  exact ⟨k, hr, ⟨rfl, hP.kept hk9⟩, ⟨Nat.le_trans hS.1 h2, fun q g1 g2 => (h3 q (Nat.lt_of_lt_of_le g1 hS.1)).trans (hS.2.1 q g1 g2)⟩⟩
/-- what a callee has thrown goes on -/
theorem k_out {A : Type} {res : Sum A Nat} {w0 : va_W} (C : Cx p s m args meth c cc nL ret own ws) (X : Tx l c ad s) (hP : va_P D vwCl w0 H) (hS : va_S (Afr ad s.heap.size) s.heap H locs) {k : Nat} (hr : res = Sum.inr k) {E : String} (hE : E = exN k) {ce : Cell} {q9 : Nat} (hcell : H[q9]? = some ce) (hv : ce.vm = .none) (hcl : s.vm.findClass E = some ce.cls) (hc : cells ≤ mc) (hs : slots ≤ ms) :
    vx_W p l e R s m args below meth c H locs cells slots (vx_MQ below Qn (vx_X (fun k : Nat => res = Sum.inr k) (fun E k t => E = exN k ∧ va_P D vwCl w0 t.heap) (Afr ad s.heap.size)) args s mc ms (Afr ad s.heap.size)) (F0 m pc ls rest) q9 := by
  obtain ⟨hx, hb, hml, hr9, hown, hts, hlk⟩ := C
  exact vx_out (fun x h => absurd (X.2.1 x h) (fun q => q)) hlk hcell hv hcl (fun t ht _ => ⟨k, hr, ⟨hE, by rw [ht]; exact hP⟩, hS.F ht⟩) hS.2.2 hc hs
variable {XC : String → State → State → Prop}
theorem k_iretX {A : Type} {res : Sum A Nat} {w0 : va_W} {wf : A → va_W} {val : A → Int32} (C : Cx p s m args meth c cc nL (some .int) own ws) (hP : va_P D vwCl w0 H) (hS : va_S (Afr ad s.heap.size) s.heap H locs) {v : Int32} {u : A} (h1 : res = Sum.inl u) (h2 : val u = v) (h3 : wf u = w0) (d : decode cc pc = .ok (.ireturn, 1)) : W p l e R s m args below meth c H locs cells slots (vx_MQ below (va_Qi (fun r' u => res = Sum.inl u ∧ r' = val u) (fun u t => va_P D vwCl (wf u) t.heap) (Afr ad s.heap.size)) XC args s cells slots (Afr ad s.heap.size)) (F0 m pc ls [.int v]) := by
  obtain ⟨hx, hb, hml, hr, hown, hts, hlk⟩ := C
  exact vx_ret (W.iret hx hb hr (fun t ht hW => ⟨⟨v, u, rfl, ⟨h1, h2.symm⟩, by show va_P D vwCl (wf u) t.heap; rw [ht, h3]; exact hP⟩, hS.F ht⟩) hS.2.2 d hlk)
theorem k_dretX {A : Type} {res : Sum A Nat} {w0 : va_W} {wf : A → va_W} {val : A → UInt64} (C : Cx p s m args meth c cc nL (some .double) own ws) (hP : va_P D vwCl w0 H) (hS : va_S (Afr ad s.heap.size) s.heap H locs) {v : UInt64} {u : A} (h1 : res = Sum.inl u) (h2 : val u = v) (h3 : wf u = w0) (d : decode cc pc = .ok (.dreturn, 1)) : W p l e R s m args below meth c H locs cells slots (vx_MQ below (va_Qd (fun r' u => res = Sum.inl u ∧ r' = val u) (fun u t => va_P D vwCl (wf u) t.heap) (Afr ad s.heap.size)) XC args s cells slots (Afr ad s.heap.size)) (F0 m pc ls [.double v]) := by
  obtain ⟨hx, hb, hml, hr, hown, hts, hlk⟩ := C
  exact vx_ret (W.dret hx hb hr (fun t ht hW => ⟨⟨v, u, rfl, ⟨h1, h2.symm⟩, by show va_P D vwCl (wf u) t.heap; rw [ht, h3]; exact hP⟩, hS.F ht⟩) hS.2.2 d hlk)
theorem k_vretX {A : Type} {res : Sum A Nat} {w0 : va_W} {wf : A → va_W} (C : Cx p s m args meth c cc nL none own ws) (hP : va_P D vwCl w0 H) (hS : va_S (Afr ad s.heap.size) s.heap H locs) {u : A} (h1 : res = Sum.inl u) (h3 : wf u = w0) (d : decode cc pc = .ok (.return_, 1)) : W p l e R s m args below meth c H locs cells slots (vx_MQ below (va_Qv (fun u => res = Sum.inl u) (fun u t => va_P D vwCl (wf u) t.heap) (Afr ad s.heap.size)) XC args s cells slots (Afr ad s.heap.size)) (F0 m pc ls []) := by
  obtain ⟨hx, hb, hml, hr, hown, hts, hlk⟩ := C
  exact vx_ret (W.vret hx hb hr (fun t ht hW => ⟨⟨u, rfl, h1, by show va_P D vwCl (wf u) t.heap; rw [ht, h3]; exact hP⟩, hS.F ht⟩) hS.2.2 d hlk)
theorem k_metX {y : MethodName} {wsy ws' : List Cond} {rm : Room} {w : va_W} {av : List Value} {sz : Nat} {Qc : Array Value → State → Outcome → State → Prop} (hfl : l.stackTraces = false) (hy : plainName y.cls = true) (hw : wsy = Cond.code y cc nL ret :: ws') (hlen : (lg_sl av).length ≤ nL) (hAd : adOK ad)
    (body : ∀ (p : Program) (e : Env) (s : State) (m : MethodId) (below : List Frame) (meth : Method) (c : Code) (ls : Array Slot), Cx p s m av.toArray meth c cc nL ret y.cls wsy → Gx D cs ad s → Tx l c ad s → va_P D vwCl w s.heap → s.heap.size = sz → lv_has ls nL (lv_args 0 av) → va_S (Afr ad s.heap.size) s.heap s.heap [] → W p l e rm s m av.toArray below meth c s.heap [] 0 0 (vx_MQ below Qc XC av.toArray s mc ms (Afr ad sz)) (F0 m 0 ls [])) : vx_Met l y wsy rm (PX D cs ad sz w av) Qc XC mc ms (Afr ad sz) := by
  refine vx_ofW (cc := cc) (maxL := nL) (ret := ret) hy hw ?_
  intro p e s m args below meth c s₁ B hml hex hv
  obtain ⟨rfl, ⟨hsz, hP, hK, hN⟩, hX⟩ := hv
  have hl := lv_entry av (n := nL) hlen
  rw [lg_entry_eq]
  generalize (lg_sl av ++ List.replicate (nL - (lg_sl av).length) Slot.unset).toArray = ls at hl ⊢
  exact body p e s m below meth c ls ⟨B.exec, B.bytes, hml, B.returns, findClass_of_methodNamed B.named, atoms_spec (ws := wsy) B.pre, B.notSynchronized⟩ ⟨hK, hAd, hN⟩ ⟨hfl, hex, by rw [hsz]; exact hX⟩ hP hsz hl va_S.rf
theorem k_i2d (C : Cx p s m args meth c cc nL ret own ws) {x : Int32} {z : UInt64} (ez : z = FP.i2d x) (d : decode cc pc = .ok (.i2d, 1)) (kk : W p l e R s m args below meth c H locs cells slots Q (F0 m (pc + 1) ls (.double z :: rest))) : W p l e R s m args below meth c H locs cells slots Q (F0 m pc ls (.int x :: rest)) := by
  subst ez
  exact lv_i2d C.1 C.2.1 d kk
theorem k_ddiv (C : Cx p s m args meth c cc nL ret own ws) {x y z : UInt64} (hn : vf_n64 (FP.ddiv x y)) (ez : z = FP.ddiv x y) (d : decode cc pc = .ok (.ddiv, 1)) (kk : W p l e R s m args below meth c H locs cells slots Q (F0 m (pc + 1) ls (.double z :: rest))) : W p l e R s m args below meth c H locs cells slots Q (F0 m pc ls (.double y :: .double x :: rest)) := by
  subst ez
  exact lv_ddiv C.1 C.2.1 d hn kk
theorem k_dret (C : Cx p s m args meth c cc nL (some .double) own ws) {w : va_W} (hP : va_P D vwCl w H) (hS : va_S (Afr ad s.heap.size) s.heap H locs) {v : UInt64} (d : decode cc pc = .ok (.dreturn, 1)) : W p l e R s m args below meth c H locs cells slots (MQ below (va_Qd (fun r' (_ : Unit) => r' = v) (fun _ t => va_P D vwCl w t.heap) (Afr ad s.heap.size)) args s cells slots (Afr ad s.heap.size)) (F0 m pc ls [.double v]) := by
  obtain ⟨hx, hb, hml, hr, hown, hts, hlk⟩ := C
  exact W.dret hx hb hr (fun t ht hW => ⟨⟨v, (), rfl, rfl, by show va_P D vwCl w t.heap; rw [ht]; exact hP⟩, hS.F ht⟩) hS.2.2 d hlk
theorem k_callXVi {A : Type} {res : Sum A Nat} {w : va_W} {wf : A → va_W} {val : A → Int32} (C : Cx p s m args meth c cc nL ret own ws) (G : Gx D cs ad s) (hX : XS ad s.heap.size s s.heap) (hP : va_P D vwCl w H) (hS : va_S (Afr ad s.heap.size) s.heap H locs) {y : MethodName} {wsy : List Cond} {rm : Room} {b : Nat} {As : List Value} {mc ms : Nat} (hM : vx_Met l y wsy rm (PX D cs ad H.size w (.ref b :: As)) (va_Qi (fun r' u => res = Sum.inl u ∧ r' = val u) (fun u t => va_P D vwCl (wf u) t.heap) (Afr ad H.size)) (vx_X (fun k : Nat => res = Sum.inr k) (fun E k t => E = exN k ∧ va_P D vwCl w t.heap) (Afr ad H.size)) mc ms (Afr ad H.size)) {q ci : Nat} {fs : List Value} {Cn : String} {T : u_T} {N : Nat} (he : w[q]? = some (b, .inr (ci, fs))) (hc : vwCl[ci]? = some (Cn, T, N)) {index : Nat} {bytes : ByteArray} {maxL n : Nat} {retY : Option FieldType} (cw : CallW R s args own Cn index y bytes maxL retY wsy rm mc ms n) {st0 : List Value} (hn : As.length = n) (hsz : ls.size = nL) (hst : st0 = As.reverse ++ .ref b :: rest) (hroom : (rest.map fun v => v.category).sum ≤ 8) (d : decode cc pc = .ok (.invokevirtual index, 3)) (hf : cells + mc ≤ R.cells ∧ slots + ms ≤ R.slots)
    (kx : ∀ (k : Nat) (E : String) (ce : Cell) (q9 : Addr) (H1 : Heap) (locs1 : List Loc), res = Sum.inr k → E = exN k → va_P D vwCl w H1 → va_S (Afr ad s.heap.size) s.heap H1 locs1 → H1[q9]? = some ce → ce.vm = .none → s.vm.findClass E = some ce.cls → vx_W p l e R s m args below meth c H1 locs1 (cells + mc) (slots + ms) Q (F0 m pc ls rest) q9)
    (kk : ∀ (H1 : Heap) (locs1 : List Loc) (u : A), res = Sum.inl u → va_P D vwCl (wf u) H1 → va_S (Afr ad s.heap.size) s.heap H1 locs1 → W p l e R s m args below meth c H1 locs1 (cells + mc) (slots + ms) Q (F0 m (pc + 3) ls (.int (val u) :: rest))) : W p l e R s m args below meth c H locs cells slots Q (F0 m pc ls st0) := by
  obtain ⟨hx, hb, hml, hr, hown, hts, hlk⟩ := C
  refine vx_calli (vx_runV ⟨hx, hb, hml, hown, hts⟩ hM cw ⟨PX_blind, va_recv G.1 hP hc he, fun U hU hW => ⟨rfl, ⟨by rw [hU], by rw [hU]; exact hP, va_K.moved hW.alike G.1, NW.warm hW G.2.2⟩, by rw [hU]; exact XS.go hW hS hX⟩⟩ rfl hn hsz hst (lv_room hroom) d hf) hS (fun q _ h => Afr.mono hS.1 h) (fun q h => Afr.mono hS.1 h) (fun q _ h => Afr.mono hS.1 h) (fun E ce q9 k t H1 locs1 ht hvm hp hB hz1 hk1 hS1 hce hcv hcl => ?_) (fun r1 u t H1 locs1 ht hvm hw hB hz1 hk1 hS1 => ?_)
  · obtain ⟨hE, hB⟩ := hB
    rw [ht] at hB
    exact kx k E ce q9 H1 locs1 hp hE hB hS1 hce hcv hcl
  · rw [ht] at hB
    rw [hw.2]
    exact kk H1 locs1 u hw.1 hB hS1
theorem k_callXVv {A : Type} {res : Sum A Nat} {w : va_W} {wf : A → va_W} (C : Cx p s m args meth c cc nL ret own ws) (G : Gx D cs ad s) (hX : XS ad s.heap.size s s.heap) (hP : va_P D vwCl w H) (hS : va_S (Afr ad s.heap.size) s.heap H locs) {y : MethodName} {wsy : List Cond} {rm : Room} {b : Nat} {As : List Value} {mc ms : Nat} (hM : vx_Met l y wsy rm (PX D cs ad H.size w (.ref b :: As)) (va_Qv (fun u => res = Sum.inl u) (fun u t => va_P D vwCl (wf u) t.heap) (Afr ad H.size)) (vx_X (fun k : Nat => res = Sum.inr k) (fun E k t => E = exN k ∧ va_P D vwCl w t.heap) (Afr ad H.size)) mc ms (Afr ad H.size)) {q ci : Nat} {fs : List Value} {Cn : String} {T : u_T} {N : Nat} (he : w[q]? = some (b, .inr (ci, fs))) (hc : vwCl[ci]? = some (Cn, T, N)) {index : Nat} {bytes : ByteArray} {maxL n : Nat} {retY : Option FieldType} (cw : CallW R s args own Cn index y bytes maxL retY wsy rm mc ms n) {st0 : List Value} (hn : As.length = n) (hsz : ls.size = nL) (hst : st0 = As.reverse ++ .ref b :: rest) (hroom : (rest.map fun v => v.category).sum ≤ 8) (d : decode cc pc = .ok (.invokevirtual index, 3)) (hf : cells + mc ≤ R.cells ∧ slots + ms ≤ R.slots)
    (kx : ∀ (k : Nat) (E : String) (ce : Cell) (q9 : Addr) (H1 : Heap) (locs1 : List Loc), res = Sum.inr k → E = exN k → va_P D vwCl w H1 → va_S (Afr ad s.heap.size) s.heap H1 locs1 → H1[q9]? = some ce → ce.vm = .none → s.vm.findClass E = some ce.cls → vx_W p l e R s m args below meth c H1 locs1 (cells + mc) (slots + ms) Q (F0 m pc ls rest) q9)
    (kk : ∀ (H1 : Heap) (locs1 : List Loc) (u : A), res = Sum.inl u → va_P D vwCl (wf u) H1 → va_S (Afr ad s.heap.size) s.heap H1 locs1 → W p l e R s m args below meth c H1 locs1 (cells + mc) (slots + ms) Q (F0 m (pc + 3) ls rest)) : W p l e R s m args below meth c H locs cells slots Q (F0 m pc ls st0) := by
  obtain ⟨hx, hb, hml, hr, hown, hts, hlk⟩ := C
  refine vx_callv (vx_runV ⟨hx, hb, hml, hown, hts⟩ hM cw ⟨PX_blind, va_recv G.1 hP hc he, fun U hU hW => ⟨rfl, ⟨by rw [hU], by rw [hU]; exact hP, va_K.moved hW.alike G.1, NW.warm hW G.2.2⟩, by rw [hU]; exact XS.go hW hS hX⟩⟩ rfl hn hsz hst (lv_room hroom) d hf) hS (fun q _ h => Afr.mono hS.1 h) (fun q h => Afr.mono hS.1 h) (fun q _ h => Afr.mono hS.1 h) (fun E ce q9 k t H1 locs1 ht hvm hp hB hz1 hk1 hS1 hce hcv hcl => ?_) (fun u t H1 locs1 ht hvm hw hB hz1 hk1 hS1 => ?_)
  · obtain ⟨hE, hB⟩ := hB
    rw [ht] at hB
    exact kx k E ce q9 H1 locs1 hp hE hB hS1 hce hcv hcl
  · rw [ht] at hB
    exact kk H1 locs1 u hw hB hS1
theorem k_callXVd {A : Type} {res : Sum A Nat} {w : va_W} {wf : A → va_W} {val : A → UInt64} (C : Cx p s m args meth c cc nL ret own ws) (G : Gx D cs ad s) (hX : XS ad s.heap.size s s.heap) (hP : va_P D vwCl w H) (hS : va_S (Afr ad s.heap.size) s.heap H locs) {y : MethodName} {wsy : List Cond} {rm : Room} {b : Nat} {As : List Value} {mc ms : Nat} (hM : vx_Met l y wsy rm (PX D cs ad H.size w (.ref b :: As)) (va_Qd (fun r' u => res = Sum.inl u ∧ r' = val u) (fun u t => va_P D vwCl (wf u) t.heap) (Afr ad H.size)) (vx_X (fun k : Nat => res = Sum.inr k) (fun E k t => E = exN k ∧ va_P D vwCl w t.heap) (Afr ad H.size)) mc ms (Afr ad H.size)) {q ci : Nat} {fs : List Value} {Cn : String} {T : u_T} {N : Nat} (he : w[q]? = some (b, .inr (ci, fs))) (hc : vwCl[ci]? = some (Cn, T, N)) {index : Nat} {bytes : ByteArray} {maxL n : Nat} {retY : Option FieldType} (cw : CallW R s args own Cn index y bytes maxL retY wsy rm mc ms n) {st0 : List Value} (hn : As.length = n) (hsz : ls.size = nL) (hst : st0 = As.reverse ++ .ref b :: rest) (hroom : (rest.map fun v => v.category).sum ≤ 8) (d : decode cc pc = .ok (.invokevirtual index, 3)) (hf : cells + mc ≤ R.cells ∧ slots + ms ≤ R.slots)
    (kx : ∀ (k : Nat) (E : String) (ce : Cell) (q9 : Addr) (H1 : Heap) (locs1 : List Loc), res = Sum.inr k → E = exN k → va_P D vwCl w H1 → va_S (Afr ad s.heap.size) s.heap H1 locs1 → H1[q9]? = some ce → ce.vm = .none → s.vm.findClass E = some ce.cls → vx_W p l e R s m args below meth c H1 locs1 (cells + mc) (slots + ms) Q (F0 m pc ls rest) q9)
    (kk : ∀ (H1 : Heap) (locs1 : List Loc) (u : A), res = Sum.inl u → va_P D vwCl (wf u) H1 → va_S (Afr ad s.heap.size) s.heap H1 locs1 → W p l e R s m args below meth c H1 locs1 (cells + mc) (slots + ms) Q (F0 m (pc + 3) ls (.double (val u) :: rest))) : W p l e R s m args below meth c H locs cells slots Q (F0 m pc ls st0) := by
  obtain ⟨hx, hb, hml, hr, hown, hts, hlk⟩ := C
  refine vx_calld (vx_runV ⟨hx, hb, hml, hown, hts⟩ hM cw ⟨PX_blind, va_recv G.1 hP hc he, fun U hU hW => ⟨rfl, ⟨by rw [hU], by rw [hU]; exact hP, va_K.moved hW.alike G.1, NW.warm hW G.2.2⟩, by rw [hU]; exact XS.go hW hS hX⟩⟩ rfl hn hsz hst (lv_room hroom) d hf) hS (fun q _ h => Afr.mono hS.1 h) (fun q h => Afr.mono hS.1 h) (fun q _ h => Afr.mono hS.1 h) (fun E ce q9 k t H1 locs1 ht hvm hp hB hz1 hk1 hS1 hce hcv hcl => ?_) (fun r1 u t H1 locs1 ht hvm hw hB hz1 hk1 hS1 => ?_)
  · obtain ⟨hE, hB⟩ := hB
    rw [ht] at hB
    exact kx k E ce q9 H1 locs1 hp hE hB hS1 hce hcv hcl
  · rw [ht] at hB
    rw [hw.2]
    exact kk H1 locs1 u hw.1 hB hS1
theorem k_callXSv {A : Type} {res : Sum A Nat} {w : va_W} {wf : A → va_W} (C : Cx p s m args meth c cc nL ret own ws) (G : Gx D cs ad s) (hX : XS ad s.heap.size s s.heap) (hP : va_P D vwCl w H) (hS : va_S (Afr ad s.heap.size) s.heap H locs) {y : MethodName} {wsy : List Cond} {rm : Room} {As : List Value} {mc ms : Nat} (hM : vx_Met l y wsy rm (PX D cs ad H.size w (As)) (va_Qv (fun u => res = Sum.inl u) (fun u t => va_P D vwCl (wf u) t.heap) (Afr ad H.size)) (vx_X (fun k : Nat => res = Sum.inr k) (fun E k t => E = exN k ∧ va_P D vwCl w t.heap) (Afr ad H.size)) mc ms (Afr ad H.size)) {index : Nat} {bytes : ByteArray} {maxL n : Nat} {retY : Option FieldType} (cw : CallB R s args own index y bytes maxL retY wsy rm mc ms n ∧ (Cond.static y).before args s = true) {st0 : List Value} (hn : As.length = n) (hsz : ls.size = nL) (hst : st0 = As.reverse ++ rest) (hroom : (rest.map fun v => v.category).sum ≤ 8) (d : decode cc pc = .ok (.invokestatic index, 3)) (hf : cells + mc ≤ R.cells ∧ slots + ms ≤ R.slots)
    (kx : ∀ (k : Nat) (E : String) (ce : Cell) (q9 : Addr) (H1 : Heap) (locs1 : List Loc), res = Sum.inr k → E = exN k → va_P D vwCl w H1 → va_S (Afr ad s.heap.size) s.heap H1 locs1 → H1[q9]? = some ce → ce.vm = .none → s.vm.findClass E = some ce.cls → vx_W p l e R s m args below meth c H1 locs1 (cells + mc) (slots + ms) Q (F0 m pc ls rest) q9)
    (kk : ∀ (H1 : Heap) (locs1 : List Loc) (u : A), res = Sum.inl u → va_P D vwCl (wf u) H1 → va_S (Afr ad s.heap.size) s.heap H1 locs1 → W p l e R s m args below meth c H1 locs1 (cells + mc) (slots + ms) Q (F0 m (pc + 3) ls rest)) : W p l e R s m args below meth c H locs cells slots Q (F0 m pc ls st0) := by
  obtain ⟨hx, hb, hml, hr, hown, hts, hlk⟩ := C
  refine vx_callv (vx_runS ⟨hx, hb, hml, hown, hts⟩ hM cw ⟨PX_blind, fun U hU hW => ⟨rfl, ⟨by rw [hU], by rw [hU]; exact hP, va_K.moved hW.alike G.1, NW.warm hW G.2.2⟩, by rw [hU]; exact XS.go hW hS hX⟩⟩ rfl hn hsz hst (lv_room hroom) d hf) hS (fun q _ h => Afr.mono hS.1 h) (fun q h => Afr.mono hS.1 h) (fun q _ h => Afr.mono hS.1 h) (fun E ce q9 k t H1 locs1 ht hvm hp hB hz1 hk1 hS1 hce hcv hcl => ?_) (fun u t H1 locs1 ht hvm hw hB hz1 hk1 hS1 => ?_)
  · obtain ⟨hE, hB⟩ := hB
    rw [ht] at hB
    exact kx k E ce q9 H1 locs1 hp hE hB hS1 hce hcv hcl
  · rw [ht] at hB
    exact kk H1 locs1 u hw hB hS1
end THROW
