/-! THE LAW, rows: its two arrays; calls of a method with a table; what is caught -/
def NC (U : State) : Prop := ∀ a b : Nat, 1 ≤ a → a ≤ 3 → 1 ≤ b → b ≤ 3 → a ≠ b → va_Nc (exN a) (exN b) U
theorem NC.moved {u U : State} (hv : u.vm.Alike U.vm) (h : NC u) : NC U := fun a b h1 h2 h3 h4 h5 => va_Nc.moved hv (h a b h1 h2 h3 h4 h5)
def ycL : List Cond := [.castable (exN 1) (exN 1), .castable (exN 2) (exN 2), .castable (exN 3) (exN 3)]
theorem ycL_tabs : ∀ w ∈ ycL, w.onTables = true := by decide +kernel
theorem ycL_in : ∀ w ∈ ycL, w ∈ tables_1 := by decide +kernel
theorem ycL_kind : (ycL.all fun w => match w with
    | .castable .. => true
    | _ => false) = true := by decide +kernel
def YC (U : State) : Prop := ∀ w ∈ ycL, w.before #[] U = true
theorem YC.same {u U : State} (hv : u.vm = U.vm) (h : YC u) : YC U := fun w hw => va_tabs (ycL_tabs w hw) hv (h w hw)
theorem YC.warm {s U : State} (hW : s.WarmedH U.vm) (h : YC s) : YC U := by
  intro w hw
  have hk := List.all_eq_true.mp ycL_kind w hw
  have h0 : w.before #[] (s.setVm U.vm) = true := by
    cases w with
    | castable a b => rw [Cond.castable_setVm hW.alike]; exact h _ hw
    | _ => exact absurd hk (by simp)
  exact va_tabs (ycL_tabs w hw) (u := s.setVm U.vm) (rfl : (s.setVm U.vm).vm = U.vm) h0
theorem YC.at {s : State} {args : Array Value} (h : YC s) {a : Nat} (h1 : 1 ≤ a) (h2 : a ≤ 3) : (Cond.castable (exN a) (exN a)).before args s = true := by
  have hm : Cond.castable (exN a) (exN a) ∈ ycL := by
    rcases (show a = 1 ∨ a = 2 ∨ a = 3 by omega) with rfl | rfl | rfl
    · exact List.mem_of_getElem? (i := 0) rfl
    · exact List.mem_of_getElem? (i := 1) rfl
    · exact List.mem_of_getElem? (i := 2) rfl
  exact va_tabs (ycL_tabs _ hm) rfl (h _ hm)
/-- what a wrapper stands on -/
def PW (D : va_G) (cs : Nat → ClassId) (ad : Nat → Nat) (sz : Nat) (w : va_W) (av : List Value) : Array Value → State → Prop := va_Pc av (fun U => (((U.heap.size = sz ∧ va_P D vwCl w U.heap ∧ va_K D vwCl (tyA cs) U ∧ NW U) ∧ XS ad sz U U.heap) ∧ NC U) ∧ YC U)
theorem PW_blind {D : va_G} {cs : Nat → ClassId} {ad : Nat → Nat} {sz : Nat} {w : va_W} {av : List Value} : FrameBlind (PW D cs ad sz w av) := by
  intro a U g mk h
  obtain ⟨h1, ⟨⟨⟨h2, h3, h4, h5⟩, h6⟩, h7⟩, h8⟩ := h
  exact ⟨h1, ⟨⟨⟨h2, h3, va_K.moved (u := U) (U := U.calling g mk a) (Vm.Alike.refl U.vm) h4, NW.same (u := U) (U := U.calling g mk a) rfl h5⟩, XS.same (u := U) (U := U.calling g mk a) rfl h6⟩, NC.moved (u := U) (U := U.calling g mk a) (Vm.Alike.refl U.vm) h7⟩, YC.same (u := U) (U := U.calling g mk a) rfl h8⟩
section LROWS
variable {p : Program} {l : Launch} {e : Env} {R : Room} {s : State} {m : MethodId} {args : Array Value} {below : List Frame} {meth : Method} {c : Code} {H : Heap} {locs : List Loc} {cells slots : Nat} {Q : State → Prop}
variable {cc : ByteArray} {pc : Nat} {ls : Array Slot} {rest : List Value} {nL : Nat} {ret : Option FieldType} {own : String} {ws : List Cond} {D : va_G} {cs : Nat → ClassId} {ad : Nat → Nat}
/-- a method with a table of its own -/
theorem k_metW {y : MethodName} {wsy ws' : List Cond} {rm : Room} {w : va_W} {av : List Value} {sz mc ms : Nat} {Qc : Array Value → State → Outcome → State → Prop} {hh : List (Nat × Nat × Nat × Nat)} (hy : plainName y.cls = true) (hw : wsy = Cond.codeWith y cc nL ret hh :: ws') (hlen : (lg_sl av).length ≤ nL) (hAd : adOK ad)
    (body : ∀ (p : Program) (e : Env) (s : State) (m : MethodId) (below : List Frame) (meth : Method) (c : Code) (ls : Array Slot), Cx p s m av.toArray meth c cc nL ret y.cls wsy → Gx D cs ad s → XS ad s.heap.size s s.heap → NC s → YC s → c.exceptionTable.toList = tableOf hh → va_P D vwCl w s.heap → s.heap.size = sz → lv_has ls nL (lv_args 0 av) → va_S (Afr ad s.heap.size) s.heap s.heap [] → W p l e rm s m av.toArray below meth c s.heap [] 0 0 (MQ below Qc av.toArray s mc ms (Afr ad sz)) (F0 m 0 ls [])) : Met l y wsy rm (PW D cs ad sz w av) Qc mc ms (Afr ad sz) := by
  refine va_MetW (cc := cc) (maxL := nL) (ret := ret) (hh := hh) hy hw ?_
  intro p e s m args below meth c s₁ B hml hv
  obtain ⟨rfl, ⟨⟨⟨hsz, hP, hK, hN⟩, hX⟩, hNC⟩, hYC⟩ := hv
  have hts := atoms_spec (ws := wsy) B.pre
  have ht := vx_table (x := y) B (hts (Cond.codeWith y cc nL ret hh) (by rw [hw]; exact List.mem_cons_self))
  have hl := lv_entry av (n := nL) hlen
  rw [lg_entry_eq]
  generalize (lg_sl av ++ List.replicate (nL - (lg_sl av).length) Slot.unset).toArray = ls at hl ⊢
  exact body p e s m below meth c ls ⟨B.exec, B.bytes, hml, B.returns, findClass_of_methodNamed B.named, hts, B.notSynchronized⟩ ⟨hK, hAd, hN⟩ (by rw [hsz]; exact hX) hNC hYC ht hP hsz hl va_S.rf
/-- the law calls a wrapper -/
theorem k_callSWi (C : Cx p s m args meth c cc nL ret own ws) (G : Gx D cs ad s) (hX : XS ad s.heap.size s s.heap) (hN : NC s) (hY : YC s) {w w' : va_W} (hP : va_P D vwCl w H) (hS : va_S (Afr ad s.heap.size) s.heap H locs) {y : MethodName} {wsy : List Cond} {rm : Room} {As : List Value} {r : Int32} {mc ms : Nat} (hM : Met l y wsy rm (PW D cs ad H.size w As) (va_Qi (fun r' (_ : Unit) => r' = r) (fun _ t => va_P D vwCl w' t.heap) (Afr ad H.size)) mc ms (Afr ad H.size)) {index : Nat} {bytes : ByteArray} {maxL n : Nat} {retY : Option FieldType} {hh : List (Nat × Nat × Nat × Nat)} (cw : vx_CSW R s args own index y bytes maxL retY hh wsy rm mc ms n) {st0 : List Value} (hn : As.length = n) (hsz : ls.size = nL) (hst : st0 = As.reverse ++ rest) (hroom : (rest.map fun v => v.category).sum ≤ 8) (d : decode cc pc = .ok (.invokestatic index, 3)) (hf : cells + mc ≤ R.cells ∧ slots + ms ≤ R.slots)
    (kk : ∀ (H1 : Heap) (locs1 : List Loc), va_P D vwCl w' H1 → va_S (Afr ad s.heap.size) s.heap H1 locs1 → W p l e R s m args below meth c H1 locs1 (cells + mc) (slots + ms) Q (F0 m (pc + 3) ls (.int r :: rest))) : W p l e R s m args below meth c H locs cells slots Q (F0 m pc ls st0) := by
  obtain ⟨hx, hb, hml, hr, hown, hts, hlk⟩ := C
  refine va_calli (vx_runSW ⟨hx, hb, hml, hown, hts⟩ hM cw ⟨PW_blind, fun U hU hW => ⟨rfl, ⟨⟨⟨by rw [hU], by rw [hU]; exact hP, va_K.moved hW.alike G.1, NW.warm hW G.2.2⟩, by rw [hU]; exact XS.go hW hS hX⟩, NC.moved hW.alike hN⟩, YC.warm hW hY⟩⟩ rfl hn hsz hst (lv_room hroom) d hf) hS (fun q _ h => Afr.mono hS.1 h) (fun q h => Afr.mono hS.1 h) (fun r1 u t H1 locs1 ht hvm hw hB hz1 hk1 hS1 => ?_)
  rw [ht] at hB
  rw [hw]
  exact kk H1 locs1 hB hS1
/-- a method of the law without a table -/
theorem k_metP {y : MethodName} {wsy ws' : List Cond} {rm : Room} {w : va_W} {av : List Value} {sz mc ms : Nat} {Qc : Array Value → State → Outcome → State → Prop} (hy : plainName y.cls = true) (hw : wsy = Cond.code y cc nL ret :: ws') (hlen : (lg_sl av).length ≤ nL) (hAd : adOK ad)
    (body : ∀ (p : Program) (e : Env) (s : State) (m : MethodId) (below : List Frame) (meth : Method) (c : Code) (ls : Array Slot), Cx p s m av.toArray meth c cc nL ret y.cls wsy → Gx D cs ad s → XS ad s.heap.size s s.heap → NC s → YC s → va_P D vwCl w s.heap → s.heap.size = sz → lv_has ls nL (lv_args 0 av) → va_S (Afr ad s.heap.size) s.heap s.heap [] → W p l e rm s m av.toArray below meth c s.heap [] 0 0 (MQ below Qc av.toArray s mc ms (Afr ad sz)) (F0 m 0 ls [])) : Met l y wsy rm (PW D cs ad sz w av) Qc mc ms (Afr ad sz) := by
  refine Met.ofW (cc := cc) (maxL := nL) (ret := ret) hy hw ?_
  intro p e s m args below meth c s₁ B hml hv
  obtain ⟨rfl, ⟨⟨⟨hsz, hP, hK, hN⟩, hX⟩, hNC⟩, hYC⟩ := hv
  have hts := atoms_spec (ws := wsy) B.pre
  have hl := lv_entry av (n := nL) hlen
  rw [lg_entry_eq]
  generalize (lg_sl av ++ List.replicate (nL - (lg_sl av).length) Slot.unset).toArray = ls at hl ⊢
  exact body p e s m below meth c ls ⟨B.exec, B.bytes, hml, B.returns, findClass_of_methodNamed B.named, hts, B.notSynchronized⟩ ⟨hK, hAd, hN⟩ (by rw [hsz]; exact hX) hNC hYC hP hsz hl va_S.rf
theorem k_callSPi (C : Cx p s m args meth c cc nL ret own ws) (G : Gx D cs ad s) (hX : XS ad s.heap.size s s.heap) (hN : NC s) (hY : YC s) {w w' : va_W} (hP : va_P D vwCl w H) (hS : va_S (Afr ad s.heap.size) s.heap H locs) {y : MethodName} {wsy : List Cond} {rm : Room} {As : List Value} {r : Int32} {mc ms : Nat} (hM : Met l y wsy rm (PW D cs ad H.size w As) (va_Qi (fun r' (_ : Unit) => r' = r) (fun _ t => va_P D vwCl w' t.heap) (Afr ad H.size)) mc ms (Afr ad H.size)) {index : Nat} {bytes : ByteArray} {maxL n : Nat} {retY : Option FieldType} (cw : CallB R s args own index y bytes maxL retY wsy rm mc ms n ∧ (Cond.static y).before args s = true) {st0 : List Value} (hn : As.length = n) (hsz : ls.size = nL) (hst : st0 = As.reverse ++ rest) (hroom : (rest.map fun v => v.category).sum ≤ 8) (d : decode cc pc = .ok (.invokestatic index, 3)) (hf : cells + mc ≤ R.cells ∧ slots + ms ≤ R.slots)
    (kk : ∀ (H1 : Heap) (locs1 : List Loc), va_P D vwCl w' H1 → va_S (Afr ad s.heap.size) s.heap H1 locs1 → W p l e R s m args below meth c H1 locs1 (cells + mc) (slots + ms) Q (F0 m (pc + 3) ls (.int r :: rest))) : W p l e R s m args below meth c H locs cells slots Q (F0 m pc ls st0) := by
  obtain ⟨hx, hb, hml, hr, hown, hts, hlk⟩ := C
  refine va_calli (va_runS ⟨hx, hb, hml, hown, hts⟩ hM cw ⟨PW_blind, fun U hU hW => ⟨rfl, ⟨⟨⟨by rw [hU], by rw [hU]; exact hP, va_K.moved hW.alike G.1, NW.warm hW G.2.2⟩, by rw [hU]; exact XS.go hW hS hX⟩, NC.moved hW.alike hN⟩, YC.warm hW hY⟩⟩ rfl hn hsz hst (lv_room hroom) d hf) hS (fun q _ h => Afr.mono hS.1 h) (fun q h => Afr.mono hS.1 h) (fun r1 u t H1 locs1 ht hvm hw hB hz1 hk1 hS1 => ?_)
  rw [ht] at hB
  rw [hw]
  exact kk H1 locs1 hB hS1
theorem k_callSPl (C : Cx p s m args meth c cc nL ret own ws) (G : Gx D cs ad s) (hX : XS ad s.heap.size s s.heap) (hN : NC s) (hY : YC s) {w w' : va_W} (hP : va_P D vwCl w H) (hS : va_S (Afr ad s.heap.size) s.heap H locs) {y : MethodName} {wsy : List Cond} {rm : Room} {As : List Value} {r : Int64} {mc ms : Nat} (hM : Met l y wsy rm (PW D cs ad H.size w As) (va_Ql (fun r' (_ : Unit) => r' = r) (fun _ t => va_P D vwCl w' t.heap) (Afr ad H.size)) mc ms (Afr ad H.size)) {index : Nat} {bytes : ByteArray} {maxL n : Nat} {retY : Option FieldType} (cw : CallB R s args own index y bytes maxL retY wsy rm mc ms n ∧ (Cond.static y).before args s = true) {st0 : List Value} (hn : As.length = n) (hsz : ls.size = nL) (hst : st0 = As.reverse ++ rest) (hroom : (rest.map fun v => v.category).sum ≤ 8) (d : decode cc pc = .ok (.invokestatic index, 3)) (hf : cells + mc ≤ R.cells ∧ slots + ms ≤ R.slots)
    (kk : ∀ (H1 : Heap) (locs1 : List Loc), va_P D vwCl w' H1 → va_S (Afr ad s.heap.size) s.heap H1 locs1 → W p l e R s m args below meth c H1 locs1 (cells + mc) (slots + ms) Q (F0 m (pc + 3) ls (.long r :: rest))) : W p l e R s m args below meth c H locs cells slots Q (F0 m pc ls st0) := by
  obtain ⟨hx, hb, hml, hr, hown, hts, hlk⟩ := C
  refine va_calll (va_runS ⟨hx, hb, hml, hown, hts⟩ hM cw ⟨PW_blind, fun U hU hW => ⟨rfl, ⟨⟨⟨by rw [hU], by rw [hU]; exact hP, va_K.moved hW.alike G.1, NW.warm hW G.2.2⟩, by rw [hU]; exact XS.go hW hS hX⟩, NC.moved hW.alike hN⟩, YC.warm hW hY⟩⟩ rfl hn hsz hst (lv_room hroom) d hf) hS (fun q _ h => Afr.mono hS.1 h) (fun q h => Afr.mono hS.1 h) (fun r1 u t H1 locs1 ht hvm hw hB hz1 hk1 hS1 => ?_)
  rw [ht] at hB
  rw [hw]
  exact kk H1 locs1 hB hS1
theorem k_lcmp (C : Cx p s m args meth c cc nL ret own ws) {x y : Int64} {z : Int32} (ez : z = lg_cmp x y) (d : decode cc pc = .ok (.lcmp, 1)) (kk : W p l e R s m args below meth c H locs cells slots Q (F0 m (pc + 1) ls (.int z :: rest))) : W p l e R s m args below meth c H locs cells slots Q (F0 m pc ls (.long y :: .long x :: rest)) := by
  subst ez
  exact W.lcmp C.1 C.2.1 d kk
end LROWS
theorem tb_out7 {x : Int32} (h0 : ¬ x = 0) (h1 : ¬ x = 1) (h2 : ¬ x = 2) (h3 : ¬ x = 3) (h4 : ¬ x = 4) (h5 : ¬ x = 5) (h6 : ¬ x = 6) : x.toInt < 0 ∨ 6 < x.toInt := by
  have k : ∀ (y : Int32) (v : Int), y.toInt = v → ¬ x = y → ¬ x.toInt = v := fun y v e h z => h (Int32.toInt_inj.mp (z.trans e.symm))
  have := k 0 0 rfl h0
  have := k 1 1 rfl h1
  have := k 2 2 rfl h2
  have := k 3 3 rfl h3
  have := k 4 4 rfl h4
  have := k 5 5 rfl h5
  have := k 6 6 rfl h6
  omega
def okv {α : Type} (o : Option (Sum α Nat)) : Option α := match o with
  | some (.inl u) => some u
  | _ => none
theorem okv_out {α : Type} {o : Option (Sum α Nat)} {u : α} (h : okv o = some u) : o = some (Sum.inl u) := by
  match o, h with
  | none, h => cases h
  | some (.inl v), h => cases h; rfl
  | some (.inr k), h => cases h
def fwt {α : Type} (o : Option (Sum α Nat)) (g : Nat → Option α) : Option α := match o with
  | some (.inl u) => some u
  | some (.inr k) => g k
  | none => none
theorem fwt_out {α : Type} {o : Option (Sum α Nat)} {g : Nat → Option α} {u : α} (h : fwt o g = some u) : ∃ r, o = some r ∧ (∀ v, r = Sum.inl v → v = u) ∧ ∀ k, r = Sum.inr k → g k = some u := by
  match o, h with
  | none, h => cases h
  | some (.inl v), h => cases h; exact ⟨_, rfl, fun w e => (by cases e; rfl), fun k e => (by cases e)⟩
  | some (.inr k), h => exact ⟨_, rfl, fun w e => (by cases e), fun j e => (by cases e; exact h)⟩
theorem okv_i {α : Type} {u : α} : okv (some (Sum.inl u)) = some u := rfl
theorem fwt_i {α : Type} {u : α} (g : Nat → Option α) : fwt (some (Sum.inl u)) g = some u := rfl
theorem fwt_r {α : Type} {k : Nat} (g : Nat → Option α) : fwt (some (Sum.inr k)) g = g k := rfl
