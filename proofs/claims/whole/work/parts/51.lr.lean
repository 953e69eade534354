/-! THE LAW, rows: its two arrays; calls of a method with a table; what is caught -/
def NC (U : State) : Prop := ∀ a b : Nat, 1 ≤ a → a ≤ 3 → 1 ≤ b → b ≤ 3 → a ≠ b → va_Nc (exN a) (exN b) U
theorem NC.moved {u U : State} (hv : u.vm.Alike U.vm) (h : NC u) : NC U := fun a b h1 h2 h3 h4 h5 => va_Nc.moved hv (h a b h1 h2 h3 h4 h5)
def ycL : List Cond := [.castable (exN 1) (exN 1), .castable (exN 2) (exN 2), .castable (exN 3) (exN 3)]
theorem ycL_tabs : ∀ w ∈ ycL, w.onTables = true := by decide +kernel
theorem ycL_in : ∀ w ∈ ycL, w ∈ tables_1 := by decide +kernel
theorem ycL_kind : (ycL.all fun w => match w with
    | .castable .. => true
    | _ => false) = true := by decide +kernel
def YC (U : State) : Prop := ∀ w ∈ ycL, w.before #[] U = true
theorem YC.same {u U : State} (hv : u.vm = U.vm) (h : YC u) : YC U := fun w hw => va_tabs (ycL_tabs w hw) hv (h w hw)
theorem YC.warm {s U : State} (hW : s.WarmedH U.vm) (h : YC s) : YC U := by
  intro w hw
  have hk := List.all_eq_true.mp ycL_kind w hw
  have h0 : w.before #[] (s.setVm U.vm) = true := by
    cases w with
    | castable a b => rw [Cond.castable_setVm hW.alike]; exact h _ hw
    | _ => exact absurd hk (by simp)
  exact va_tabs (ycL_tabs w hw) (u := s.setVm U.vm) (rfl : (s.setVm U.vm).vm = U.vm) h0
theorem YC.at {s : State} {args : Array Value} (h : YC s) {a : Nat} (h1 : 1 ≤ a) (h2 : a ≤ 3) : (Cond.castable (exN a) (exN a)).before args s = true := by
  have hm : Cond.castable (exN a) (exN a) ∈ ycL := by
    rcases (show a = 1 ∨ a = 2 ∨ a = 3 by omega) with rfl | rfl | rfl
    · exact List.mem_of_getElem? (i := 0) rfl
    · exact List.mem_of_getElem? (i := 1) rfl
    · exact List.mem_of_getElem? (i := 2) rfl
  exact va_tabs (ycL_tabs _ hm) rfl (h _ hm)
/-- what a wrapper stands on -/
def PW (D : va_G) (cs : Nat → ClassId) (ad : Nat → Nat) (sz : Nat) (w : va_W) (av : List Value) : Array Value → State → Prop := va_Pc av (fun U => (((U.heap.size = sz ∧ va_P D vwCl w U.heap ∧ va_K D vwCl (tyA cs) U ∧ NW U) ∧ XS ad sz U U.heap) ∧ NC U) ∧ YC U)
theorem PW_blind {D : va_G} {cs : Nat → ClassId} {ad : Nat → Nat} {sz : Nat} {w : va_W} {av : List Value} : FrameBlind (PW D cs ad sz w av) := by
  intro a U g mk h
  obtain ⟨h1, ⟨⟨⟨h2, h3, h4, h5⟩, h6⟩, h7⟩, h8⟩ := h
  exact ⟨h1, ⟨⟨⟨h2, h3, va_K.moved (u := U) (U := U.calling g mk a) (Vm.Alike.refl U.vm) h4, NW.same (u := U) (U := U.calling g mk a) rfl h5⟩, XS.same (u := U) (U := U.calling g mk a) rfl h6⟩, NC.moved (u := U) (U := U.calling g mk a) (Vm.Alike.refl U.vm) h7⟩, YC.same (u := U) (U := U.calling g mk a) rfl h8⟩
theorem P_ext {D : va_G} {cl : List vw_C} {ad : Nat → Nat} {F F' : Nat → va_E} {H : Heap} (h : va_P D cl (wMk ad F) H) (he : ∀ p, p < 97 → va_at D cl (ad p, F p) H → va_at D cl (ad p, F' p) H) : va_P D cl (wMk ad F') H := by
  intro k q hk
  obtain ⟨h1, rfl⟩ := wMk_inv hk
  exact he k h1 (h k _ (wMk_at h1))
theorem arr1 (c : ClassId) {f g : Nat → Value} (h : f 0 = g 0) : arrV c 1 f = arrV c 1 g := by
  unfold arrV
  congr 1
  apply Array.ext
  · simp
  · intro i h1 h2
    simp at h1
    subst h1
    simp [h]
section LROWS
variable {p : Program} {l : Launch} {e : Env} {R : Room} {s : State} {m : MethodId} {args : Array Value} {below : List Frame} {meth : Method} {c : Code} {H : Heap} {locs : List Loc} {cells slots : Nat} {Q : State → Prop}
variable {cc : ByteArray} {pc : Nat} {ls : Array Slot} {rest : List Value} {nL : Nat} {ret : Option FieldType} {own : String} {ws : List Cond} {D : va_G} {cs : Nat → ClassId} {ad : Nat → Nat}
variable {Ls : Nat → SL} {Hs T M : SL} {dr hs o : Int64} {od : UInt64}
theorem wE_oth {o2 : Int64} {p : Nat} (h : p ≠ 95) : wE cs ad Ls Hs T M dr hs o2 od p = wE cs ad Ls Hs T M dr hs o od p := by
  unfold wE
  by_cases h1 : p < 5
  · rw [if_pos h1, if_pos h1]
  · rw [if_neg h1, if_neg h1]
    by_cases h2 : p < 89
    · rw [if_pos h2, if_pos h2]
    · rw [if_neg h2, if_neg h2]
      by_cases h3 : p < 95
      · rw [if_pos h3, if_pos h3]
      · rw [if_neg h3, if_neg h3, if_neg h, if_neg h]
theorem wE_othD {o2 : UInt64} {p : Nat} (h : p < 97) (h6 : p ≠ 96) : wE cs ad Ls Hs T M dr hs o o2 p = wE cs ad Ls Hs T M dr hs o od p := by
  unfold wE
  by_cases h1 : p < 5
  · rw [if_pos h1, if_pos h1]
  · rw [if_neg h1, if_neg h1]
    by_cases h2 : p < 89
    · rw [if_pos h2, if_pos h2]
    · rw [if_neg h2, if_neg h2]
      by_cases h3 : p < 95
      · rw [if_pos h3, if_pos h3]
      · rw [if_neg h3, if_neg h3, if_pos (show p = 95 by omega), if_pos (show p = 95 by omega)]
theorem k_lastO (C : Cx p s m args meth c cc nL ret own ws) (G : Gx D cs ad s) (hP : va_P D vwCl (wA cs ad Ls Hs T M dr hs o od) H) (hS : va_S (Afr ad s.heap.size) s.heap H locs) {x : Int64} (d : decode cc pc = .ok (.lastore, 1))
    (kk : ∀ (H1 : Heap) (locs1 : List Loc), va_P D vwCl (wA cs ad Ls Hs T M dr hs x od) H1 → va_S (Afr ad s.heap.size) s.heap H1 locs1 → W p l e R s m args below meth c H1 locs1 cells slots Q (F0 m (pc + 1) ls rest)) : W p l e R s m args below meth c H locs cells slots Q (F0 m pc ls (.long x :: .int 0 :: .ref (ad 95) :: rest)) := by
  obtain ⟨hx, hb, hml, hr, hown, hts, hlk⟩ := C
  refine va_last hx hb G.1 hP (wMk_D G.2.1 s.heap.size) hS 95 3 (o_out) rfl (chk_in rfl) d (fun H1 locs1 hP1 _ hS1 => ?_)
  refine kk H1 locs1 ?_ hS1
  have h2 : va_P D vwCl (wMk ad (fun q => if q = 95 then .inl (cs 3, 1, .inr (.inl (vp_updL (fun _ => o) (0 : Int32).toNatClampNeg x))) else wE cs ad Ls Hs T M dr hs o od q)) H1 := by
    rw [← wMk_set (F := wE cs ad Ls Hs T M dr hs o od) (p := 95) (by omega) (if_pos rfl) (fun q _ hq => if_neg hq)]
    exact hP1
  refine P_ext h2 (fun q hq ha => ?_)
  by_cases h5 : q = 95
  · subst h5
    rw [if_pos rfl] at ha
    have e1 : wE cs ad Ls Hs T M dr hs x od 95 = .inl (cs 3, 1, .inr (.inl (fun _ => x))) := by
      unfold wE
      rw [if_neg (by omega), if_neg (by omega), if_neg (by omega), if_pos rfl]
    rw [e1]
    show H1[ad 95]? = some (vp_cell _ _)
    have ha2 : H1[ad 95]? = some (vp_cell (cs 3) (1, .inr (.inl (vp_updL (fun _ => o) (0 : Int32).toNatClampNeg x)))) := ha
    rw [ha2]
    refine congrArg some ?_
    show arrV (cs 3) 1 (fun j => .long (vp_updL (fun _ => o) (0 : Int32).toNatClampNeg x j)) = arrV (cs 3) 1 (fun j => .long ((fun _ => x) j))
    exact arr1 (cs 3) rfl
  · rw [if_neg h5] at ha
    rw [wE_oth h5]
    exact ha
theorem k_dastO (C : Cx p s m args meth c cc nL ret own ws) (G : Gx D cs ad s) (hP : va_P D vwCl (wA cs ad Ls Hs T M dr hs o od) H) (hS : va_S (Afr ad s.heap.size) s.heap H locs) {x : UInt64} (d : decode cc pc = .ok (.dastore, 1))
    (kk : ∀ (H1 : Heap) (locs1 : List Loc), va_P D vwCl (wA cs ad Ls Hs T M dr hs o x) H1 → va_S (Afr ad s.heap.size) s.heap H1 locs1 → W p l e R s m args below meth c H1 locs1 cells slots Q (F0 m (pc + 1) ls rest)) : W p l e R s m args below meth c H locs cells slots Q (F0 m pc ls (.double x :: .int 0 :: .ref (ad 96) :: rest)) := by
  obtain ⟨hx, hb, hml, hr, hown, hts, hlk⟩ := C
  refine va_dast hx hb G.1 hP (wMk_D G.2.1 s.heap.size) hS 96 4 (o_outD) rfl (chk_in rfl) d (fun H1 locs1 hP1 _ hS1 => ?_)
  refine kk H1 locs1 ?_ hS1
  have h2 : va_P D vwCl (wMk ad (fun q => if q = 96 then .inl (cs 4, 1, .inr (.inr (.inr (.inl (vf_upd (fun _ => od) (0 : Int32).toNatClampNeg x))))) else wE cs ad Ls Hs T M dr hs o od q)) H1 := by
    rw [← wMk_set (F := wE cs ad Ls Hs T M dr hs o od) (p := 96) (by omega) (if_pos rfl) (fun q _ hq => if_neg hq)]
    exact hP1
  refine P_ext h2 (fun q hq ha => ?_)
  by_cases h5 : q = 96
  · subst h5
    rw [if_pos rfl] at ha
    have e1 : wE cs ad Ls Hs T M dr hs o x 96 = .inl (cs 4, 1, .inr (.inr (.inr (.inl (fun _ => x))))) := by
      unfold wE
      rw [if_neg (by omega), if_neg (by omega), if_neg (by omega), if_neg (by omega)]
    rw [e1]
    show H1[ad 96]? = some (vp_cell _ _)
    have ha2 : H1[ad 96]? = some (vp_cell (cs 4) (1, .inr (.inr (.inr (.inl (vf_upd (fun _ => od) (0 : Int32).toNatClampNeg x)))))) := ha
    rw [ha2]
    refine congrArg some ?_
    show arrV (cs 4) 1 (fun j => .double (vf_upd (fun _ => od) (0 : Int32).toNatClampNeg x j)) = arrV (cs 4) 1 (fun j => .double ((fun _ => x) j))
    exact arr1 (cs 4) rfl
  · rw [if_neg h5] at ha
    rw [wE_othD hq h5]
    exact ha
theorem k_laldO (C : Cx p s m args meth c cc nL ret own ws) (G : Gx D cs ad s) (hP : va_P D vwCl (wA cs ad Ls Hs T M dr hs o od) H) (d : decode cc pc = .ok (.laload, 1))
    (kk : W p l e R s m args below meth c H locs cells slots Q (F0 m (pc + 1) ls (.long o :: rest))) : W p l e R s m args below meth c H locs cells slots Q (F0 m pc ls (.int 0 :: .ref (ad 95) :: rest)) :=
  va_lald C.1 C.2.1 G.1 hP 95 3 o_out rfl (chk_in rfl) d kk
theorem k_daldO (C : Cx p s m args meth c cc nL ret own ws) (G : Gx D cs ad s) (hP : va_P D vwCl (wA cs ad Ls Hs T M dr hs o od) H) (d : decode cc pc = .ok (.daload, 1))
    (kk : W p l e R s m args below meth c H locs cells slots Q (F0 m (pc + 1) ls (.double od :: rest))) : W p l e R s m args below meth c H locs cells slots Q (F0 m pc ls (.int 0 :: .ref (ad 96) :: rest)) :=
  va_dald C.1 C.2.1 G.1 hP 96 4 o_outD rfl (chk_in rfl) d kk
/-- a method with a table of its own -/
theorem k_metW {y : MethodName} {wsy ws' : List Cond} {rm : Room} {w : va_W} {av : List Value} {sz mc ms : Nat} {Qc : Array Value → State → Outcome → State → Prop} {hh : List (Nat × Nat × Nat × Nat)} (hy : plainName y.cls = true) (hw : wsy = Cond.codeWith y cc nL ret hh :: ws') (hlen : (lg_sl av).length ≤ nL) (hAd : adOK ad)
    (body : ∀ (p : Program) (e : Env) (s : State) (m : MethodId) (below : List Frame) (meth : Method) (c : Code) (ls : Array Slot), Cx p s m av.toArray meth c cc nL ret y.cls wsy → Gx D cs ad s → XS ad s.heap.size s s.heap → NC s → YC s → c.exceptionTable.toList = tableOf hh → va_P D vwCl w s.heap → s.heap.size = sz → lv_has ls nL (lv_args 0 av) → va_S (Afr ad s.heap.size) s.heap s.heap [] → W p l e rm s m av.toArray below meth c s.heap [] 0 0 (MQ below Qc av.toArray s mc ms (Afr ad sz)) (F0 m 0 ls [])) : Met l y wsy rm (PW D cs ad sz w av) Qc mc ms (Afr ad sz) := by
  refine va_MetW (cc := cc) (maxL := nL) (ret := ret) (hh := hh) hy hw ?_
  intro p e s m args below meth c s₁ B hml hv
  obtain ⟨rfl, ⟨⟨⟨hsz, hP, hK, hN⟩, hX⟩, hNC⟩, hYC⟩ := hv
  have hts := atoms_spec (ws := wsy) B.pre
  have ht := vx_table (x := y) B (hts (Cond.codeWith y cc nL ret hh) (by rw [hw]; exact List.mem_cons_self))
  have hl := lv_entry av (n := nL) hlen
  rw [lg_entry_eq]
  generalize (lg_sl av ++ List.replicate (nL - (lg_sl av).length) Slot.unset).toArray = ls at hl ⊢
  exact body p e s m below meth c ls ⟨B.exec, B.bytes, hml, B.returns, findClass_of_methodNamed B.named, hts, B.notSynchronized⟩ ⟨hK, hAd, hN⟩ (by rw [hsz]; exact hX) hNC hYC ht hP hsz hl va_S.rf
/-- the law calls a wrapper -/
theorem k_callSWi (C : Cx p s m args meth c cc nL ret own ws) (G : Gx D cs ad s) (hX : XS ad s.heap.size s s.heap) (hN : NC s) (hY : YC s) {w w' : va_W} (hP : va_P D vwCl w H) (hS : va_S (Afr ad s.heap.size) s.heap H locs) {y : MethodName} {wsy : List Cond} {rm : Room} {As : List Value} {r : Int32} {mc ms : Nat} (hM : Met l y wsy rm (PW D cs ad H.size w As) (va_Qi (fun r' (_ : Unit) => r' = r) (fun _ t => va_P D vwCl w' t.heap) (Afr ad H.size)) mc ms (Afr ad H.size)) {index : Nat} {bytes : ByteArray} {maxL n : Nat} {retY : Option FieldType} {hh : List (Nat × Nat × Nat × Nat)} (cw : vx_CSW R s args own index y bytes maxL retY hh wsy rm mc ms n) {st0 : List Value} (hn : As.length = n) (hsz : ls.size = nL) (hst : st0 = As.reverse ++ rest) (hroom : (rest.map fun v => v.category).sum ≤ 8) (d : decode cc pc = .ok (.invokestatic index, 3)) (hf : cells + mc ≤ R.cells ∧ slots + ms ≤ R.slots)
    (kk : ∀ (H1 : Heap) (locs1 : List Loc), va_P D vwCl w' H1 → va_S (Afr ad s.heap.size) s.heap H1 locs1 → W p l e R s m args below meth c H1 locs1 (cells + mc) (slots + ms) Q (F0 m (pc + 3) ls (.int r :: rest))) : W p l e R s m args below meth c H locs cells slots Q (F0 m pc ls st0) := by
  obtain ⟨hx, hb, hml, hr, hown, hts, hlk⟩ := C
  refine va_calli (vx_runSW ⟨hx, hb, hml, hown, hts⟩ hM cw ⟨PW_blind, fun U hU hW => ⟨rfl, ⟨⟨⟨by rw [hU], by rw [hU]; exact hP, va_K.moved hW.alike G.1, NW.warm hW G.2.2⟩, by rw [hU]; exact XS.go hW hS hX⟩, NC.moved hW.alike hN⟩, YC.warm hW hY⟩⟩ rfl hn hsz hst (lv_room hroom) d hf) hS (fun q _ h => Afr.mono hS.1 h) (fun q h => Afr.mono hS.1 h) (fun r1 u t H1 locs1 ht hvm hw hB hz1 hk1 hS1 => ?_)
  rw [ht] at hB
  rw [hw]
  exact kk H1 locs1 hB hS1
theorem k_callVd (C : Cx p s m args meth c cc nL ret own ws) (G : Gx D cs ad s) {w w' : va_W} (hP : va_P D vwCl w H) (hS : va_S (Afr ad s.heap.size) s.heap H locs) {y : MethodName} {wsy : List Cond} {rm : Room} {b : Nat} {As : List Value} {r : UInt64} {mc ms : Nat} (hM : Met l y wsy rm (PA D cs H.size w (.ref b :: As)) (va_Qd (fun r' (_ : Unit) => r' = r) (fun _ t => va_P D vwCl w' t.heap) (Afr ad H.size)) mc ms (Afr ad H.size)) {q ci : Nat} {fs : List Value} {Cn : String} {T : u_T} {N : Nat} (he : w[q]? = some (b, .inr (ci, fs))) (hc : vwCl[ci]? = some (Cn, T, N)) {index : Nat} {bytes : ByteArray} {maxL n : Nat} {retY : Option FieldType} (cw : CallW R s args own Cn index y bytes maxL retY wsy rm mc ms n) {st0 : List Value} (hn : As.length = n) (hsz : ls.size = nL) (hst : st0 = As.reverse ++ .ref b :: rest) (hroom : (rest.map fun v => v.category).sum ≤ 8) (d : decode cc pc = .ok (.invokevirtual index, 3)) (hf : cells + mc ≤ R.cells ∧ slots + ms ≤ R.slots)
    (kk : ∀ (H1 : Heap) (locs1 : List Loc), va_P D vwCl w' H1 → va_S (Afr ad s.heap.size) s.heap H1 locs1 → W p l e R s m args below meth c H1 locs1 (cells + mc) (slots + ms) Q (F0 m (pc + 3) ls (.double r :: rest))) : W p l e R s m args below meth c H locs cells slots Q (F0 m pc ls st0) := by
  obtain ⟨hx, hb, hml, hr, hown, hts, hlk⟩ := C
  refine va_calld (va_runV ⟨hx, hb, hml, hown, hts⟩ hM cw ⟨PA_blind, va_recv G.1 hP hc he, fun U hU hW => ⟨rfl, by rw [hU], by rw [hU]; exact hP, va_K.moved hW.alike G.1, NW.warm hW G.2.2⟩⟩ rfl hn hsz hst (lv_room hroom) d hf) hS (fun q _ h => Afr.mono hS.1 h) (fun q h => Afr.mono hS.1 h) (fun r1 u t H1 locs1 ht hvm hw hB hz1 hk1 hS1 => ?_)
  rw [ht] at hB
  rw [hw]
  exact kk H1 locs1 hB hS1
end LROWS
/-- the classes that the wrappers catch -/
theorem lc1 : Cond.classLink RL 13 (exN 1) ∈ lwG := List.mem_filter.mpr ⟨List.mem_of_getElem? (i := 311) (by decide +kernel), rfl⟩
theorem lc2 : Cond.classLink RL 15 (exN 2) ∈ lwG := List.mem_filter.mpr ⟨List.mem_of_getElem? (i := 312) (by decide +kernel), rfl⟩
theorem lc3 : Cond.classLink RL 21 (exN 3) ∈ lwG := List.mem_filter.mpr ⟨List.mem_of_getElem? (i := 409) (by decide +kernel), rfl⟩
