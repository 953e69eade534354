/-! derived rows: a method's standing facts C, G; the world hP; what was written hS -/
abbrev tyA (cs : Nat → ClassId) : List (ClassId × FieldType) := [(cs 0, .int), (cs 1, .object RX2), (cs 2, .array .int)]
def Cx (p : Program) (s : State) (m : MethodId) (args : Array Value) (meth : Method) (c : Code) (cc : ByteArray) (nL : Nat) (ret : Option FieldType) (own : String) (ws : List Cond) : Prop :=
  p.tables.exec = Jvm.exec ∧ c.code = cc ∧ c.maxLocals = nL ∧ meth.sig.returnType = ret ∧ s.vm.findClass own = some m.cls ∧ (∀ w ∈ ws, w.before args s = true) ∧ meth.locks = false
/-- links among nest mates: fields, methods -/
def nwF : List (String × Nat × String × String × String) := [("LineBuffers", 90, "LineBuffers$Stops", "planned", "I"), ("LineBuffers", 74, "LineBuffers$Line", "rows", "[[I"), ("LineBuffers", 86, "LineBuffers$Line", "stops", "LLineBuffers$Stops;"), ("LineBuffers", 48, "LineBuffers$Line", "machines", "I"), ("LineBuffers", 52, "LineBuffers$Line", "tick", "I"), ("LineBuffers", 191, "LineBuffers$History", "saved", "I"), ("LineBuffers", 175, "LineBuffers$LineText", "length", "I")]
def nwM : List (String × Nat × MethodName) := [("LineBuffers", 9, ⟨"LineBuffers$Line", "<init>", "()V"⟩), ("LineBuffers$Line", 18, ⟨"LineBuffers$Stops", "<init>", "()V"⟩), ("LineBuffers$History", 17, ⟨"LineBuffers$Line", "<init>", "()V"⟩), ("LineBuffers", 28, ⟨"LineBuffers$LineText", "<init>", "()V"⟩)]
def NW (U : State) : Prop := (∀ q ∈ nwF, va_Nw (.fieldLinkNest q.1 q.2.1 q.2.2.1 q.2.2.2.1 q.2.2.2.2 "LineBuffers") U) ∧ ∀ q ∈ nwM, va_Nw (.methodLinkNest q.1 q.2.1 q.2.2 "LineBuffers") U
theorem NW.warm {s U : State} (hW : s.WarmedH U.vm) (h : NW s) : NW U := ⟨fun q hq => va_Nw.warmF hW (h.1 q hq), fun q hq => va_Nw.warmM hW (h.2 q hq)⟩
theorem NW.same {u U : State} (hv : u.vm = U.vm) (h : NW u) : NW U := ⟨fun q hq => va_Nw.same rfl hv (h.1 q hq), fun q hq => va_Nw.same rfl hv (h.2 q hq)⟩
def Gx (D : va_G) (cs : Nat → ClassId) (ad : Nat → Nat) (s : State) : Prop := va_K D vwCl (tyA cs) s ∧ adOK ad ∧ NW s
def PA (D : va_G) (cs : Nat → ClassId) (sz : Nat) (w : va_W) (av : List Value) : Array Value → State → Prop := va_Pc av (fun U => U.heap.size = sz ∧ va_P D vwCl w U.heap ∧ va_K D vwCl (tyA cs) U ∧ NW U)
theorem PA_blind {D : va_G} {cs : Nat → ClassId} {sz : Nat} {w : va_W} {av : List Value} : FrameBlind (PA D cs sz w av) := by
  intro a U g mk h
  obtain ⟨h1, h2, h3, h4, h5⟩ := h
  exact ⟨h1, h2, h3, va_K.moved (u := U) (U := U.calling g mk a) (Vm.Alike.refl U.vm) h4, NW.same (u := U) (U := U.calling g mk a) rfl h5⟩
theorem row_k {i : Int32} {k : Nat} (h : vp_in i 8) (e : k = 2 + i.toNatClampNeg) : 2 ≤ k ∧ k < 10 := by
  have : i.toNatClampNeg < 8 := Nat.not_le.mp fun q => h (Or.inr q)
  omega
theorem pla_j {i : Int32} {k : Nat} (h : vp_in i 4) (e : k = 2 + i.toNatClampNeg) : k < 6 := by
  have : i.toNatClampNeg < 4 := Nat.not_le.mp fun q => h (Or.inr q)
  omega
def cpo (n : Int32) (a b : Nat) : Bool := decide (¬ n < 0 ∧ n.toNatClampNeg ≤ a ∧ n.toNatClampNeg ≤ b)
theorem cpo_out {n : Int32} {a b : Nat} (h : cpo n a b = true) : ¬ n < 0 ∧ n.toNatClampNeg ≤ a ∧ n.toNatClampNeg ≤ b := of_decide_eq_true h
def bd2 {α β γ : Type} (o : Option (α × β)) (f : α → β → Option γ) : Option γ := match o with
  | some (a, b) => f a b
  | none => none
theorem bd2_out {α β γ : Type} {o : Option (α × β)} {f : α → β → Option γ} {r : γ} (h : bd2 o f = some r) : ∃ a b, o = some (a, b) ∧ f a b = some r := by
  match o, h with
  | none, h => cases h
  | some (a, b), h => exact ⟨a, b, rfl, h⟩
def bd3 {α β γ δ : Type} (o : Option (α × β × γ)) (f : α → β → γ → Option δ) : Option δ := match o with
  | some (a, b, c) => f a b c
  | none => none
theorem bd3_out {α β γ δ : Type} {o : Option (α × β × γ)} {f : α → β → γ → Option δ} {r : δ} (h : bd3 o f = some r) : ∃ a b c, o = some (a, b, c) ∧ f a b c = some r := by
  match o, h with
  | none, h => cases h
  | some (a, b, c), h => exact ⟨a, b, c, rfl, h⟩
def bd4 {α β γ δ ε : Type} (o : Option (α × β × γ × δ)) (f : α → β → γ → δ → Option ε) : Option ε := match o with
  | some (a, b, c, d) => f a b c d
  | none => none
theorem bd4_out {α β γ δ ε : Type} {o : Option (α × β × γ × δ)} {f : α → β → γ → δ → Option ε} {r : ε} (h : bd4 o f = some r) : ∃ a b c d, o = some (a, b, c, d) ∧ f a b c d = some r := by
  match o, h with
  | none, h => cases h
  | some (a, b, c, d), h => exact ⟨a, b, c, d, rfl, h⟩
/-- how many turns a loop is given: more than any has -/
def fuel : Nat := 20000
theorem up_in {D : va_G} {cs : Nat → ClassId} {ad : Nat → Nat} {Ls : Nat → SL} {Hs T : SL} {H : Heap} {i : Nat} (h : va_P D vwCl (wA cs ad Ls Hs T) H) : va_P D vwCl (wA cs ad (va_up Ls i (Ls i)) Hs T) H := by
  rw [up_id]; exact h
theorem up_ou {D : va_G} {cs : Nat → ClassId} {ad : Nat → Nat} {Ls : Nat → SL} {Hs T : SL} {H : Heap} {i : Nat} (h : va_P D vwCl (wA cs ad (va_up Ls i (Ls i)) Hs T) H) : va_P D vwCl (wA cs ad Ls Hs T) H := by
  rw [up_id] at h; exact h
section ROWS
variable {p : Program} {l : Launch} {e : Env} {R : Room} {s : State} {m : MethodId} {args : Array Value} {below : List Frame} {meth : Method} {c : Code} {H : Heap} {locs : List Loc} {cells slots : Nat} {Q : State → Prop}
variable {cc : ByteArray} {pc : Nat} {ls : Array Slot} {rest : List Value} {nL : Nat} {ret : Option FieldType} {own : String} {ws : List Cond} {D : va_G} {cs : Nat → ClassId} {ad : Nat → Nat}
theorem k_getf (C : Cx p s m args meth c cc nL ret own ws) (G : Gx D cs ad s) {w : va_W} (hP : va_P D vwCl w H) {q a ci : Nat} {fs : List Value} (he : w[q]? = some (a, .inr (ci, fs))) {Cn : String} {T : u_T} {N : Nat} (hc : vwCl[ci]? = some (Cn, T, N)) (k : Nat) (hk : k < N) (hin : ∀ x ∈ u_ws Cn T N, x ∈ ws) {index : Nat} (hw : Cond.fieldLink own index (T k).1 (T k).2.1 (T k).2.2.1 ∈ ws) {v : Value} (hv : fs[k]? = some v) (d : decode cc pc = .ok (.getfield index, 3))
    (kk : W p l e R s m args below meth c H locs cells slots Q (F0 m (pc + 3) ls (v :: rest))) : W p l e R s m args below meth c H locs cells slots Q (F0 m pc ls (.ref a :: rest)) := by
  obtain ⟨hx, hb, hml, hr, hown, hts, hlk⟩ := C
  exact va_get hx hb hts hin hown G.1 hP q he hc k hk (hts _ hw) (fun _ h => h) hv d kk
theorem k_geti (C : Cx p s m args meth c cc nL ret own ws) (G : Gx D cs ad s) {w : va_W} (hP : va_P D vwCl w H) {q a ci : Nat} {fs : List Value} (he : w[q]? = some (a, .inr (ci, fs))) {Cn : String} {T : u_T} {N : Nat} (hc : vwCl[ci]? = some (Cn, T, N)) (k : Nat) (hk : k < N) (hin : ∀ x ∈ u_ws Cn T N, x ∈ ws) {index : Nat} (hw : Cond.fieldLink own index (T k).1 (T k).2.1 (T k).2.2.1 ∈ ws) {x z : Int32} (hv : fs[k]? = some (.int x)) (ez : z = x) (d : decode cc pc = .ok (.getfield index, 3))
    (kk : W p l e R s m args below meth c H locs cells slots Q (F0 m (pc + 3) ls (.int z :: rest))) : W p l e R s m args below meth c H locs cells slots Q (F0 m pc ls (.ref a :: rest)) := by
  subst ez
  exact k_getf C G hP he hc k hk hin hw hv d kk
theorem k_getl (C : Cx p s m args meth c cc nL ret own ws) (G : Gx D cs ad s) {w : va_W} (hP : va_P D vwCl w H) {q a ci : Nat} {fs : List Value} (he : w[q]? = some (a, .inr (ci, fs))) {Cn : String} {T : u_T} {N : Nat} (hc : vwCl[ci]? = some (Cn, T, N)) (k : Nat) (hk : k < N) (hin : ∀ x ∈ u_ws Cn T N, x ∈ ws) {index : Nat} (hw : Cond.fieldLink own index (T k).1 (T k).2.1 (T k).2.2.1 ∈ ws) {x z : Int64} (hv : fs[k]? = some (.long x)) (ez : z = x) (d : decode cc pc = .ok (.getfield index, 3))
    (kk : W p l e R s m args below meth c H locs cells slots Q (F0 m (pc + 3) ls (.long z :: rest))) : W p l e R s m args below meth c H locs cells slots Q (F0 m pc ls (.ref a :: rest)) := by
  subst ez
  exact k_getf C G hP he hc k hk hin hw hv d kk
theorem k_puti (C : Cx p s m args meth c cc nL ret own ws) (G : Gx D cs ad s) {F F' : Nat → va_E} (hP : va_P D vwCl (wMk ad F) H) (hS : va_S (Afr ad s.heap.size) s.heap H locs) {q a ci : Nat} {fs : List Value} (he : (wMk ad F)[q]? = some (a, .inr (ci, fs))) {Cn : String} {T : u_T} {N : Nat} (hc : vwCl[ci]? = some (Cn, T, N)) (k : Nat) (hk : k < N) (hin : ∀ x ∈ u_ws Cn T N, x ∈ ws) {index : Nat} (hw : Cond.fieldLink own index (T k).1 (T k).2.1 (T k).2.2.1 ∈ ws) {ty0 : Nat → FieldType} (hty : ∀ k, k < N → parseFieldDescriptor (T k).2.2.1 = some (ty0 k)) (hnm : ∀ a, a < N → ∀ b, b < N → a ≠ b → (T a).2.1 ≠ (T b).2.1) (hfin : (T k).2.2.2 = false) (hd : parseFieldDescriptor (T k).2.2.1 = some .int) (hl : k < fs.length) {x : Int32} (hset : (wMk ad F).set q (a, .inr (ci, fs.set k (.int x))) = wMk ad F') (d : decode cc pc = .ok (.putfield index, 3))
    (kk : ∀ (H1 : Heap) (locs1 : List Loc), va_P D vwCl (wMk ad F') H1 → va_S (Afr ad s.heap.size) s.heap H1 locs1 → W p l e R s m args below meth c H1 locs1 cells slots Q (F0 m (pc + 3) ls rest)) : W p l e R s m args below meth c H locs cells slots Q (F0 m pc ls (.int x :: .ref a :: rest)) := by
  obtain ⟨hx, hb, hml, hr, hown, hts, hlk⟩ := C
  refine va_put hx hb hts hin ty0 hty hnm hown G.1 hP (wMk_D G.2.1 _) hS q he hc k hk (hts _ hw) (fun _ h => h) hfin hd rfl rfl hl d (fun H1 locs1 h1 h2 h3 => ?_)
  rw [hset] at h1
  exact kk H1 locs1 h1 h3
theorem k_putl (C : Cx p s m args meth c cc nL ret own ws) (G : Gx D cs ad s) {F F' : Nat → va_E} (hP : va_P D vwCl (wMk ad F) H) (hS : va_S (Afr ad s.heap.size) s.heap H locs) {q a ci : Nat} {fs : List Value} (he : (wMk ad F)[q]? = some (a, .inr (ci, fs))) {Cn : String} {T : u_T} {N : Nat} (hc : vwCl[ci]? = some (Cn, T, N)) (k : Nat) (hk : k < N) (hin : ∀ x ∈ u_ws Cn T N, x ∈ ws) {index : Nat} (hw : Cond.fieldLink own index (T k).1 (T k).2.1 (T k).2.2.1 ∈ ws) {ty0 : Nat → FieldType} (hty : ∀ k, k < N → parseFieldDescriptor (T k).2.2.1 = some (ty0 k)) (hnm : ∀ a, a < N → ∀ b, b < N → a ≠ b → (T a).2.1 ≠ (T b).2.1) (hfin : (T k).2.2.2 = false) (hd : parseFieldDescriptor (T k).2.2.1 = some .long) (hl : k < fs.length) {x : Int64} (hset : (wMk ad F).set q (a, .inr (ci, fs.set k (.long x))) = wMk ad F') (d : decode cc pc = .ok (.putfield index, 3))
    (kk : ∀ (H1 : Heap) (locs1 : List Loc), va_P D vwCl (wMk ad F') H1 → va_S (Afr ad s.heap.size) s.heap H1 locs1 → W p l e R s m args below meth c H1 locs1 cells slots Q (F0 m (pc + 3) ls rest)) : W p l e R s m args below meth c H locs cells slots Q (F0 m pc ls (.long x :: .ref a :: rest)) := by
  obtain ⟨hx, hb, hml, hr, hown, hts, hlk⟩ := C
  refine va_put hx hb hts hin ty0 hty hnm hown G.1 hP (wMk_D G.2.1 _) hS q he hc k hk (hts _ hw) (fun _ h => h) hfin hd rfl rfl hl d (fun H1 locs1 h1 h2 h3 => ?_)
  rw [hset] at h1
  exact kk H1 locs1 h1 h3
theorem k_iald (C : Cx p s m args meth c cc nL ret own ws) (G : Gx D cs ad s) {w : va_W} (hP : va_P D vwCl w H) {q a n : Nat} {f : Nat → Int32} (he : w[q]? = some (a, .inl (cs 0, n, .inl f))) {i z : Int32} {j : Nat} (hin : vp_in i n) (hj : i.toNatClampNeg = j) (ez : z = f j) (d : decode cc pc = .ok (.iaload, 1))
    (kk : W p l e R s m args below meth c H locs cells slots Q (F0 m (pc + 1) ls (.int z :: rest))) : W p l e R s m args below meth c H locs cells slots Q (F0 m pc ls (.int i :: .ref a :: rest)) := by
  subst hj
  subst ez
  obtain ⟨hx, hb, hml, hr, hown, hts, hlk⟩ := C
  exact va_iald hx hb G.1 hP q 0 he rfl hin d kk
theorem k_iast (C : Cx p s m args meth c cc nL ret own ws) (G : Gx D cs ad s) {F F' : Nat → va_E} (hP : va_P D vwCl (wMk ad F) H) (hS : va_S (Afr ad s.heap.size) s.heap H locs) {q a n : Nat} {f : Nat → Int32} (he : (wMk ad F)[q]? = some (a, .inl (cs 0, n, .inl f))) {i x : Int32} {j : Nat} (hin : vp_in i n) (hj : i.toNatClampNeg = j) (hset : (wMk ad F).set q (a, .inl (cs 0, n, .inl (upd f j x))) = wMk ad F') (d : decode cc pc = .ok (.iastore, 1))
    (kk : ∀ (H1 : Heap) (locs1 : List Loc), va_P D vwCl (wMk ad F') H1 → va_S (Afr ad s.heap.size) s.heap H1 locs1 → W p l e R s m args below meth c H1 locs1 cells slots Q (F0 m (pc + 1) ls rest)) : W p l e R s m args below meth c H locs cells slots Q (F0 m pc ls (.int x :: .int i :: .ref a :: rest)) := by
  subst hj
  obtain ⟨hx, hb, hml, hr, hown, hts, hlk⟩ := C
  refine va_iast hx hb G.1 hP (wMk_D G.2.1 _) hS q 0 he rfl hin d (fun H1 locs1 h1 h2 h3 => ?_)
  rw [hset] at h1
  exact kk H1 locs1 h1 h3
theorem k_aaldL (C : Cx p s m args meth c cc nL ret own ws) (G : Gx D cs ad s) {w : va_W} (hP : va_P D vwCl w H) {q a b n : Nat} {f : Nat → Option Nat} (he : w[q]? = some (a, .inl (cs 1, n, .inr (.inr (.inr (.inr f)))))) {i : Int32} (hin : vp_in i n) (hv : f i.toNatClampNeg = some b) (d : decode cc pc = .ok (.aaload, 1))
    (kk : W p l e R s m args below meth c H locs cells slots Q (F0 m (pc + 1) ls (.ref b :: rest))) : W p l e R s m args below meth c H locs cells slots Q (F0 m pc ls (.int i :: .ref a :: rest)) := by
  obtain ⟨hx, hb, hml, hr, hown, hts, hlk⟩ := C
  refine va_aldq hx hb G.1 hP q 1 he rfl hin d ?_
  rw [hv]
  exact kk
theorem k_aaldR (C : Cx p s m args meth c cc nL ret own ws) (G : Gx D cs ad s) {w : va_W} (hP : va_P D vwCl w H) {q a b n : Nat} {f : Nat → Option Nat} (he : w[q]? = some (a, .inl (cs 2, n, .inr (.inr (.inr (.inr f)))))) {i : Int32} (hin : vp_in i n) (hv : f i.toNatClampNeg = some b) (d : decode cc pc = .ok (.aaload, 1))
    (kk : W p l e R s m args below meth c H locs cells slots Q (F0 m (pc + 1) ls (.ref b :: rest))) : W p l e R s m args below meth c H locs cells slots Q (F0 m pc ls (.int i :: .ref a :: rest)) := by
  obtain ⟨hx, hb, hml, hr, hown, hts, hlk⟩ := C
  have hlt : i.toNatClampNeg < n := Nat.not_le.mp fun q => hin (Or.inr q)
  refine W.aald (v := va_rf (f i.toNatClampNeg)) (ty := .array .int) hx hb (hP q _ he) ((G.1.2 2 _ rfl).1 n (fun j => va_rf (f j))) rfl (fun q => by cases q) (by show ¬ (i < 0 ∨ (arrV _ _ _).slots.size ≤ _); rw [arrV_size]; exact hin) (by show (arrV _ _ _).slots[_]? = _; rw [arrV_read _ _ hlt]) rfl rfl d ?_
  rw [hv]
  exact kk
theorem k_copy (C : Cx p s m args meth c cc nL ret own ws) (G : Gx D cs ad s) {F F' : Nat → va_E} (hP : va_P D vwCl (wMk ad F) H) (hS : va_S (Afr ad s.heap.size) s.heap H locs) (hsz : ls.size = nL) {index : Nat} (hw1 : Cond.methodLink own index arraycopyName ∈ ws) (hw2 : Cond.native arraycopyName ∈ ws) (hw3 : Cond.static arraycopyName ∈ ws) (hw4 : Cond.initialized "java/lang/System" ∈ ws) {q0 q1 a0 a1 n0 n1 : Nat} {f g : Nat → Int32} (he0 : (wMk ad F)[q0]? = some (a0, .inl (cs 0, n0, .inl f))) (he1 : (wMk ad F)[q1]? = some (a1, .inl (cs 0, n1, .inl g))) {n : Int32} (h3 : ¬ n < 0) (h4 : n.toNatClampNeg ≤ n0) (h5 : n.toNatClampNeg ≤ n1) {j : Nat} (hj : n.toNatClampNeg = j)
    (hframes : 1 ≤ R.frames) (hlocals : (rest.map fun v => v.category).sum + (nativeFrameWords "java/lang/System" "arraycopy" 5 + 11) ≤ R.locals) (hset : (wMk ad F).set q1 (a1, .inl (cs 0, n1, .inl (va_cpy f g 0 0 j))) = wMk ad F') (d : decode cc pc = .ok (.invokestatic index, 3))
    (kk : ∀ (H1 : Heap) (locs1 : List Loc), va_P D vwCl (wMk ad F') H1 → va_S (Afr ad s.heap.size) s.heap H1 locs1 → W p l e R s m args below meth c H1 locs1 cells slots Q (F0 m (pc + 3) ls rest)) : W p l e R s m args below meth c H locs cells slots Q (F0 m pc ls (.int n :: .int 0 :: .ref a1 :: .int 0 :: .ref a0 :: rest)) := by
  subst hj
  obtain ⟨hx, hb, hml, hr, hown, hts, hlk⟩ := C
  refine va_copyi hx hb (hml.trans hsz.symm) hown (hts _ hw1) (hts _ hw2) (hts _ hw3) (hts _ hw4) G.1 hP (wMk_D G.2.1 _) hS q0 q1 0 0 he0 he1 rfl rfl rfl (by decide) (by decide) h3 (by show 0 + _ ≤ _; omega) (by show 0 + _ ≤ _; omega) (fun _ _ => rfl) hframes hlocals d (fun H1 locs1 h1 h2 h3 => ?_)
  have e0 : (0 : Int32).toNatClampNeg = 0 := rfl
  rw [e0, hset] at h1
  exact kk H1 locs1 h1 h3
theorem k_min (C : Cx p s m args meth c cc nL ret own ws) (G : Gx D cs ad s) (hsz : ls.size = nL) {index : Nat} (hw1 : Cond.methodLink own index Lib.Math.min.name ∈ ws) (hw2 : Cond.static Lib.Math.min.name ∈ ws) (hw3 : Cond.initialized "java/lang/Math" ∈ ws) (hw4 : Cond.code Lib.Math.min.name Lib.Math.min.code 2 (some .int) ∈ ws) (hframes : 1 ≤ R.frames) (hlocals : (rest.map fun v => v.category).sum + 13 ≤ R.locals) (hc : cells ≤ R.cells) (hs : slots ≤ R.slots) {x y z : Int32} (ez : z = if y < x then y else x) (d : decode cc pc = .ok (.invokestatic index, 3))
    (kk : W p l e R s m args below meth c H locs cells slots Q (F0 m (pc + 3) ls (.int z :: rest))) : W p l e R s m args below meth c H locs cells slots Q (F0 m pc ls (.int y :: .int x :: rest)) := by
  subst ez
  obtain ⟨hx, hb, hml, hr, hown, hts, hlk⟩ := C
  exact va_mmin hx hb (hml.trans hsz.symm) hown (hts _ hw1) (hts _ hw2) (hts _ hw3) (hts _ hw4) hframes hlocals hc hs d kk
theorem k_ldci (C : Cx p s m args meth c cc nL ret own ws) (G : Gx D cs ad s) {index : Nat} {v : Int32} (hw : Cond.constant own index v ∈ ws) (d : decode cc pc = .ok (.ldc index, 2)) (kk : W p l e R s m args below meth c H locs cells slots Q (F0 m (pc + 2) ls (.int v :: rest))) : W p l e R s m args below meth c H locs cells slots Q (F0 m pc ls rest) := by
  obtain ⟨hx, hb, hml, hr, hown, hts, hlk⟩ := C
  exact lv_ldc hx hb hown (hts _ hw) d kk
theorem k_ldcl (C : Cx p s m args meth c cc nL ret own ws) (G : Gx D cs ad s) {index : Nat} {v : Int64} (hw : Cond.constantLong own index v ∈ ws) (d : decode cc pc = .ok (.ldc2_w index, 3)) (kk : W p l e R s m args below meth c H locs cells slots Q (F0 m (pc + 3) ls (.long v :: rest))) : W p l e R s m args below meth c H locs cells slots Q (F0 m pc ls rest) := by
  obtain ⟨hx, hb, hml, hr, hown, hts, hlk⟩ := C
  exact lv_ldc2 hx hb hown (hts _ hw) d kk
theorem k_getfN (C : Cx p s m args meth c cc nL ret own ws) (G : Gx D cs ad s) {w : va_W} (hP : va_P D vwCl w H) {q a ci : Nat} {fs : List Value} (he : w[q]? = some (a, .inr (ci, fs))) {Cn : String} {T : u_T} {N : Nat} (hc : vwCl[ci]? = some (Cn, T, N)) (k : Nat) (hk : k < N) (hin : ∀ x ∈ u_ws Cn T N, x ∈ ws) {index : Nat} (hw : (own, index, (T k).1, (T k).2.1, (T k).2.2.1) ∈ nwF) {v : Value} (hv : fs[k]? = some v) (d : decode cc pc = .ok (.getfield index, 3))
    (kk : W p l e R s m args below meth c H locs cells slots Q (F0 m (pc + 3) ls (v :: rest))) : W p l e R s m args below meth c H locs cells slots Q (F0 m pc ls (.ref a :: rest)) := by
  obtain ⟨hx, hb, hml, hr, hown, hts, hlk⟩ := C
  exact va_getN hx hb hts hin hown G.1 hP q he hc k hk (va_Nw.use rfl (G.2.2.1 _ hw)) (fun _ h => h) hv d kk
theorem k_getiN (C : Cx p s m args meth c cc nL ret own ws) (G : Gx D cs ad s) {w : va_W} (hP : va_P D vwCl w H) {q a ci : Nat} {fs : List Value} (he : w[q]? = some (a, .inr (ci, fs))) {Cn : String} {T : u_T} {N : Nat} (hc : vwCl[ci]? = some (Cn, T, N)) (k : Nat) (hk : k < N) (hin : ∀ x ∈ u_ws Cn T N, x ∈ ws) {index : Nat} (hw : (own, index, (T k).1, (T k).2.1, (T k).2.2.1) ∈ nwF) {x z : Int32} (hv : fs[k]? = some (.int x)) (ez : z = x) (d : decode cc pc = .ok (.getfield index, 3))
    (kk : W p l e R s m args below meth c H locs cells slots Q (F0 m (pc + 3) ls (.int z :: rest))) : W p l e R s m args below meth c H locs cells slots Q (F0 m pc ls (.ref a :: rest)) := by
  subst ez
  exact k_getfN C G hP he hc k hk hin hw hv d kk
theorem k_putiN (C : Cx p s m args meth c cc nL ret own ws) (G : Gx D cs ad s) {F F' : Nat → va_E} (hP : va_P D vwCl (wMk ad F) H) (hS : va_S (Afr ad s.heap.size) s.heap H locs) {q a ci : Nat} {fs : List Value} (he : (wMk ad F)[q]? = some (a, .inr (ci, fs))) {Cn : String} {T : u_T} {N : Nat} (hc : vwCl[ci]? = some (Cn, T, N)) (k : Nat) (hk : k < N) (hin : ∀ x ∈ u_ws Cn T N, x ∈ ws) {index : Nat} (hw : (own, index, (T k).1, (T k).2.1, (T k).2.2.1) ∈ nwF) {ty0 : Nat → FieldType} (hty : ∀ k, k < N → parseFieldDescriptor (T k).2.2.1 = some (ty0 k)) (hnm : ∀ a, a < N → ∀ b, b < N → a ≠ b → (T a).2.1 ≠ (T b).2.1) (hfin : (T k).2.2.2 = false) (hd : parseFieldDescriptor (T k).2.2.1 = some .int) (hl : k < fs.length) {x : Int32} (hset : (wMk ad F).set q (a, .inr (ci, fs.set k (.int x))) = wMk ad F') (d : decode cc pc = .ok (.putfield index, 3))
    (kk : ∀ (H1 : Heap) (locs1 : List Loc), va_P D vwCl (wMk ad F') H1 → va_S (Afr ad s.heap.size) s.heap H1 locs1 → W p l e R s m args below meth c H1 locs1 cells slots Q (F0 m (pc + 3) ls rest)) : W p l e R s m args below meth c H locs cells slots Q (F0 m pc ls (.int x :: .ref a :: rest)) := by
  obtain ⟨hx, hb, hml, hr, hown, hts, hlk⟩ := C
  refine va_putN hx hb hts hin ty0 hty hnm hown G.1 hP (wMk_D G.2.1 _) hS q he hc k hk (va_Nw.use rfl (G.2.2.1 _ hw)) (fun _ h => h) hfin hd rfl rfl hl d (fun H1 locs1 h1 h2 h3 => ?_)
  rw [hset] at h1
  exact kk H1 locs1 h1 h3
theorem k_iadd (C : Cx p s m args meth c cc nL ret own ws) {x y z : Int32} (ez : z = x + y) (d : decode cc pc = .ok (.iadd, 1)) (kk : W p l e R s m args below meth c H locs cells slots Q (F0 m (pc + 1) ls (.int z :: rest))) : W p l e R s m args below meth c H locs cells slots Q (F0 m pc ls (.int y :: .int x :: rest)) := by
  subst ez
  exact lv_iadd C.1 C.2.1 d kk
theorem k_isub (C : Cx p s m args meth c cc nL ret own ws) {x y z : Int32} (ez : z = x - y) (d : decode cc pc = .ok (.isub, 1)) (kk : W p l e R s m args below meth c H locs cells slots Q (F0 m (pc + 1) ls (.int z :: rest))) : W p l e R s m args below meth c H locs cells slots Q (F0 m pc ls (.int y :: .int x :: rest)) := by
  subst ez
  exact lv_isub C.1 C.2.1 d kk
theorem k_imul (C : Cx p s m args meth c cc nL ret own ws) {x y z : Int32} (ez : z = x * y) (d : decode cc pc = .ok (.imul, 1)) (kk : W p l e R s m args below meth c H locs cells slots Q (F0 m (pc + 1) ls (.int z :: rest))) : W p l e R s m args below meth c H locs cells slots Q (F0 m pc ls (.int y :: .int x :: rest)) := by
  subst ez
  exact lv_imul C.1 C.2.1 d kk
theorem k_iand (C : Cx p s m args meth c cc nL ret own ws) {x y z : Int32} (ez : z = x &&& y) (d : decode cc pc = .ok (.iand, 1)) (kk : W p l e R s m args below meth c H locs cells slots Q (F0 m (pc + 1) ls (.int z :: rest))) : W p l e R s m args below meth c H locs cells slots Q (F0 m pc ls (.int y :: .int x :: rest)) := by
  subst ez
  exact lv_iand C.1 C.2.1 d kk
theorem k_ior (C : Cx p s m args meth c cc nL ret own ws) {x y z : Int32} (ez : z = x ||| y) (d : decode cc pc = .ok (.ior, 1)) (kk : W p l e R s m args below meth c H locs cells slots Q (F0 m (pc + 1) ls (.int z :: rest))) : W p l e R s m args below meth c H locs cells slots Q (F0 m pc ls (.int y :: .int x :: rest)) := by
  subst ez
  exact lv_ior C.1 C.2.1 d kk
theorem k_ishl (C : Cx p s m args meth c cc nL ret own ws) {x y z : Int32} (ez : z = x <<< (y &&& 31)) (d : decode cc pc = .ok (.ishl, 1)) (kk : W p l e R s m args below meth c H locs cells slots Q (F0 m (pc + 1) ls (.int z :: rest))) : W p l e R s m args below meth c H locs cells slots Q (F0 m pc ls (.int y :: .int x :: rest)) := by
  subst ez
  exact lv_ishl C.1 C.2.1 d kk
theorem k_ishr (C : Cx p s m args meth c cc nL ret own ws) {x y z : Int32} (ez : z = x >>> (y &&& 31)) (d : decode cc pc = .ok (.ishr, 1)) (kk : W p l e R s m args below meth c H locs cells slots Q (F0 m (pc + 1) ls (.int z :: rest))) : W p l e R s m args below meth c H locs cells slots Q (F0 m pc ls (.int y :: .int x :: rest)) := by
  subst ez
  exact lv_ishr C.1 C.2.1 d kk
theorem k_ladd (C : Cx p s m args meth c cc nL ret own ws) {x y z : Int64} (ez : z = x + y) (d : decode cc pc = .ok (.ladd, 1)) (kk : W p l e R s m args below meth c H locs cells slots Q (F0 m (pc + 1) ls (.long z :: rest))) : W p l e R s m args below meth c H locs cells slots Q (F0 m pc ls (.long y :: .long x :: rest)) := by
  subst ez
  exact lv_ladd C.1 C.2.1 d kk
theorem k_lmul (C : Cx p s m args meth c cc nL ret own ws) {x y z : Int64} (ez : z = x * y) (d : decode cc pc = .ok (.lmul, 1)) (kk : W p l e R s m args below meth c H locs cells slots Q (F0 m (pc + 1) ls (.long z :: rest))) : W p l e R s m args below meth c H locs cells slots Q (F0 m pc ls (.long y :: .long x :: rest)) := by
  subst ez
  exact lv_lmul C.1 C.2.1 d kk
theorem k_lsub (C : Cx p s m args meth c cc nL ret own ws) {x y z : Int64} (ez : z = x - y) (d : decode cc pc = .ok (.lsub, 1)) (kk : W p l e R s m args below meth c H locs cells slots Q (F0 m (pc + 1) ls (.long z :: rest))) : W p l e R s m args below meth c H locs cells slots Q (F0 m pc ls (.long y :: .long x :: rest)) := by
  subst ez
  exact lv_lsub C.1 C.2.1 d kk
theorem k_idiv (C : Cx p s m args meth c cc nL ret own ws) {x y z : Int32} (h0 : ¬ y = 0) (ez : z = x / y) (d : decode cc pc = .ok (.idiv, 1)) (kk : W p l e R s m args below meth c H locs cells slots Q (F0 m (pc + 1) ls (.int z :: rest))) : W p l e R s m args below meth c H locs cells slots Q (F0 m pc ls (.int y :: .int x :: rest)) := by
  subst ez
  exact lv_idiv C.1 C.2.1 d h0 kk
theorem k_irem (C : Cx p s m args meth c cc nL ret own ws) {x y z : Int32} (h0 : ¬ y = 0) (ez : z = x - x / y * y) (d : decode cc pc = .ok (.irem, 1)) (kk : W p l e R s m args below meth c H locs cells slots Q (F0 m (pc + 1) ls (.int z :: rest))) : W p l e R s m args below meth c H locs cells slots Q (F0 m pc ls (.int y :: .int x :: rest)) := by
  subst ez
  exact lv_irem C.1 C.2.1 d h0 kk
theorem k_ldiv (C : Cx p s m args meth c cc nL ret own ws) {x y z : Int64} (h0 : ¬ y = 0) (ez : z = x / y) (d : decode cc pc = .ok (.ldiv, 1)) (kk : W p l e R s m args below meth c H locs cells slots Q (F0 m (pc + 1) ls (.long z :: rest))) : W p l e R s m args below meth c H locs cells slots Q (F0 m pc ls (.long y :: .long x :: rest)) := by
  subst ez
  exact lv_ldiv C.1 C.2.1 d h0 kk
theorem k_lrem (C : Cx p s m args meth c cc nL ret own ws) {x y z : Int64} (h0 : ¬ y = 0) (ez : z = x - x / y * y) (d : decode cc pc = .ok (.lrem, 1)) (kk : W p l e R s m args below meth c H locs cells slots Q (F0 m (pc + 1) ls (.long z :: rest))) : W p l e R s m args below meth c H locs cells slots Q (F0 m pc ls (.long y :: .long x :: rest)) := by
  subst ez
  exact lv_lrem C.1 C.2.1 d h0 kk
theorem k_i2l (C : Cx p s m args meth c cc nL ret own ws) {x : Int32} {z : Int64} (ez : z = x.toInt64) (d : decode cc pc = .ok (.i2l, 1)) (kk : W p l e R s m args below meth c H locs cells slots Q (F0 m (pc + 1) ls (.long z :: rest))) : W p l e R s m args below meth c H locs cells slots Q (F0 m pc ls (.int x :: rest)) := lv_i2l C.1 C.2.1 d ez.symm kk
theorem k_l2i (C : Cx p s m args meth c cc nL ret own ws) {x : Int64} {z : Int32} (ez : z = x.toInt32) (d : decode cc pc = .ok (.l2i, 1)) (kk : W p l e R s m args below meth c H locs cells slots Q (F0 m (pc + 1) ls (.int z :: rest))) : W p l e R s m args below meth c H locs cells slots Q (F0 m pc ls (.long x :: rest)) := lv_l2i C.1 C.2.1 d ez.symm kk
theorem k_iret (C : Cx p s m args meth c cc nL (some .int) own ws) {w : va_W} (hP : va_P D vwCl w H) (hS : va_S (Afr ad s.heap.size) s.heap H locs) {v : Int32} (d : decode cc pc = .ok (.ireturn, 1)) : W p l e R s m args below meth c H locs cells slots (MQ below (va_Qi (fun r' (_ : Unit) => r' = v) (fun _ t => va_P D vwCl w t.heap) (Afr ad s.heap.size)) args s cells slots (Afr ad s.heap.size)) (F0 m pc ls [.int v]) := by
  obtain ⟨hx, hb, hml, hr, hown, hts, hlk⟩ := C
  exact W.iret hx hb hr (fun t ht hW => ⟨⟨v, (), rfl, rfl, by show va_P D vwCl w t.heap; rw [ht]; exact hP⟩, hS.F ht⟩) hS.2.2 d hlk
theorem k_zret (C : Cx p s m args meth c cc nL (some .boolean) own ws) {w : va_W} (hP : va_P D vwCl w H) (hS : va_S (Afr ad s.heap.size) s.heap H locs) {v : Int32} (hn : narrow .boolean (.int v) = .int v) (d : decode cc pc = .ok (.ireturn, 1)) : W p l e R s m args below meth c H locs cells slots (MQ below (va_Qi (fun r' (_ : Unit) => r' = v) (fun _ t => va_P D vwCl w t.heap) (Afr ad s.heap.size)) args s cells slots (Afr ad s.heap.size)) (F0 m pc ls [.int v]) := by
  obtain ⟨hx, hb, hml, hr, hown, hts, hlk⟩ := C
  exact W.zret hx hb hr hn (fun t ht hW => ⟨⟨v, (), rfl, rfl, by show va_P D vwCl w t.heap; rw [ht]; exact hP⟩, hS.F ht⟩) hS.2.2 d hlk
theorem k_lret (C : Cx p s m args meth c cc nL (some .long) own ws) {w : va_W} (hP : va_P D vwCl w H) (hS : va_S (Afr ad s.heap.size) s.heap H locs) {v : Int64} (d : decode cc pc = .ok (.lreturn, 1)) : W p l e R s m args below meth c H locs cells slots (MQ below (va_Ql (fun r' (_ : Unit) => r' = v) (fun _ t => va_P D vwCl w t.heap) (Afr ad s.heap.size)) args s cells slots (Afr ad s.heap.size)) (F0 m pc ls [.long v]) := by
  obtain ⟨hx, hb, hml, hr, hown, hts, hlk⟩ := C
  exact W.lret hx hb hr (fun t ht hW => ⟨⟨v, (), rfl, rfl, by show va_P D vwCl w t.heap; rw [ht]; exact hP⟩, hS.F ht⟩) hS.2.2 d hlk
theorem k_vret (C : Cx p s m args meth c cc nL none own ws) {w : va_W} (hP : va_P D vwCl w H) (hS : va_S (Afr ad s.heap.size) s.heap H locs) (d : decode cc pc = .ok (.return_, 1)) : W p l e R s m args below meth c H locs cells slots (MQ below (va_Qv (fun (_ : Unit) => True) (fun _ t => va_P D vwCl w t.heap) (Afr ad s.heap.size)) args s cells slots (Afr ad s.heap.size)) (F0 m pc ls []) := by
  obtain ⟨hx, hb, hml, hr, hown, hts, hlk⟩ := C
  exact W.vret hx hb hr (fun t ht hW => ⟨⟨(), rfl, trivial, by show va_P D vwCl w t.heap; rw [ht]; exact hP⟩, hS.F ht⟩) hS.2.2 d hlk
/-- a contract out of a walk from pc 0 -/
theorem k_met {y : MethodName} {wsy ws' : List Cond} {rm : Room} {w : va_W} {av : List Value} {sz mc ms : Nat} {Qc : Array Value → State → Outcome → State → Prop} (hy : plainName y.cls = true) (hw : wsy = Cond.code y cc nL ret :: ws') (hlen : (lg_sl av).length ≤ nL) (hAd : adOK ad)
    (body : ∀ (p : Program) (e : Env) (s : State) (m : MethodId) (below : List Frame) (meth : Method) (c : Code) (ls : Array Slot), Cx p s m av.toArray meth c cc nL ret y.cls wsy → Gx D cs ad s → va_P D vwCl w s.heap → s.heap.size = sz → lv_has ls nL (lv_args 0 av) → va_S (Afr ad s.heap.size) s.heap s.heap [] → W p l e rm s m av.toArray below meth c s.heap [] 0 0 (MQ below Qc av.toArray s mc ms (Afr ad sz)) (F0 m 0 ls [])) : Met l y wsy rm (PA D cs sz w av) Qc mc ms (Afr ad sz) := by
  refine Met.ofW (cc := cc) (maxL := nL) (ret := ret) hy hw ?_
  intro p e s m args below meth c s₁ B hml hv
  obtain ⟨rfl, hsz, hP, hK, hN⟩ := hv
  have hl := lv_entry av (n := nL) hlen
  rw [lg_entry_eq]
  generalize (lg_sl av ++ List.replicate (nL - (lg_sl av).length) Slot.unset).toArray = ls at hl ⊢
  exact body p e s m below meth c ls ⟨B.exec, B.bytes, hml, B.returns, findClass_of_methodNamed B.named, atoms_spec (ws := wsy) B.pre, B.notSynchronized⟩ ⟨hK, hAd, hN⟩ hP hsz hl va_S.rf
theorem k_callVi (C : Cx p s m args meth c cc nL ret own ws) (G : Gx D cs ad s) {w w' : va_W} (hP : va_P D vwCl w H) (hS : va_S (Afr ad s.heap.size) s.heap H locs) {y : MethodName} {wsy : List Cond} {rm : Room} {b : Nat} {As : List Value} {r : Int32} {mc ms : Nat} (hM : Met l y wsy rm (PA D cs H.size w (.ref b :: As)) (va_Qi (fun r' (_ : Unit) => r' = r) (fun _ t => va_P D vwCl w' t.heap) (Afr ad H.size)) mc ms (Afr ad H.size)) {q ci : Nat} {fs : List Value} {Cn : String} {T : u_T} {N : Nat} (he : w[q]? = some (b, .inr (ci, fs))) (hc : vwCl[ci]? = some (Cn, T, N)) {index : Nat} {bytes : ByteArray} {maxL n : Nat} {retY : Option FieldType} (cw : CallW R s args own Cn index y bytes maxL retY wsy rm mc ms n) {st0 : List Value} (hn : As.length = n) (hsz : ls.size = nL) (hst : st0 = As.reverse ++ .ref b :: rest) (hroom : (rest.map fun v => v.category).sum ≤ 8) (d : decode cc pc = .ok (.invokevirtual index, 3)) (hf : cells + mc ≤ R.cells ∧ slots + ms ≤ R.slots)
    (kk : ∀ (H1 : Heap) (locs1 : List Loc), va_P D vwCl w' H1 → va_S (Afr ad s.heap.size) s.heap H1 locs1 → W p l e R s m args below meth c H1 locs1 (cells + mc) (slots + ms) Q (F0 m (pc + 3) ls (.int r :: rest))) : W p l e R s m args below meth c H locs cells slots Q (F0 m pc ls st0) := by
  obtain ⟨hx, hb, hml, hr, hown, hts, hlk⟩ := C
  refine va_calli (va_runV ⟨hx, hb, hml, hown, hts⟩ hM cw ⟨PA_blind, va_recv G.1 hP hc he, fun U hU hW => ⟨rfl, by rw [hU], by rw [hU]; exact hP, va_K.moved hW.alike G.1, NW.warm hW G.2.2⟩⟩ rfl hn hsz hst (lv_room hroom) d hf) hS (fun q _ h => Afr.mono hS.1 h) (fun q h => Afr.mono hS.1 h) (fun r1 u t H1 locs1 ht hvm hw hB hz1 hk1 hS1 => ?_)
  rw [ht] at hB
  rw [hw]
  exact kk H1 locs1 hB hS1
theorem k_callVv (C : Cx p s m args meth c cc nL ret own ws) (G : Gx D cs ad s) {w w' : va_W} (hP : va_P D vwCl w H) (hS : va_S (Afr ad s.heap.size) s.heap H locs) {y : MethodName} {wsy : List Cond} {rm : Room} {b : Nat} {As : List Value} {mc ms : Nat} (hM : Met l y wsy rm (PA D cs H.size w (.ref b :: As)) (va_Qv (fun (_ : Unit) => True) (fun _ t => va_P D vwCl w' t.heap) (Afr ad H.size)) mc ms (Afr ad H.size)) {q ci : Nat} {fs : List Value} {Cn : String} {T : u_T} {N : Nat} (he : w[q]? = some (b, .inr (ci, fs))) (hc : vwCl[ci]? = some (Cn, T, N)) {index : Nat} {bytes : ByteArray} {maxL n : Nat} {retY : Option FieldType} (cw : CallW R s args own Cn index y bytes maxL retY wsy rm mc ms n) {st0 : List Value} (hn : As.length = n) (hsz : ls.size = nL) (hst : st0 = As.reverse ++ .ref b :: rest) (hroom : (rest.map fun v => v.category).sum ≤ 8) (d : decode cc pc = .ok (.invokevirtual index, 3)) (hf : cells + mc ≤ R.cells ∧ slots + ms ≤ R.slots)
    (kk : ∀ (H1 : Heap) (locs1 : List Loc), va_P D vwCl w' H1 → va_S (Afr ad s.heap.size) s.heap H1 locs1 → W p l e R s m args below meth c H1 locs1 (cells + mc) (slots + ms) Q (F0 m (pc + 3) ls rest)) : W p l e R s m args below meth c H locs cells slots Q (F0 m pc ls st0) := by
  obtain ⟨hx, hb, hml, hr, hown, hts, hlk⟩ := C
  refine va_callv (va_runV ⟨hx, hb, hml, hown, hts⟩ hM cw ⟨PA_blind, va_recv G.1 hP hc he, fun U hU hW => ⟨rfl, by rw [hU], by rw [hU]; exact hP, va_K.moved hW.alike G.1, NW.warm hW G.2.2⟩⟩ rfl hn hsz hst (lv_room hroom) d hf) hS (fun q _ h => Afr.mono hS.1 h) (fun q h => Afr.mono hS.1 h) (fun u t H1 locs1 ht hvm hw hB hz1 hk1 hS1 => ?_)
  rw [ht] at hB
  exact kk H1 locs1 hB hS1
theorem k_callVl (C : Cx p s m args meth c cc nL ret own ws) (G : Gx D cs ad s) {w w' : va_W} (hP : va_P D vwCl w H) (hS : va_S (Afr ad s.heap.size) s.heap H locs) {y : MethodName} {wsy : List Cond} {rm : Room} {b : Nat} {As : List Value} {r : Int64} {mc ms : Nat} (hM : Met l y wsy rm (PA D cs H.size w (.ref b :: As)) (va_Ql (fun r' (_ : Unit) => r' = r) (fun _ t => va_P D vwCl w' t.heap) (Afr ad H.size)) mc ms (Afr ad H.size)) {q ci : Nat} {fs : List Value} {Cn : String} {T : u_T} {N : Nat} (he : w[q]? = some (b, .inr (ci, fs))) (hc : vwCl[ci]? = some (Cn, T, N)) {index : Nat} {bytes : ByteArray} {maxL n : Nat} {retY : Option FieldType} (cw : CallW R s args own Cn index y bytes maxL retY wsy rm mc ms n) {st0 : List Value} (hn : As.length = n) (hsz : ls.size = nL) (hst : st0 = As.reverse ++ .ref b :: rest) (hroom : (rest.map fun v => v.category).sum ≤ 8) (d : decode cc pc = .ok (.invokevirtual index, 3)) (hf : cells + mc ≤ R.cells ∧ slots + ms ≤ R.slots)
    (kk : ∀ (H1 : Heap) (locs1 : List Loc), va_P D vwCl w' H1 → va_S (Afr ad s.heap.size) s.heap H1 locs1 → W p l e R s m args below meth c H1 locs1 (cells + mc) (slots + ms) Q (F0 m (pc + 3) ls (.long r :: rest))) : W p l e R s m args below meth c H locs cells slots Q (F0 m pc ls st0) := by
  obtain ⟨hx, hb, hml, hr, hown, hts, hlk⟩ := C
  refine va_calll (va_runV ⟨hx, hb, hml, hown, hts⟩ hM cw ⟨PA_blind, va_recv G.1 hP hc he, fun U hU hW => ⟨rfl, by rw [hU], by rw [hU]; exact hP, va_K.moved hW.alike G.1, NW.warm hW G.2.2⟩⟩ rfl hn hsz hst (lv_room hroom) d hf) hS (fun q _ h => Afr.mono hS.1 h) (fun q h => Afr.mono hS.1 h) (fun r1 u t H1 locs1 ht hvm hw hB hz1 hk1 hS1 => ?_)
  rw [ht] at hB
  rw [hw]
  exact kk H1 locs1 hB hS1
theorem k_callSi (C : Cx p s m args meth c cc nL ret own ws) (G : Gx D cs ad s) {w w' : va_W} (hP : va_P D vwCl w H) (hS : va_S (Afr ad s.heap.size) s.heap H locs) {y : MethodName} {wsy : List Cond} {rm : Room} {As : List Value} {r : Int32} {mc ms : Nat} (hM : Met l y wsy rm (PA D cs H.size w (As)) (va_Qi (fun r' (_ : Unit) => r' = r) (fun _ t => va_P D vwCl w' t.heap) (Afr ad H.size)) mc ms (Afr ad H.size)) {index : Nat} {bytes : ByteArray} {maxL n : Nat} {retY : Option FieldType} (cw : CallB R s args own index y bytes maxL retY wsy rm mc ms n ∧ (Cond.static y).before args s = true) {st0 : List Value} (hn : As.length = n) (hsz : ls.size = nL) (hst : st0 = As.reverse ++ rest) (hroom : (rest.map fun v => v.category).sum ≤ 8) (d : decode cc pc = .ok (.invokestatic index, 3)) (hf : cells + mc ≤ R.cells ∧ slots + ms ≤ R.slots)
    (kk : ∀ (H1 : Heap) (locs1 : List Loc), va_P D vwCl w' H1 → va_S (Afr ad s.heap.size) s.heap H1 locs1 → W p l e R s m args below meth c H1 locs1 (cells + mc) (slots + ms) Q (F0 m (pc + 3) ls (.int r :: rest))) : W p l e R s m args below meth c H locs cells slots Q (F0 m pc ls st0) := by
  obtain ⟨hx, hb, hml, hr, hown, hts, hlk⟩ := C
  refine va_calli (va_runS ⟨hx, hb, hml, hown, hts⟩ hM cw ⟨PA_blind, fun U hU hW => ⟨rfl, by rw [hU], by rw [hU]; exact hP, va_K.moved hW.alike G.1, NW.warm hW G.2.2⟩⟩ rfl hn hsz hst (lv_room hroom) d hf) hS (fun q _ h => Afr.mono hS.1 h) (fun q h => Afr.mono hS.1 h) (fun r1 u t H1 locs1 ht hvm hw hB hz1 hk1 hS1 => ?_)
  rw [ht] at hB
  rw [hw]
  exact kk H1 locs1 hB hS1
theorem k_callSv (C : Cx p s m args meth c cc nL ret own ws) (G : Gx D cs ad s) {w w' : va_W} (hP : va_P D vwCl w H) (hS : va_S (Afr ad s.heap.size) s.heap H locs) {y : MethodName} {wsy : List Cond} {rm : Room} {As : List Value} {mc ms : Nat} (hM : Met l y wsy rm (PA D cs H.size w (As)) (va_Qv (fun (_ : Unit) => True) (fun _ t => va_P D vwCl w' t.heap) (Afr ad H.size)) mc ms (Afr ad H.size)) {index : Nat} {bytes : ByteArray} {maxL n : Nat} {retY : Option FieldType} (cw : CallB R s args own index y bytes maxL retY wsy rm mc ms n ∧ (Cond.static y).before args s = true) {st0 : List Value} (hn : As.length = n) (hsz : ls.size = nL) (hst : st0 = As.reverse ++ rest) (hroom : (rest.map fun v => v.category).sum ≤ 8) (d : decode cc pc = .ok (.invokestatic index, 3)) (hf : cells + mc ≤ R.cells ∧ slots + ms ≤ R.slots)
    (kk : ∀ (H1 : Heap) (locs1 : List Loc), va_P D vwCl w' H1 → va_S (Afr ad s.heap.size) s.heap H1 locs1 → W p l e R s m args below meth c H1 locs1 (cells + mc) (slots + ms) Q (F0 m (pc + 3) ls rest)) : W p l e R s m args below meth c H locs cells slots Q (F0 m pc ls st0) := by
  obtain ⟨hx, hb, hml, hr, hown, hts, hlk⟩ := C
  refine va_callv (va_runS ⟨hx, hb, hml, hown, hts⟩ hM cw ⟨PA_blind, fun U hU hW => ⟨rfl, by rw [hU], by rw [hU]; exact hP, va_K.moved hW.alike G.1, NW.warm hW G.2.2⟩⟩ rfl hn hsz hst (lv_room hroom) d hf) hS (fun q _ h => Afr.mono hS.1 h) (fun q h => Afr.mono hS.1 h) (fun u t H1 locs1 ht hvm hw hB hz1 hk1 hS1 => ?_)
  rw [ht] at hB
  exact kk H1 locs1 hB hS1
theorem k_callSl (C : Cx p s m args meth c cc nL ret own ws) (G : Gx D cs ad s) {w w' : va_W} (hP : va_P D vwCl w H) (hS : va_S (Afr ad s.heap.size) s.heap H locs) {y : MethodName} {wsy : List Cond} {rm : Room} {As : List Value} {r : Int64} {mc ms : Nat} (hM : Met l y wsy rm (PA D cs H.size w (As)) (va_Ql (fun r' (_ : Unit) => r' = r) (fun _ t => va_P D vwCl w' t.heap) (Afr ad H.size)) mc ms (Afr ad H.size)) {index : Nat} {bytes : ByteArray} {maxL n : Nat} {retY : Option FieldType} (cw : CallB R s args own index y bytes maxL retY wsy rm mc ms n ∧ (Cond.static y).before args s = true) {st0 : List Value} (hn : As.length = n) (hsz : ls.size = nL) (hst : st0 = As.reverse ++ rest) (hroom : (rest.map fun v => v.category).sum ≤ 8) (d : decode cc pc = .ok (.invokestatic index, 3)) (hf : cells + mc ≤ R.cells ∧ slots + ms ≤ R.slots)
    (kk : ∀ (H1 : Heap) (locs1 : List Loc), va_P D vwCl w' H1 → va_S (Afr ad s.heap.size) s.heap H1 locs1 → W p l e R s m args below meth c H1 locs1 (cells + mc) (slots + ms) Q (F0 m (pc + 3) ls (.long r :: rest))) : W p l e R s m args below meth c H locs cells slots Q (F0 m pc ls st0) := by
  obtain ⟨hx, hb, hml, hr, hown, hts, hlk⟩ := C
  refine va_calll (va_runS ⟨hx, hb, hml, hown, hts⟩ hM cw ⟨PA_blind, fun U hU hW => ⟨rfl, by rw [hU], by rw [hU]; exact hP, va_K.moved hW.alike G.1, NW.warm hW G.2.2⟩⟩ rfl hn hsz hst (lv_room hroom) d hf) hS (fun q _ h => Afr.mono hS.1 h) (fun q h => Afr.mono hS.1 h) (fun r1 u t H1 locs1 ht hvm hw hB hz1 hk1 hS1 => ?_)
  rw [ht] at hB
  rw [hw]
  exact kk H1 locs1 hB hS1
theorem k_callSNi (C : Cx p s m args meth c cc nL ret own ws) (G : Gx D cs ad s) {w w' : va_W} (hP : va_P D vwCl w H) (hS : va_S (Afr ad s.heap.size) s.heap H locs) {y : MethodName} {wsy : List Cond} {rm : Room} {As : List Value} {r : Int32} {mc ms : Nat} (hM : Met l y wsy rm (PA D cs H.size w As) (va_Qi (fun r' (_ : Unit) => r' = r) (fun _ t => va_P D vwCl w' t.heap) (Afr ad H.size)) mc ms (Afr ad H.size)) {index : Nat} {bytes : ByteArray} {maxL n : Nat} {retY : Option FieldType} (cw : va_CN R s args own index y "LineBuffers" bytes maxL retY wsy rm mc ms n ∧ (Cond.static y).before args s = true ∧ True) {st0 : List Value} (hn : As.length = n) (hsz : ls.size = nL) (hst : st0 = As.reverse ++ rest) (hroom : (rest.map fun v => v.category).sum ≤ 8) (d : decode cc pc = .ok (.invokestatic index, 3)) (hf : cells + mc ≤ R.cells ∧ slots + ms ≤ R.slots)
    (kk : ∀ (H1 : Heap) (locs1 : List Loc), va_P D vwCl w' H1 → va_S (Afr ad s.heap.size) s.heap H1 locs1 → W p l e R s m args below meth c H1 locs1 (cells + mc) (slots + ms) Q (F0 m (pc + 3) ls (.int r :: rest))) : W p l e R s m args below meth c H locs cells slots Q (F0 m pc ls st0) := by
  obtain ⟨hx, hb, hml, hr, hown, hts, hlk⟩ := C
  refine va_calli (va_runSN ⟨hx, hb, hml, hown, hts⟩ hM cw ⟨PA_blind, fun U hU hW => ⟨rfl, by rw [hU], by rw [hU]; exact hP, va_K.moved hW.alike G.1, NW.warm hW G.2.2⟩⟩ rfl hn hsz hst (lv_room hroom) d hf) hS (fun q _ h => Afr.mono hS.1 h) (fun q h => Afr.mono hS.1 h) (fun r1 u t H1 locs1 ht hvm hw hB hz1 hk1 hS1 => ?_)
  rw [ht] at hB
  rw [hw]
  exact kk H1 locs1 hB hS1
end ROWS
