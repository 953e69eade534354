/-! THE LAW: a script's cell; the loop -/
def celS (xs : Nat → Int32) (L j : Nat) : Int32 := if j < L then xs j else 916318735 * (nI j + 1)
def PSc (bs L : Nat) (xs : Nat → Int32) (sz : Nat) (av : List Value) : Array Value → State → Prop := va_Pc av (fun U => U.heap.size = sz ∧ va_X bs L xs U U.heap ∧ bs < sz)
theorem PSc_blind {bs L : Nat} {xs : Nat → Int32} {sz : Nat} {av : List Value} : FrameBlind (PSc bs L xs sz av) := by
  intro a U g mk h
  obtain ⟨h1, h2, h3, h4⟩ := h
  exact ⟨h1, h2, va_X.moved (u := U) (U := U.calling g mk a) (Vm.Alike.refl U.vm) h3, h4⟩
abbrev rmL_cell : Room := { frames := 0, cells := 0, slots := 0, locals := 0 }
set_option maxRecDepth 100000 in
set_option maxHeartbeats 4000000 in
theorem m_L_cell (l : Launch) {bs L j : Nat} {xs : Nat → Int32} (sz : Nat) (hL : L ≤ 260) (hj : j < 1000) : Met l yL_cell wsW_cell rmL_cell (PSc bs L xs sz [.ref bs, .int (nI j)]) (va_Qi (fun r' (_ : Unit) => r' = celS xs L j) (fun _ _ => True) (fun q => sz ≤ q)) 0 0 (fun q => sz ≤ q) := by
  refine Met.ofW (cc := cL_cell) (maxL := 2) (ret := some .int) (by decide) rfl ?_
  intro p e s m args below meth c s₁ B hml hv
  obtain ⟨rfl, hsz, hX, hb⟩ := hv
  have hl := lv_entry [.ref bs, .int (nI j)] (n := 2) (Nat.le_of_ble_eq_true rfl)
  rw [lg_entry_eq]
  generalize (lg_sl [.ref bs, .int (nI j)] ++ List.replicate (2 - (lg_sl [.ref bs, .int (nI j)]).length) Slot.unset).toArray = ls at hl ⊢
  have hl : lv_has ls 2 [(0, .ref bs), (1, .int (nI j))] := hl
  have C : Cx p s m #[.ref bs, .int (nI j)] meth c cL_cell 2 (some .int) RL wsW_cell := ⟨B.exec, B.bytes, hml, B.returns, findClass_of_methodNamed B.named, atoms_spec (ws := wsW_cell) B.pre, B.notSynchronized⟩
  subst hsz
  have hbA : ¬ s.heap.size ≤ bs := Nat.not_le.mpr hb
  have hS : va_S (fun q => s.heap.size ≤ q) s.heap s.heap [] := va_S.rf
  refine lv_iload_n C.1 C.2.1 dL_cell_0 rfl (lv_at hl 1 rfl) ?_
  refine lv_aload_n C.1 C.2.1 dL_cell_1 rfl (lv_at hl 0 rfl) ?_
  refine va_slen C.1 C.2.1 hX hb hbA hS dL_cell_2 ?_
  have fin : ∀ {v : Int32} {ls : Array Slot}, v = celS xs L j → W p l e rmL_cell s m #[.ref bs, .int (nI j)] below meth c s.heap [] 0 0 (MQ below (va_Qi (fun r' (_ : Unit) => r' = celS xs L j) (fun _ _ => True) (fun q => s.heap.size ≤ q)) #[.ref bs, .int (nI j)] s 0 0 (fun q => s.heap.size ≤ q)) (F0 m 18 ls [.int v]) := fun {v ls} hv => by
    obtain ⟨hx, hb2, hml2, hr, hown, hts, hlk⟩ := C
    exact W.iret hx hb2 hr (fun t ht hW => ⟨⟨v, (), rfl, hv, trivial⟩, hS.F ht⟩) hS.2.2 dL_cell_18 hlk
  refine lv_icmp_ge (tgt := 12) C.1 C.2.1 dL_cell_3 (by decide) (fun z => ?_) (fun z => ?_)
  · have z2 : nI L ≤ nI j := z
    have h2 : L ≤ j := (nI_leI (by omega) (by omega)).mp z2
    obtain ⟨hx, hb2, hml2, hr, hown, hts, hlk⟩ := id C
    refine lv_ldc hx hb2 hown (hts _ (List.mem_cons_of_mem _ lk_7)) dL_cell_12 ?_
    refine lv_iload_n C.1 C.2.1 dL_cell_14 rfl (lv_at hl 1 rfl) ?_
    refine lv_iconst (v := 1) C.1 C.2.1 dL_cell_15 (by decide) ?_
    refine k_iadd C rfl dL_cell_16 ?_
    refine k_imul C rfl dL_cell_17 ?_
    exact fin (if_neg (by omega)).symm
  · have z2 : ¬ nI L ≤ nI j := z
    have h2 : j < L := Nat.not_le.mp (fun w => z2 (nI_le w (by omega)))
    refine lv_aload_n C.1 C.2.1 dL_cell_6 rfl (lv_at hl 0 rfl) ?_
    refine lv_iload_n C.1 C.2.1 dL_cell_7 rfl (lv_at hl 1 rfl) ?_
    refine va_sld C.1 C.2.1 hX hb hbA hS (vp_in_nI h2 (by omega)) dL_cell_8 ?_
    rw [nI_clamp (by omega)]
    refine lv_goto (tgt := 18) C.1 C.2.1 dL_cell_9 (by decide) ?_
    exact fin (if_pos h2).symm
section CE
variable {p : Program} {l : Launch} {e : Env} {R : Room} {s : State} {m : MethodId} {args : Array Value} {below : List Frame} {meth : Method} {c : Code} {H : Heap} {locs : List Loc} {cells slots : Nat} {Q : State → Prop}
variable {cc : ByteArray} {pc : Nat} {ls : Array Slot} {rest : List Value} {nL : Nat} {ret : Option FieldType} {D : va_G} {ad : Nat → Nat}
theorem k_callCe (C : Cx p s m args meth c cc nL ret RL lw_tbl) {bs L : Nat} {xs : Nat → Int32} (hX : va_X bs L xs s s.heap) (hbl : bs < s.heap.size) (hbA : ¬ Afr ad s.heap.size bs) {w : va_W} (hP : va_P D vwCl w H) (hS : va_S (Afr ad s.heap.size) s.heap H locs) (hL : L ≤ 260) {j : Nat} (hj : j < 1000) (hsz : ls.size = nL) (d : decode cc pc = .ok (.invokestatic 159, 3)) (hf : cells + 0 ≤ room_1.cells ∧ slots + 0 ≤ room_1.slots)
    (kk : ∀ (H1 : Heap) (locs1 : List Loc), va_P D vwCl w H1 → va_S (Afr ad s.heap.size) s.heap H1 locs1 → W p l e room_1 s m args below meth c H1 locs1 (cells + 0) (slots + 0) Q (F0 m (pc + 3) ls [.int (celS xs L j)])) : W p l e room_1 s m args below meth c H locs cells slots Q (F0 m pc ls [.int (nI j), .ref bs]) := by
  obtain ⟨hx, hb, hml, hr, hown, hts, hlk⟩ := C
  refine va_calli (rest := []) (va_runS ⟨hx, hb, hml, hown, hts⟩ (m_L_cell l (bs := bs) (xs := xs) H.size hL hj) (va_cwS 2 hts (lwG_up wl_cell) rfl rfl rfl (by decide +kernel) ⟨Nat.le_of_ble_eq_true rfl, Nat.le_of_ble_eq_true rfl⟩) ⟨PSc_blind, fun U hU hW => ⟨rfl, by rw [hU], by rw [hU]; exact (hX.kept (hS.2.1 bs hbl hbA)).moved hW.alike, Nat.lt_of_lt_of_le hbl hS.1⟩⟩ (As := [.ref bs, .int (nI j)]) rfl rfl hsz rfl (Nat.le_of_ble_eq_true rfl) d hf) hS (fun q _ h => Afr.mono hS.1 (Or.inr h)) (fun q h => Or.inr (Nat.le_trans hS.1 h)) (fun r1 u t H1 locs1 ht hvm hw hB hz1 hk1 hS1 => ?_)
  rw [hw]
  exact kk H1 locs1 (hP.kept (fun k q hq => hk1 q.1 (hP k q hq).lt (Nat.not_le.mpr (hP k q hq).lt))) hS1
end CE
theorem lo_Y (x : Int32) : ∃ Y : Nat, Y < 10000000 ∧ f_L_low x 10000000 = some (nI Y) := by
  refine ⟨x.toBitVec.toNat % 2 ^ 31 % 10000000, Nat.mod_lt _ (by omega), ?_⟩
  unfold f_L_low
  have h : x.toBitVec.toNat % 2 ^ 31 < 2147483648 := Nat.mod_lt _ (by omega)
  rw [lt_n, pk_and x 31 (by decide), show nz 10000000 = true from rfl, gd_n, lt_n, show (10000000 : Int32) = nI 10000000 from rfl, md_ h (by omega) (by omega)]
abbrev lvL (bs : Nat) (ad : Nat → Nat) (t : Nat) : List (Nat × Value) := [(0, .ref bs), (1, .ref (ad 0)), (2, .int 1), (3, .int (nI t))]
/-- where the law stands: the machine, the tables' words, what throws and catches need, the script -/
def LX (p : Program) (l : Launch) (s : State) (m : MethodId) (meth : Method) (c : Code) (bs L : Nat) (xs : Nat → Int32) (D : va_G) (cs : Nat → ClassId) (ad : Nat → Nat) : Prop :=
  Cx p s m #[.ref bs] meth c code 9 ret RL lw_tbl ∧ Gx D cs ad s ∧ XS ad s.heap.size s s.heap ∧ NC s ∧ YC s ∧ va_X bs L xs s s.heap ∧ bs < s.heap.size ∧ (¬ Afr ad s.heap.size bs) ∧ L ≤ 260 ∧ l.stackTraces = false
abbrev TZ : SL := fun _ _ => 0
/-- what follows a turn of the loop -/
def LK (p : Program) (l : Launch) (e : Env) (s : State) (m : MethodId) (bs : Nat) (below : List Frame) (meth : Method) (c : Code) (D : va_G) (cs : Nat → ClassId) (ad : Nat → Nat) (t cells slots : Nat) (Q : State → Prop) : Prop :=
  ∀ (Ls : Nat → SL) (Hs : SL) (A : LN) (v : Nat) (B : Nat → LN) (H : Heap) (locs : List Loc) (ls : Array Slot), SC FQ Ls Hs A v B → A.1.2.1 ≤ 90 * (t + 1) → va_P D vwCl (wA cs ad Ls Hs TZ) H → va_S (Afr ad s.heap.size) s.heap H locs → lv_has ls 9 (lvL bs ad (t + 1)) → W p l e room_1 s m #[.ref bs] below meth c H locs (cells + 55) (slots + 330) Q (F0 m 39 ls [])
section LAW
variable {p : Program} {l : Launch} {e : Env} {s : State} {m : MethodId} {below : List Frame} {meth : Method} {c : Code} {bs L : Nat} {xs : Nat → Int32} {D : va_G} {cs : Nat → ClassId} {ad : Nat → Nat} {Q : State → Prop} {t cells slots : Nat} {Ls : Nat → SL} {Hs : SL} {A : LN} {v : Nat} {B : Nat → LN} {H : Heap} {locs : List Loc} {ls : Array Slot}
set_option maxRecDepth 100000 in
set_option maxHeartbeats 4000000 in
theorem law_218 (E : LX p l s m meth c bs L xs D cs ad) (ht : t < 40) (hc : cells + 60 ≤ room_1.cells ∧ slots + 400 ≤ room_1.slots) (K : LK p l e s m bs below meth c D cs ad t cells slots Q) (hSC : SC FQ Ls Hs A v B) (hT : A.1.2.1 ≤ 90 * (t + 1)) (hP : va_P D vwCl (wA cs ad Ls Hs TZ) H) (hS : va_S (Afr ad s.heap.size) s.heap H locs) {yy : Nat} (hy : yy < 10000000) (hl : lv_has ls 9 [(0, .ref bs), (1, .ref (ad 0)), (2, .int 1), (3, .int (nI t)), (5, .int (nI yy))]) : W p l e room_1 s m #[.ref bs] below meth c H locs (cells + 55) (slots + 330) Q (F0 m 218 ls []) := by
  obtain ⟨C, G, X, N, Y, hX, hbl, hbA, hL, hfl⟩ := id E
  refine lv_iconst (v := 1) C.1 C.2.1 dL_law_218 (by decide) ?_
  refine lv_goto (tgt := 223) C.1 C.2.1 dL_law_219 (by decide) ?_
  refine lv_istore_n (lv' := [(2, .int 1), (0, .ref bs), (1, .ref (ad 0)), (3, .int (nI t)), (5, .int (nI yy))]) C.1 C.2.1 dL_law_223 rfl hl (by decide) rfl (fun ls hl => ?_)
  refine lv_iinc (v := nI (t + 1)) (lv' := [(3, .int (nI (t + 1))), (2, .int 1), (0, .ref bs), (1, .ref (ad 0)), (5, .int (nI yy))]) C.1 C.2.1 dL_law_224 hl (k := 3) rfl (by rw [show nI (t + 1) = nI t + 1 from (nI_add t 1).symm]; rfl) (by decide) rfl (fun ls hl => ?_)
  refine lv_goto (tgt := 39) C.1 C.2.1 dL_law_227 (by decide) ?_
  exact K _ _ _ _ _ _ _ _ hSC hT hP hS (lv_sub hl [2, 3, 1, 0] rfl)
set_option maxRecDepth 100000 in
set_option maxHeartbeats 4000000 in
theorem law_203 (E : LX p l s m meth c bs L xs D cs ad) (ht : t < 40) (hc : cells + 60 ≤ room_1.cells ∧ slots + 400 ≤ room_1.slots) (K : LK p l e s m bs below meth c D cs ad t cells slots Q) (hSC : SC FQ Ls Hs A v B) (hT : A.1.2.1 ≤ 90 * (t + 1)) (hP : va_P D vwCl (wA cs ad Ls Hs TZ) H) (hS : va_S (Afr ad s.heap.size) s.heap H locs) {yy : Nat} (hy : yy < 10000000) (hl : lv_has ls 9 [(0, .ref bs), (1, .ref (ad 0)), (2, .int 1), (3, .int (nI t)), (5, .int (nI yy))]) : W p l e room_1 s m #[.ref bs] below meth c H locs (cells + 25) (slots + 150) Q (F0 m 203 ls []) := by
  obtain ⟨C, G, X, N, Y, hX, hbl, hbA, hL, hfl⟩ := id E
  refine lv_iload_n C.1 C.2.1 dL_law_203 rfl (lv_at hl 3 rfl) ?_
  refine lv_bipush (v := 7) C.1 C.2.1 dL_law_204 (by decide) ?_
  obtain ⟨r7, e7⟩ : ∃ r, r = nI t - nI t / 7 * 7 := ⟨_, rfl⟩
  refine k_irem C (by decide) e7 dL_law_206 ?_
  refine lv_iconst (v := 5) C.1 C.2.1 dL_law_207 (by decide) ?_
  refine lv_icmp_ne (tgt := 218) C.1 C.2.1 dL_law_208 (by decide) (fun _ => ?_) (fun _ => ?_)
  · exact W.widen (k := cells + 55) (n := slots + 330) (by omega) (by omega) (law_218 E ht hc K hSC hT hP hS hy (lv_sub hl [0, 1, 2, 3, 4] rfl))
  · skip
    refine lv_aload_n C.1 C.2.1 dL_law_211 rfl (lv_at hl 1 rfl) ?_
    refine k_callSPi (r := 1) (w' := wA cs ad Ls Hs TZ) C G X N Y hP hS (m_L_refused l hfl G.2.1 _ (rf_all (TT := TZ) hSC)) (va_cwS 1 C.2.2.2.2.2.1 (lwG_up wl_refused) rfl rfl rfl (by decide +kernel) ⟨Nat.le_of_ble_eq_true rfl, Nat.le_of_ble_eq_true rfl⟩) (As := [.ref (ad 0)]) rfl hl.1 rfl (Nat.le_of_ble_eq_true rfl) dL_law_212 ⟨by omega, by omega⟩ (fun H locs hP hS => ?_)
    refine lv_if_eq (tgt := 222) C.1 C.2.1 dL_law_215 (by decide) (fun z => absurd z (by decide)) (fun _ => ?_)
    exact law_218 E ht hc K hSC hT hP hS hy (lv_sub hl [0, 1, 2, 3, 4] rfl)
set_option maxRecDepth 100000 in
set_option maxHeartbeats 4000000 in
theorem law_171 (E : LX p l s m meth c bs L xs D cs ad) (ht : t < 40) (hc : cells + 60 ≤ room_1.cells ∧ slots + 400 ≤ room_1.slots) (K : LK p l e s m bs below meth c D cs ad t cells slots Q) (hSC : SC FQ Ls Hs A v B) (hT : A.1.2.1 ≤ 90 * (t + 1)) (hP : va_P D vwCl (wA cs ad Ls Hs TZ) H) (hS : va_S (Afr ad s.heap.size) s.heap H locs) {yy : Nat} (hy : yy < 10000000) (hl : lv_has ls 9 [(0, .ref bs), (1, .ref (ad 0)), (2, .int 1), (3, .int (nI t)), (5, .int (nI yy))]) : W p l e room_1 s m #[.ref bs] below meth c H locs (cells + 3) (slots + 18) Q (F0 m 171 ls []) := by
  obtain ⟨C, G, X, N, Y, hX, hbl, hbA, hL, hfl⟩ := id E
  refine lv_iload_n C.1 C.2.1 dL_law_171 rfl (lv_at hl 2 rfl) ?_
  refine lv_if_eq (tgt := 222) C.1 C.2.1 dL_law_172 (by decide) (fun z => absurd z (by decide)) (fun _ => ?_)
  refine lv_aload_n C.1 C.2.1 dL_law_175 rfl (lv_at hl 1 rfl) ?_
  refine k_callSPi (r := 1) (w' := wA cs ad Ls Hs TZ) C G X N Y hP hS (m_L_areFit l hfl G.2.1 _ (ft_all hSC)) (va_cwS 1 C.2.2.2.2.2.1 (lwG_up wl_areFit) rfl rfl rfl (by decide +kernel) ⟨Nat.le_of_ble_eq_true rfl, Nat.le_of_ble_eq_true rfl⟩) (As := [.ref (ad 0)]) rfl hl.1 rfl (Nat.le_of_ble_eq_true rfl) dL_law_176 ⟨by omega, by omega⟩ (fun H locs hP hS => ?_)
  refine lv_if_eq (tgt := 222) C.1 C.2.1 dL_law_179 (by decide) (fun z => absurd z (by decide)) (fun _ => ?_)
  refine lv_iload_n C.1 C.2.1 dL_law_182 rfl (lv_at hl 3 rfl) ?_
  refine lv_iconst (v := 4) C.1 C.2.1 dL_law_183 (by decide) ?_
  obtain ⟨r4, e4⟩ : ∃ r, r = nI t - nI t / 4 * 4 := ⟨_, rfl⟩
  refine k_irem C (by decide) e4 dL_law_184 ?_
  refine lv_iconst (v := 2) C.1 C.2.1 dL_law_185 (by decide) ?_
  refine lv_icmp_ne (tgt := 203) C.1 C.2.1 dL_law_186 (by decide) (fun _ => ?_) (fun _ => ?_)
  · exact W.widen (k := cells + 25) (n := slots + 150) (by omega) (by omega) (law_203 E ht hc K hSC hT hP hS hy (lv_sub hl [0, 1, 2, 3, 4] rfl))
  · skip
    obtain ⟨⟨⟨n, tt, p2⟩, RR, S2⟩, eA⟩ : ∃ Z : LN, Z = A := ⟨A, rfl⟩
    subst eA
    have hm80 : yy % 80 < 80 := Nat.mod_lt _ (by omega)
    obtain ⟨Ls2, Hs2, v2, B2, ean, hSC2⟩ := an_all hSC (T := 1 + yy % 80) (by omega) (by omega)
    refine lv_aload_n C.1 C.2.1 dL_law_189 rfl (lv_at hl 1 rfl) ?_
    refine lv_iconst (v := 1) C.1 C.2.1 dL_law_190 (by decide) ?_
    refine lv_iload C.1 C.2.1 dL_law_191 (lv_at hl 4 rfl) ?_
    refine lv_bipush (v := 80) C.1 C.2.1 dL_law_193 (by decide) ?_
    refine k_irem C (by decide) (md_ (a := yy) (d := 80) (by omega) (by omega) (by omega)).symm dL_law_195 ?_
    refine k_iadd C (show nI (1 + yy % 80) = 1 + nI (yy % 80) from (nI_add 1 _).symm) dL_law_196 ?_
    refine k_callSPi (r := 1) (w' := wA cs ad Ls2 Hs2 TZ) C G X N Y hP hS (m_L_isAnew l hfl G.2.1 _ ean) (va_cwS 2 C.2.2.2.2.2.1 (lwG_up wl_isAnew) rfl rfl rfl (by decide +kernel) ⟨Nat.le_of_ble_eq_true rfl, Nat.le_of_ble_eq_true rfl⟩) (As := [.ref (ad 0), .int (nI (1 + yy % 80))]) rfl hl.1 rfl (Nat.le_of_ble_eq_true rfl) dL_law_197 ⟨by omega, by omega⟩ (fun H locs hP hS => ?_)
    refine lv_if_eq (tgt := 222) C.1 C.2.1 dL_law_200 (by decide) (fun z => absurd z (by decide)) (fun _ => ?_)
    exact law_203 E ht hc K hSC2 hT hP hS hy (lv_sub hl [0, 1, 2, 3, 4] rfl)
set_option maxRecDepth 100000 in
set_option maxHeartbeats 4000000 in
theorem law_99n (E : LX p l s m meth c bs L xs D cs ad) (ht : t < 40) (hc : cells + 60 ≤ room_1.cells ∧ slots + 400 ≤ room_1.slots) (K : LK p l e s m bs below meth c D cs ad t cells slots Q) (hSC : SC FQ Ls Hs A v B) (hT : A.1.2.1 ≤ 90 * (t + 1)) (hP : va_P D vwCl (wA cs ad Ls Hs TZ) H) (hS : va_S (Afr ad s.heap.size) s.heap H locs) {b x : Int32} {yy : Nat} (hy : yy < 10000000) (hb : b = -5000002 ∨ b = -5000003) (hl : lv_has ls 9 [(8, .int b), (6, .long (prA A)), (5, .int (nI yy)), (4, .int x), (0, .ref bs), (1, .ref (ad 0)), (2, .int 1), (3, .int (nI t))]) : W p l e room_1 s m #[.ref bs] below meth c H locs (cells + 2) (slots + 12) Q (F0 m 99 ls []) := by
  obtain ⟨C, G, X, N, Y, hX, hbl, hbA, hL, hfl⟩ := id E
  refine lv_iload C.1 C.2.1 dL_law_99 (lv_at hl 0 rfl) ?_
  refine lv_if_ge (tgt := 118) C.1 C.2.1 dL_law_101 (by decide) (fun z => absurd z (show ¬ (0 : Int32) ≤ b by rcases hb with rfl | rfl <;> decide)) (fun _ => ?_)
  refine lv_iload C.1 C.2.1 dL_law_104 (lv_at hl 0 rfl) ?_
  refine k_ldci C G (List.mem_filter.mp lk_20).1 dL_law_106 ?_
  have K118 : ∀ {ls : Array Slot}, lv_has ls 9 [(8, .int b), (6, .long (prA A)), (5, .int (nI yy)), (4, .int x), (0, .ref bs), (1, .ref (ad 0)), (2, .int 1), (3, .int (nI t))] → W p l e room_1 s m #[.ref bs] below meth c H locs (cells + 2) (slots + 12) Q (F0 m 118 ls []) := fun {ls} hl => by
    refine lv_iconst (v := 1) C.1 C.2.1 dL_law_118 (by decide) ?_
    refine lv_goto (tgt := 123) C.1 C.2.1 dL_law_119 (by decide) ?_
    refine lv_istore_n (lv' := [(2, .int 1), (8, .int b), (6, .long (prA A)), (5, .int (nI yy)), (4, .int x), (0, .ref bs), (1, .ref (ad 0)), (3, .int (nI t))]) C.1 C.2.1 dL_law_123 rfl hl (by decide) rfl (fun ls hl => ?_)
    refine lv_iload_n C.1 C.2.1 dL_law_124 rfl (lv_at hl 0 rfl) ?_
    refine lv_if_eq (tgt := 171) C.1 C.2.1 dL_law_125 (by decide) (fun z => absurd z (by decide)) (fun _ => ?_)
    refine lv_iload C.1 C.2.1 dL_law_128 (lv_at hl 1 rfl) ?_
    refine lv_if_lt (tgt := 171) C.1 C.2.1 dL_law_130 (by decide) (fun _ => ?_) (fun z => absurd z (show ¬ ¬ b < 0 from fun w => w (by rcases hb with rfl | rfl <;> decide)))
    exact W.widen (k := cells + 3) (n := slots + 18) (by omega) (by omega) (law_171 E ht hc K hSC hT hP hS hy (lv_sub hl [5, 6, 0, 7, 3] rfl))
  refine lv_icmp_eq (tgt := 118) C.1 C.2.1 dL_law_108 (by decide) (fun _ => K118 hl) (fun z2 => ?_)
  refine lv_iload C.1 C.2.1 dL_law_111 (lv_at hl 0 rfl) ?_
  refine k_ldci C G (List.mem_filter.mp lk_27).1 dL_law_113 ?_
  refine lv_icmp_ne (tgt := 122) C.1 C.2.1 dL_law_115 (by decide) (fun z => absurd z (show ¬ ¬ b = (-5000003) from fun w => w (hb.resolve_left z2))) (fun _ => ?_)
  exact K118 hl
set_option maxRecDepth 100000 in
set_option maxHeartbeats 4000000 in
theorem law_99y (E : LX p l s m meth c bs L xs D cs ad) (ht : t < 40) (hc : cells + 60 ≤ room_1.cells ∧ slots + 400 ≤ room_1.slots) (K : LK p l e s m bs below meth c D cs ad t cells slots Q) (hSC : SC FQ Ls Hs A v B) (hT : A.1.2.1 ≤ 90 * (t + 1)) (hP : va_P D vwCl (wA cs ad Ls Hs TZ) H) (hS : va_S (Afr ad s.heap.size) s.heap H locs) {A0 : LN} {v0 : Nat} {B0 : Nat → LN} (hx : NX A0 v0 B0 v B) (h0 : A0.1.2.1 ≤ 90 * (t + 1)) {b x : Int32} {yy : Nat} (hy : yy < 10000000) (hb : 0 ≤ b) (hl : lv_has ls 9 [(8, .int b), (6, .long (prA A0)), (5, .int (nI yy)), (4, .int x), (0, .ref bs), (1, .ref (ad 0)), (2, .int 1), (3, .int (nI t))]) : W p l e room_1 s m #[.ref bs] below meth c H locs (cells + 2) (slots + 12) Q (F0 m 99 ls []) := by
  obtain ⟨C, G, X, N, Y, hX, hbl, hbA, hL, hfl⟩ := id E
  refine lv_iload C.1 C.2.1 dL_law_99 (lv_at hl 0 rfl) ?_
  refine lv_if_ge (tgt := 118) C.1 C.2.1 dL_law_101 (by decide) (fun _ => ?_) (fun z => absurd z (fun w => w hb))
  refine lv_iconst (v := 1) C.1 C.2.1 dL_law_118 (by decide) ?_
  refine lv_goto (tgt := 123) C.1 C.2.1 dL_law_119 (by decide) ?_
  refine lv_istore_n (lv' := [(2, .int 1), (8, .int b), (6, .long (prA A0)), (5, .int (nI yy)), (4, .int x), (0, .ref bs), (1, .ref (ad 0)), (3, .int (nI t))]) C.1 C.2.1 dL_law_123 rfl hl (by decide) rfl (fun ls hl => ?_)
  refine lv_iload_n C.1 C.2.1 dL_law_124 rfl (lv_at hl 0 rfl) ?_
  refine lv_if_eq (tgt := 171) C.1 C.2.1 dL_law_125 (by decide) (fun z => absurd z (by decide)) (fun _ => ?_)
  refine lv_iload C.1 C.2.1 dL_law_128 (lv_at hl 1 rfl) ?_
  refine lv_if_lt (tgt := 171) C.1 C.2.1 dL_law_130 (by decide) (fun z => absurd z (i_nlt hb)) (fun _ => ?_)
  refine lv_iload C.1 C.2.1 dL_law_133 (lv_at hl 4 rfl) ?_
  refine lv_bipush (v := 25) C.1 C.2.1 dL_law_135 (by decide) ?_
  obtain ⟨r25, e25⟩ : ∃ r, r = x >>> ((25 : Int32) &&& 31) := ⟨_, rfl⟩
  refine k_ishr C e25 dL_law_137 ?_
  refine lv_iconst (v := 3) C.1 C.2.1 dL_law_138 (by decide) ?_
  obtain ⟨r3, e3⟩ : ∃ r, r = r25 &&& 3 := ⟨_, rfl⟩
  refine k_iand C e3 dL_law_139 ?_
  refine lv_if_ne (tgt := 171) C.1 C.2.1 dL_law_140 (by decide) (fun _ => ?_) (fun _ => ?_)
  · exact W.widen (k := cells + 3) (n := slots + 18) (by omega) (by omega) (law_171 E ht hc K hSC hT hP hS hy (lv_sub hl [5, 6, 0, 7, 3] rfl))
  refine lv_iload_n C.1 C.2.1 dL_law_143 rfl (lv_at hl 7 rfl) ?_
  refine lv_iconst (v := 3) C.1 C.2.1 dL_law_144 (by decide) ?_
  refine lv_icmp_le (tgt := 171) C.1 C.2.1 dL_law_145 (by decide) (fun _ => ?_) (fun _ => ?_)
  · exact W.widen (k := cells + 3) (n := slots + 18) (by omega) (by omega) (law_171 E ht hc K hSC hT hP hS hy (lv_sub hl [5, 6, 0, 7, 3] rfl))
  obtain ⟨Ls2, Hs2, eu, hSC2⟩ := a_und hSC (by have := hx.1; omega)
  rw [hx.2.1] at hSC2
  have eu2 : fw_undo Ls Hs = some (nI (v - 1), Ls2, Hs2) := by unfold fw_undo; rw [eu, fwt_i]
  refine lv_aload_n C.1 C.2.1 dL_law_148 rfl (lv_at hl 6 rfl) ?_
  refine k_callSWi (r := (nI (v - 1))) (w' := wA cs ad Ls2 Hs2 TZ) C G X N Y hP hS (m_L_undo l hfl G.2.1 _ eu2) (vx_cwSW 1 C.2.2.2.2.2.1 (lwG_up wl_undo) rfl rfl rfl (by decide +kernel) ⟨Nat.le_of_ble_eq_true rfl, Nat.le_of_ble_eq_true rfl⟩) (As := [.ref (ad 0)]) rfl hl.1 rfl (Nat.le_of_ble_eq_true rfl) dL_law_149 ⟨by omega, by omega⟩ (fun H locs hP hS => ?_)
  refine lv_if_lt (tgt := 169) C.1 C.2.1 dL_law_152 (by decide) (fun z => absurd z (show ¬ nI (v - 1) < 0 from i_nlt (nI_ge0 (by have := hSC.2.2.1; omega)))) (fun _ => ?_)
  refine lv_aload_n C.1 C.2.1 dL_law_155 rfl (lv_at hl 6 rfl) ?_
  refine k_callSPl (r := (prA A0)) (w' := wA cs ad Ls2 Hs2 TZ) C G X N Y hP hS (m_L_print l hfl G.2.1 _ (pr_all hSC2)) (va_cwS 1 C.2.2.2.2.2.1 (lwG_up wl_print) rfl rfl rfl (by decide +kernel) ⟨Nat.le_of_ble_eq_true rfl, Nat.le_of_ble_eq_true rfl⟩) (As := [.ref (ad 0)]) rfl hl.1 rfl (Nat.le_of_ble_eq_true rfl) dL_law_156 ⟨by omega, by omega⟩ (fun H locs hP hS => ?_)
  refine lv_lload C.1 C.2.1 dL_law_159 (lv_at hl 2 rfl) ?_
  refine k_lcmp C (lg_self (prA A0)).symm dL_law_161 ?_
  refine lv_if_ne (tgt := 169) C.1 C.2.1 dL_law_162 (by decide) (fun z => absurd z (fun w => w rfl)) (fun _ => ?_)
  refine lv_iconst (v := 1) C.1 C.2.1 dL_law_165 (by decide) ?_
  refine lv_goto (tgt := 170) C.1 C.2.1 dL_law_166 (by decide) ?_
  refine lv_istore_n (lv' := [(2, .int 1), (8, .int b), (6, .long (prA A0)), (5, .int (nI yy)), (4, .int x), (0, .ref bs), (1, .ref (ad 0)), (3, .int (nI t))]) C.1 C.2.1 dL_law_170 rfl hl (by decide) rfl (fun ls hl => ?_)
  exact W.widen (k := cells + 3) (n := slots + 18) (by omega) (by omega) (law_171 E ht hc K hSC2 h0 hP hS hy (lv_sub hl [5, 6, 0, 7, 3] rfl))
set_option maxRecDepth 100000 in
set_option maxHeartbeats 4000000 in
theorem law_92 (E : LX p l s m meth c bs L xs D cs ad) (ht : t < 40) (hc : cells + 60 ≤ room_1.cells ∧ slots + 400 ≤ room_1.slots) (K : LK p l e s m bs below meth c D cs ad t cells slots Q) (hSC : SC FQ Ls Hs A v B) (hT : A.1.2.1 ≤ 90 * t) (hP : va_P D vwCl (wA cs ad Ls Hs TZ) H) (hS : va_S (Afr ad s.heap.size) s.heap H locs) {x x' : Int32} {yy : Nat} (hy : yy < 10000000) (hl : lv_has ls 9 [(6, .long (prA A)), (5, .int (nI yy)), (4, .int x), (0, .ref bs), (1, .ref (ad 0)), (2, .int 1), (3, .int (nI t))]) : W p l e room_1 s m #[.ref bs] below meth c H locs (cells + 0) (slots + 0) Q (F0 m 92 ls [.int x', .ref (ad 0)]) := by
  obtain ⟨C, G, X, N, Y, hX, hbl, hbA, hL, hfl⟩ := id E
  obtain ⟨b, Ls2, Hs2, ea, hr⟩ := ac_all hSC (by omega) x' hy
  refine lv_iload C.1 C.2.1 dL_law_92 (lv_at hl 1 rfl) ?_
  refine k_callSPi (r := b) (w' := wA cs ad Ls2 Hs2 TZ) C G X N Y hP hS (m_L_acts l hfl G.2.1 _ ea) (va_cwS 3 C.2.2.2.2.2.1 (lwG_up wl_acts) rfl rfl rfl (by decide +kernel) ⟨Nat.le_of_ble_eq_true rfl, Nat.le_of_ble_eq_true rfl⟩) (As := [.ref (ad 0), .int x', .int (nI yy)]) rfl hl.1 rfl (Nat.le_of_ble_eq_true rfl) dL_law_94 ⟨by omega, by omega⟩ (fun H locs hP hS => ?_)
  refine lv_istore (lv' := [(8, .int b), (6, .long (prA A)), (5, .int (nI yy)), (4, .int x), (0, .ref bs), (1, .ref (ad 0)), (2, .int 1), (3, .int (nI t))]) C.1 C.2.1 dL_law_97 hl (by decide) rfl (fun ls hl => ?_)
  rcases hr with ⟨hb, A2, v2, B2, hSC2, hx, ht2⟩ | ⟨hb, eL, eH⟩
  · exact law_99y E ht hc K hSC2 (by omega) hP hS hx (by omega) hy hb hl
  · rw [eL, eH] at hP
    exact law_99n E ht hc K hSC (by omega) hP hS hy hb hl
set_option maxRecDepth 100000 in
set_option maxHeartbeats 4000000 in
theorem law_49 (E : LX p l s m meth c bs L xs D cs ad) (ht : t < 40) (hc : cells + 60 ≤ room_1.cells ∧ slots + 400 ≤ room_1.slots) (K : LK p l e s m bs below meth c D cs ad t cells slots Q) (hSC : SC FQ Ls Hs A v B) (hT : A.1.2.1 ≤ 90 * t) (hP : va_P D vwCl (wA cs ad Ls Hs TZ) H) (hS : va_S (Afr ad s.heap.size) s.heap H locs) (hl : lv_has ls 9 (lvL bs ad t)) : W p l e room_1 s m #[.ref bs] below meth c H locs (cells + 0) (slots + 0) Q (F0 m 49 ls []) := by
  obtain ⟨C, G, X, N, Y, hX, hbl, hbA, hL, hfl⟩ := id E
  refine lv_aload_n C.1 C.2.1 dL_law_49 rfl (lv_at hl 0 rfl) ?_
  refine lv_iconst (v := 2) C.1 C.2.1 dL_law_50 (by decide) ?_
  refine lv_iload_n C.1 C.2.1 dL_law_51 rfl (lv_at hl 3 rfl) ?_
  refine k_imul C (show nI (2 * t) = 2 * nI t from (pk_mul 2 t).symm) dL_law_52 ?_
  refine k_callCe C hX hbl hbA hP hS hL (j := 2 * t) (by omega) hl.1 dL_law_53 ⟨by omega, by omega⟩ (fun H locs hP hS => ?_)
  generalize celS xs L (2 * t) = x
  refine lv_istore (lv' := [(4, .int x), (0, .ref bs), (1, .ref (ad 0)), (2, .int 1), (3, .int (nI t))]) C.1 C.2.1 dL_law_56 hl (by decide) rfl (fun ls hl => ?_)
  refine lv_aload_n C.1 C.2.1 dL_law_58 rfl (lv_at hl 1 rfl) ?_
  refine lv_iconst (v := 2) C.1 C.2.1 dL_law_59 (by decide) ?_
  refine lv_iload_n C.1 C.2.1 dL_law_60 rfl (lv_at hl 4 rfl) ?_
  refine k_imul C (show nI (2 * t) = 2 * nI t from (pk_mul 2 t).symm) dL_law_61 ?_
  refine lv_iconst (v := 1) C.1 C.2.1 dL_law_62 (by decide) ?_
  refine k_iadd C (show nI (2 * t + 1) = nI (2 * t) + 1 from (nI_add _ 1).symm) dL_law_63 ?_
  refine k_callCe C hX hbl hbA hP hS hL (j := 2 * t + 1) (by omega) hl.1 dL_law_64 ⟨by omega, by omega⟩ (fun H locs hP hS => ?_)
  obtain ⟨yy, hy, ey⟩ := lo_Y (celS xs L (2 * t + 1))
  refine k_ldci C G (List.mem_filter.mp lk_163).1 dL_law_67 ?_
  refine k_callSPi (r := (nI yy)) (w' := wA cs ad Ls Hs TZ) C G X N Y hP hS (m_L_low l hfl G.2.1 _ ey) (va_cwS 2 C.2.2.2.2.2.1 (lwG_up wl_low) rfl rfl rfl (by decide +kernel) ⟨Nat.le_of_ble_eq_true rfl, Nat.le_of_ble_eq_true rfl⟩) (As := [.int (celS xs L (2 * t + 1)), .int 10000000]) rfl hl.1 rfl (Nat.le_of_ble_eq_true rfl) dL_law_69 ⟨by omega, by omega⟩ (fun H locs hP hS => ?_)
  refine lv_istore (lv' := [(5, .int (nI yy)), (4, .int x), (0, .ref bs), (1, .ref (ad 0)), (2, .int 1), (3, .int (nI t))]) C.1 C.2.1 dL_law_72 hl (by decide) rfl (fun ls hl => ?_)
  refine lv_aload_n C.1 C.2.1 dL_law_74 rfl (lv_at hl 3 rfl) ?_
  refine k_callSPl (r := (prA A)) (w' := wA cs ad Ls Hs TZ) C G X N Y hP hS (m_L_print l hfl G.2.1 _ (pr_all hSC)) (va_cwS 1 C.2.2.2.2.2.1 (lwG_up wl_print) rfl rfl rfl (by decide +kernel) ⟨Nat.le_of_ble_eq_true rfl, Nat.le_of_ble_eq_true rfl⟩) (As := [.ref (ad 0)]) rfl hl.1 rfl (Nat.le_of_ble_eq_true rfl) dL_law_75 ⟨by omega, by omega⟩ (fun H locs hP hS => ?_)
  refine lv_lstore (lv' := [(6, .long (prA A)), (5, .int (nI yy)), (4, .int x), (0, .ref bs), (1, .ref (ad 0)), (2, .int 1), (3, .int (nI t))]) C.1 C.2.1 dL_law_78 hl (by decide) rfl (fun ls hl => ?_)
  refine lv_aload_n C.1 C.2.1 dL_law_80 rfl (lv_at hl 4 rfl) ?_
  refine lv_iload_n C.1 C.2.1 dL_law_81 rfl (lv_at hl 6 rfl) ?_
  refine lv_iconst (v := 3) C.1 C.2.1 dL_law_82 (by decide) ?_
  refine lv_icmp_ge (tgt := 90) C.1 C.2.1 dL_law_83 (by decide) (fun _ => ?_) (fun _ => ?_)
  · skip
    refine lv_iload C.1 C.2.1 dL_law_90 (lv_at hl 2 rfl) ?_
    exact law_92 E ht hc K hSC hT hP hS hy hl
  · skip
    refine lv_iconst (v := 0) C.1 C.2.1 dL_law_86 (by decide) ?_
    refine lv_goto (tgt := 92) C.1 C.2.1 dL_law_87 (by decide) ?_
    exact law_92 E ht hc K hSC hT hP hS hy hl
end LAW
set_option maxRecDepth 100000 in
set_option maxHeartbeats 4000000 in
/-- the loop: n turns more -/
theorem law_loop {p : Program} {l : Launch} {e : Env} {s : State} {m : MethodId} {below : List Frame} {meth : Method} {c : Code} {bs L : Nat} {xs : Nat → Int32} {D : va_G} {cs : Nat → ClassId} {ad : Nat → Nat} {Q : State → Prop} {c0 s0 : Nat} (E : LX p l s m meth c bs L xs D cs ad) (hc0 : c0 + 3000 ≤ room_1.cells ∧ s0 + 20000 ≤ room_1.slots)
    (fin : ∀ (k n : Nat) (H : Heap) (locs : List Loc) (ls : Array Slot), k ≤ c0 + 3000 → n ≤ s0 + 20000 → va_S (Afr ad s.heap.size) s.heap H locs → W p l e room_1 s m #[.ref bs] below meth c H locs k n Q (F0 m 246 ls [.int 1])) :
    ∀ (n t : Nat) (Ls : Nat → SL) (Hs : SL) (A : LN) (v : Nat) (B : Nat → LN) (H : Heap) (locs : List Loc) (ls : Array Slot), t + n = 40 → SC FQ Ls Hs A v B → A.1.2.1 ≤ 90 * t → va_P D vwCl (wA cs ad Ls Hs TZ) H → va_S (Afr ad s.heap.size) s.heap H locs → lv_has ls 9 (lvL bs ad t) → W p l e room_1 s m #[.ref bs] below meth c H locs (c0 + 55 * t) (s0 + 330 * t) Q (F0 m 39 ls []) := by
  obtain ⟨C, G, X, N, Y, hX, hbl, hbA, hL, hfl⟩ := id E
  intro n
  induction n with
  | zero =>
    intro t Ls Hs A v B H locs ls hn hSC hT hP hS hl
    refine lv_iload_n C.1 C.2.1 dL_law_39 rfl (lv_at hl 3 rfl) ?_
    refine lv_bipush (v := 40) C.1 C.2.1 dL_law_40 (by decide) ?_
    refine lv_icmp_ge (tgt := 230) C.1 C.2.1 dL_law_42 (by decide) (fun _ => ?_) (fun z => absurd z (show ¬ ¬ (40 : Int32) ≤ nI t from fun w => w (nI_le (a := 40) (by omega) (by omega))))
    refine lv_iload_n C.1 C.2.1 dL_law_230 rfl (lv_at hl 2 rfl) ?_
    refine lv_if_eq (tgt := 245) C.1 C.2.1 dL_law_231 (by decide) (fun z => absurd z (by decide)) (fun _ => ?_)
    refine lv_aload_n C.1 C.2.1 dL_law_234 rfl (lv_at hl 1 rfl) ?_
    refine k_callSPi (r := 1) (w' := wA cs ad Ls Hs TZ) C G X N Y hP hS (m_L_refused l hfl G.2.1 _ (rf_all (TT := TZ) hSC)) (va_cwS 1 C.2.2.2.2.2.1 (lwG_up wl_refused) rfl rfl rfl (by decide +kernel) ⟨Nat.le_of_ble_eq_true rfl, Nat.le_of_ble_eq_true rfl⟩) (As := [.ref (ad 0)]) rfl hl.1 rfl (Nat.le_of_ble_eq_true rfl) dL_law_235 ⟨by omega, by omega⟩ (fun H locs hP hS => ?_)
    refine lv_if_eq (tgt := 245) C.1 C.2.1 dL_law_238 (by decide) (fun z => absurd z (by decide)) (fun _ => ?_)
    refine lv_iconst (v := 1) C.1 C.2.1 dL_law_241 (by decide) ?_
    refine lv_goto (tgt := 246) C.1 C.2.1 dL_law_242 (by decide) ?_
    exact fin _ _ _ _ _ (by omega) (by omega) hS
  | succ n ih =>
    intro t Ls Hs A v B H locs ls hn hSC hT hP hS hl
    refine lv_iload_n C.1 C.2.1 dL_law_39 rfl (lv_at hl 3 rfl) ?_
    refine lv_bipush (v := 40) C.1 C.2.1 dL_law_40 (by decide) ?_
    refine lv_icmp_ge (tgt := 230) C.1 C.2.1 dL_law_42 (by decide) (fun z => absurd z (show ¬ (40 : Int32) ≤ nI t from nI_ge (b := 40) (by omega) (by omega))) (fun _ => ?_)
    refine lv_iload_n C.1 C.2.1 dL_law_45 rfl (lv_at hl 2 rfl) ?_
    refine lv_if_eq (tgt := 230) C.1 C.2.1 dL_law_46 (by decide) (fun z => absurd z (by decide)) (fun _ => ?_)
    exact law_49 (cells := c0 + 55 * t) (slots := s0 + 330 * t) E (by omega) ⟨by omega, by omega⟩ (fun Ls Hs A v B H locs ls a1 a2 a3 a4 a5 => ih (t + 1) Ls Hs A v B H locs ls (by omega) a1 a2 a3 a4 a5) hSC hT hP hS hl
