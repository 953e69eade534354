/-! THE MEANING, 23: the items of the text -/
theorem gd_1 {α : Type} (x : Option α) : gd (isB 1) x = x := id rfl
theorem gd_0 {α : Type} (x : Option α) : gd (isB 0) x = x := id rfl
theorem n10 : ¬ (1 : Int32) = 0 := by decide
theorem n00 : ¬ ¬ (0 : Int32) = 0 := fun z => z rfl
theorem ML.row {n t p : Nat} {M M' R S : SL} (h : ML n t p M R S) (k : M' 1 = M 1) : ML n t p M' R S := by
  have q : MB n t p (M 1) R S := h
  rw [← k] at q
  exact q
theorem JT.go {T M : SL} {len a : Nat} (h : JT T M len a) (ha : a < len) : JT (up2 T 0 2 (nI (a + 1))) (up2 M 0 9 (nI (a + 1))) len (a + 1) := by
  obtain ⟨hl, -, j1, j6, hb, j2, j3, j9⟩ := h
  exact ⟨hl, ha, by rw [up2_q (by omega)]; exact j1, by rw [up2_q (by omega)]; exact j6, fun i hi => by rw [up2_row (by omega), up2_row (by omega)]; exact hb i hi, up2_s _ _ _ _, by rw [up2_q (by omega)]; exact j3, up2_s _ _ _ _⟩
/-- the three reads stop at the first error -/
theorem c_mac1 {L T T1 : SL} {v : Int32} {s : Nat} (e : f_X3_readNumber T 1 20 44 = some (v, T1)) (hs : s ≤ 120) (h : T1 0 3 = nI s) : f_X3_readMachine L T = some (L, T1) := by
  unfold f_X3_readMachine
  rw [e, bd2_n, c_err hs h, bd2_n, c_err hs h, bd2_n, lt_n, h, if_pos (nI_m (by omega))]
theorem c_mac2 {L T T1 T2 : SL} {v w : Int32} {s : Nat} (e : f_X3_readNumber T 1 20 44 = some (v, T1)) (e2 : f_X3_readNumber T1 1 v 44 = some (w, T2)) (hs : s ≤ 120) (h : T2 0 3 = nI s) : f_X3_readMachine L T = some (L, T2) := by
  unfold f_X3_readMachine
  rw [e, bd2_n, e2, bd2_n, c_err hs h, bd2_n, lt_n, h, if_pos (nI_m (by omega))]
theorem c_mac3 {L T T1 T2 T3 : SL} {v w x : Int32} {s : Nat} (e : f_X3_readNumber T 1 20 44 = some (v, T1)) (e2 : f_X3_readNumber T1 1 v 44 = some (w, T2)) (e3 : f_X3_readNumber T2 0 40 59 = some (x, T3)) (hs : s ≤ 120) (h : T3 0 3 = nI s) : f_X3_readMachine L T = some (L, T3) := by
  unfold f_X3_readMachine
  rw [e, bd2_n, e2, bd2_n, e3, bd2_n, lt_n, h, if_pos (nI_m (by omega))]
theorem p_mac {n len a : Nat} {T M L R S : SL} (hn : n < 8) (ha : a < len) (h : JT T M len a) (hC : CL n 0 0 L R S) (hM : ML n 0 0 M R S) (hW : WF ((n, 0, 0), R, S)) : ∃ L' T' M', f_X3_readMachine L (up2 T 0 2 (nI (a + 1))) = some (L', T') ∧ KT T T' ∧ KN M M' ∧
    ((f_X6_readsMachine M = some (0, M') ∧ ∃ s, s ≤ len ∧ M' 0 9 = nI s ∧ T' 0 3 = nI s) ∨
     (f_X6_readsMachine M = some (1, M') ∧ ∃ a', a < a' ∧ JT T' M' len a' ∧ ∃ R', CL (n + 1) 0 0 L' R' S ∧ ML (n + 1) 0 0 M' R' S ∧ WF ((n + 1, 0, 0), R', S))) := by
  have hl := h.1
  have h' := h.go ha
  have kT0 : KT T (up2 T 0 2 (nI (a + 1))) := KT.rf.put (by omega)
  have kN0 : KN M (up2 M 0 9 (nI (a + 1))) := KN.rf.put (Or.inl rfl)
  have kR0 : up2 M 0 9 (nI (a + 1)) 1 = M 1 := up2_row (by omega)
  have eR : ∀ r M', (bd2 (f_X6_number (up2 M 0 9 (nI (a + 1))) 1 20) (fun r6 M7 => (if ¬ r6 = 0 then lt_ (M7 0 10) (fun v10 => bd2 (f_X6_sign M7 44) (fun r11 M12 => (if r11 = 0 then  some (0, M12) else bd2 (f_X6_number M12 1 v10) (fun r15 M16 => (if ¬ r15 = 0 then lt_ (M16 0 10) (fun v19 => bd2 (f_X6_sign M16 44) (fun r20 M21 => (if r20 = 0 then  some (0, M21) else bd2 (f_X6_number M21 0 40) (fun r24 M25 => (if ¬ r24 = 0 then lt_ (M25 0 10) (fun v28 => bd (f_X6_adds M25 v10 v19 v28) (fun M29 => bd2 (f_X6_sign M29 59) (fun r31 M32 => gd (isB r31) ( some (r31, M32))))) else  some (0, M25)))))) else  some (0, M16)))))) else  some (0, M7)))) = some (r, M') → f_X6_readsMachine M = some (r, M') := by
    intro r M' q
    unfold f_X6_readsMachine
    rw [lt_n, hM.1, if_pos (show ¬ nI n = 8 from fun z => absurd ((nI_eq (a := n) (b := 8) (by omega) (by omega)).mp z) (by omega)), lt_n, h.2.2.2.2.2.2.2, nI_1, lt_n, lt_n]
    exact q
  obtain ⟨v1, T1, e1, kT1, q1⟩ := p_com h' 1 20
  rcases q1 with ⟨M1, s, hs, f1, kN1, kR1, m9, t3⟩ | ⟨M1, M2, s, hs, f1, m10, f2, -, -, kN1, kR1, m9, t3⟩ | ⟨M1, M2, a2, ha2, f1, m10, b1, b2, f2, kN1, kR1, j2⟩
  · exact ⟨L, T1, M1, c_mac1 e1 (by omega) t3, kT0.tr kT1, kN0.tr kN1, Or.inl ⟨eR _ _ (by rw [f1, bd2_n, if_neg n00]), s, hs, m9, t3⟩⟩
  · exact ⟨L, T1, M2, c_mac1 e1 (by omega) t3, kT0.tr kT1, kN0.tr kN1, Or.inl ⟨eR _ _ (by rw [f1, bd2_n, if_pos n10, lt_n, f2, bd2_n, if_pos rfl]), s, hs, m9, t3⟩⟩
  · obtain ⟨v2, T2, e2, kT2, q2⟩ := p_com j2 1 v1
    rcases q2 with ⟨M3, s, hs, f3, kN2, kR2, m9, t3⟩ | ⟨M3, M4, s, hs, f3, m10', f4, -, -, kN2, kR2, m9, t3⟩ | ⟨M3, M4, a3, ha3, f3, m10', b3, b4, f4, kN2, kR2, j3⟩
    · exact ⟨L, T2, M3, c_mac2 e1 e2 (by omega) t3, (kT0.tr kT1).tr kT2, (kN0.tr kN1).tr kN2, Or.inl ⟨eR _ _ (by rw [f1, bd2_n, if_pos n10, lt_n, f2, bd2_n, if_neg n10, m10, f3, bd2_n, if_neg n00]), s, hs, m9, t3⟩⟩
    · exact ⟨L, T2, M4, c_mac2 e1 e2 (by omega) t3, (kT0.tr kT1).tr kT2, (kN0.tr kN1).tr kN2, Or.inl ⟨eR _ _ (by rw [f1, bd2_n, if_pos n10, lt_n, f2, bd2_n, if_neg n10, m10, f3, bd2_n, if_pos n10, lt_n, f4, bd2_n, if_pos rfl]), s, hs, m9, t3⟩⟩
    · obtain ⟨v3, T3, M5, e3, kT3, kN3, kR3, q3⟩ := p_num j3 0 40 (e := 59) (by decide)
      have j3' := j3
      obtain ⟨-, -, i1, i6, ib, -, -, -⟩ := j3'
      rcases q3 with ⟨s, hs, f5, m9, t3⟩ | ⟨s, hs1, hs, f5, m9, m10'', b5, b6, q4⟩
      · exact ⟨L, T3, M5, c_mac3 e1 e2 e3 (by omega) t3, ((kT0.tr kT1).tr kT2).tr kT3, ((kN0.tr kN1).tr kN2).tr kN3, Or.inl ⟨eR _ _ (by rw [f1, bd2_n, if_pos n10, lt_n, f2, bd2_n, if_neg n10, m10, f3, bd2_n, if_pos n10, lt_n, f4, bd2_n, if_neg n10, m10', f5, bd2_n, if_neg n00]), s, hs, m9, t3⟩⟩
      · have hM5 : ML n 0 0 M5 R S := hM.row (kR3.trans (kR2.trans (kR1.trans kR0)))
        obtain ⟨M6, f6, hM6, kM6⟩ := m_adds hn hM5 v1 v2 v3
        have n6 : M6 0 6 = nI len := by rw [kM6 0 (by omega), kN3.2 6 (by omega) (by omega)]; exact i6
        have n9 : M6 0 9 = nI s := by rw [kM6 0 (by omega)]; exact m9
        have n4 : M6 4 = M4 4 := (kM6 4 (by omega)).trans (kN3.1 4 (by omega) (by omega))
        have kN6 : KN M M6 := (((kN0.tr kN1).tr kN2).tr kN3).k1 kM6
        have kT6 : KT T T3 := ((kT0.tr kT1).tr kT2).tr kT3
        have chain : ∀ r X, f_X6_sign M6 59 = some (r, X) → (r = 0 ∨ r = 1) → f_X6_readsMachine M = some (r, X) := fun r X hX hr => eR _ _ (by
          rw [f1, bd2_n, if_pos n10, lt_n, f2, bd2_n, if_neg n10, m10, f3, bd2_n, if_pos n10, lt_n, f4, bd2_n, if_neg n10, m10', f5, bd2_n, if_pos n10, lt_n, m10'', f6, bd_n, hX, bd2_n]
          rcases hr with rfl | rfl
          · rw [gd_0]
          · rw [gd_1])
        rcases q4 with ⟨g, t2, t3⟩ | ⟨g, t3⟩
        · have f7 := m_signT (e := 59) hl n6 n9 (by omega) (by rw [n4]; exact g)
          obtain ⟨L2, c1, c2⟩ := c_join (L := L) hn hC v1 v2 v3
          refine ⟨L2, T3, _, ?_, kT6, kN6.put (Or.inl rfl), Or.inr ⟨chain _ _ f7 (Or.inr rfl), s + 1, by omega, ⟨hl, by have := g.1; omega, kT3.1.trans i1, by rw [up2_q (by omega)]; exact n6, fun i hi => by rw [kT3.2, up2_row (by omega), n4]; exact ib i hi, t2, t3, up2_s _ _ _ _⟩, joinS R n v1 v2 v3, c2, hM6.row (up2_row (by omega)), WF_join hW hn ⟨⟨b1, b2⟩, b3, b4⟩ ⟨b5, b6⟩⟩⟩
          unfold f_X3_readMachine
          rw [e1, bd2_n, e2, bd2_n, e3, bd2_n, lt_n, t3, if_neg (show ¬ ¬ (-1 : Int32) = -1 from fun z => z rfl), c1, bd2_n]
        · have f7 := m_signF (e := 59) hl n6 n9 (by omega) (by rw [n4]; exact g)
          exact ⟨L, T3, _, c_mac3 e1 e2 e3 (show s ≤ 120 by omega) t3, kT6, kN6.put (Or.inl rfl), Or.inl ⟨chain _ _ f7 (Or.inl rfl), s, hs, up2_s _ _ _ _, t3⟩⟩
theorem c_mar1 {n : Nat} {L T T1 : SL} {v : Int32} {s : Nat} (h2 : L 0 2 = nI n) (e : f_X3_readNumber T 0 (nI n - 1) 44 = some (v, T1)) (hs : s ≤ 120) (h : T1 0 3 = nI s) : f_X3_readMarks L T = some (L, T1) := by
  unfold f_X3_readMarks
  rw [lt_n, lt_n, h2, e, bd2_n, c_err hs h, bd2_n, c_err hs h, bd2_n, lt_n, h, if_pos (nI_m (by omega))]
theorem c_mar2 {n : Nat} {L T T1 T2 : SL} {v w : Int32} {s : Nat} (h2 : L 0 2 = nI n) (e : f_X3_readNumber T 0 (nI n - 1) 44 = some (v, T1)) (e2 : f_X3_readNumber T1 0 40 44 = some (w, T2)) (hs : s ≤ 120) (h : T2 0 3 = nI s) : f_X3_readMarks L T = some (L, T2) := by
  unfold f_X3_readMarks
  rw [lt_n, lt_n, h2, e, bd2_n, e2, bd2_n, c_err hs h, bd2_n, lt_n, h, if_pos (nI_m (by omega))]
theorem c_mar3 {n : Nat} {L T T1 T2 T3 : SL} {v w x : Int32} {s : Nat} (h2 : L 0 2 = nI n) (e : f_X3_readNumber T 0 (nI n - 1) 44 = some (v, T1)) (e2 : f_X3_readNumber T1 0 40 44 = some (w, T2)) (e3 : f_X3_readNumber T2 w 40 59 = some (x, T3)) (hs : s ≤ 120) (h : T3 0 3 = nI s) : f_X3_readMarks L T = some (L, T3) := by
  unfold f_X3_readMarks
  rw [lt_n, lt_n, h2, e, bd2_n, e2, bd2_n, e3, bd2_n, lt_n, h, if_pos (nI_m (by omega))]
theorem WF_hi {n t p m q : Nat} {R S : SL} {v : Int32} (h : WF ((n, t, p), R, S)) (hq : q = 2 ∨ q = 3) : WF ((n, t, p), up2 R m q v, S) := by
  obtain ⟨h1, h2, h3, h4, h5, h6, h7⟩ := h
  refine ⟨h1, h2, h3, fun k hk => ?_, fun k hk => ?_, h6, h7.ki (KI.rf.put (by omega))⟩
  · have g := h4 k hk
    show 1 ≤ (up2 R m q v k 1).toInt ∧ (up2 R m q v k 1).toInt ≤ (up2 R m q v k 0).toInt ∧ (up2 R m q v k 0).toInt ≤ 20 ∧ 0 ≤ (up2 R m q v k 4).toInt ∧ (up2 R m q v k 4).toInt ≤ 40
    rw [up2_q (by omega), up2_q (by omega), up2_q (by omega)]
    exact g
  · have g := h5 k hk
    show 0 ≤ (up2 R m q v k 5).toInt ∧ (up2 R m q v k 5).toInt ≤ 40 ∧ (up2 R m q v k 4).toInt ≤ 40
    rw [up2_q (by omega), up2_q (by omega)]
    exact g
theorem p_mar {n len a : Nat} {T M L R S : SL} (ha : a < len) (h : JT T M len a) (hC : CL n 0 0 L R S) (hM : ML n 0 0 M R S) (hW : WF ((n, 0, 0), R, S)) : ∃ L' T' M', f_X3_readMarks L (up2 T 0 2 (nI (a + 1))) = some (L', T') ∧ KT T T' ∧ KN M M' ∧
    ((f_X6_readsMarks M = some (0, M') ∧ ∃ s, s ≤ len ∧ M' 0 9 = nI s ∧ T' 0 3 = nI s) ∨
     (f_X6_readsMarks M = some (1, M') ∧ ∃ a', a < a' ∧ JT T' M' len a' ∧ ∃ R', CL n 0 0 L' R' S ∧ ML n 0 0 M' R' S ∧ WF ((n, 0, 0), R', S))) := by
  have hl := h.1
  have hn : n ≤ 8 := hW.1
  have h' := h.go ha
  have kT0 : KT T (up2 T 0 2 (nI (a + 1))) := KT.rf.put (by omega)
  have kN0 : KN M (up2 M 0 9 (nI (a + 1))) := KN.rf.put (Or.inl rfl)
  have kR0 : up2 M 0 9 (nI (a + 1)) 1 = M 1 := up2_row (by omega)
  have eR : ∀ r M', (bd2 (f_X6_number (up2 M 0 9 (nI (a + 1))) 0 (nI n - 1)) (fun r6 M7 => (if ¬ r6 = 0 then lt_ (M7 0 10) (fun v10 => bd (f_X6_of v10) (fun r11 => bd2 (f_X6_sign M7 44) (fun r13 M14 => (if r13 = 0 then  some (0, M14) else bd2 (f_X6_number M14 0 40) (fun r17 M18 => (if ¬ r17 = 0 then lt_ (M18 0 10) (fun v21 => bd2 (f_X6_sign M18 44) (fun r22 M23 => (if r22 = 0 then  some (0, M23) else bd2 (f_X6_number M23 v21 40) (fun r26 M27 => (if ¬ r26 = 0 then lt_ ((r11 + 2 : Int32)) (fun v30 => gd (chk v30 251) ( lt_ (up2 M27 1 v30.toNatClampNeg v21) (fun M32 => lt_ ((r11 + 3 : Int32)) (fun v33 => lt_ (M32 0 10) (fun v34 => gd (chk v33 251) ( lt_ (up2 M32 1 v33.toNatClampNeg v34) (fun M36 => bd2 (f_X6_sign M36 59) (fun r37 M38 => gd (isB r37) ( some (r37, M38)))))))))) else  some (0, M27)))))) else  some (0, M18))))))) else  some (0, M7)))) = some (r, M') → f_X6_readsMarks M = some (r, M') := by
    intro r M' q
    unfold f_X6_readsMarks
    rw [lt_n, lt_n, lt_n, lt_n, lt_n, h.2.2.2.2.2.2.2, nI_1, kR0, hM.1]
    exact q
  obtain ⟨v1, T1, e1, kT1, q1⟩ := p_com h' 0 (nI n - 1)
  rcases q1 with ⟨M1, s, hs, f1, kN1, kR1, m9, t3⟩ | ⟨M1, M2, s, hs, f1, m10, f2, b1, b2, kN1, kR1, m9, t3⟩ | ⟨M1, M2, a2, ha2, f1, m10, b1, b2, f2, kN1, kR1, j2⟩
  · exact ⟨L, T1, M1, c_mar1 hC.1 e1 (by omega) t3, kT0.tr kT1, kN0.tr kN1, Or.inl ⟨eR _ _ (by rw [f1, bd2_n, if_neg n00]), s, hs, m9, t3⟩⟩
  · obtain ⟨m, rfl, hm⟩ := (m_isM hn v1).mp ⟨b1, b2⟩
    exact ⟨L, T1, M2, c_mar1 hC.1 e1 (by omega) t3, kT0.tr kT1, kN0.tr kN1, Or.inl ⟨eR _ _ (by rw [f1, bd2_n, if_pos n10, lt_n, m10, m_of, bd_n, f2, bd2_n, if_pos rfl]), s, hs, m9, t3⟩⟩
  · obtain ⟨m, rfl, hm⟩ := (m_isM hn v1).mp ⟨b1, b2⟩
    obtain ⟨v2, T2, e2, kT2, q2⟩ := p_com j2 0 40
    rcases q2 with ⟨M3, s, hs, f3, kN2, kR2, m9, t3⟩ | ⟨M3, M4, s, hs, f3, m10', f4, -, -, kN2, kR2, m9, t3⟩ | ⟨M3, M4, a3, ha3, f3, m10', b3, b4, f4, kN2, kR2, j3⟩
    · exact ⟨L, T2, M3, c_mar2 hC.1 e1 e2 (by omega) t3, (kT0.tr kT1).tr kT2, (kN0.tr kN1).tr kN2, Or.inl ⟨eR _ _ (by rw [f1, bd2_n, if_pos n10, lt_n, m10, m_of, bd_n, f2, bd2_n, if_neg n10, f3, bd2_n, if_neg n00]), s, hs, m9, t3⟩⟩
    · exact ⟨L, T2, M4, c_mar2 hC.1 e1 e2 (by omega) t3, (kT0.tr kT1).tr kT2, (kN0.tr kN1).tr kN2, Or.inl ⟨eR _ _ (by rw [f1, bd2_n, if_pos n10, lt_n, m10, m_of, bd_n, f2, bd2_n, if_neg n10, f3, bd2_n, if_pos n10, lt_n, f4, bd2_n, if_pos rfl]), s, hs, m9, t3⟩⟩
    · obtain ⟨v3, T3, M5, e3, kT3, kN3, kR3, q3⟩ := p_num j3 v2 40 (e := 59) (by decide)
      have j3' := j3
      obtain ⟨-, -, i1, i6, ib, -, -, -⟩ := j3'
      rcases q3 with ⟨s, hs, f5, m9, t3⟩ | ⟨s, hs1, hs, f5, m9, m10'', b5, b6, q4⟩
      · exact ⟨L, T3, M5, c_mar3 hC.1 e1 e2 e3 (by omega) t3, ((kT0.tr kT1).tr kT2).tr kT3, ((kN0.tr kN1).tr kN2).tr kN3, Or.inl ⟨eR _ _ (by rw [f1, bd2_n, if_pos n10, lt_n, m10, m_of, bd_n, f2, bd2_n, if_neg n10, f3, bd2_n, if_pos n10, lt_n, f4, bd2_n, if_neg n10, m10', f5, bd2_n, if_neg n00]), s, hs, m9, t3⟩⟩
      · have hM5 : ML n 0 0 M5 R S := hM.row (kR3.trans (kR2.trans (kR1.trans kR0)))
        have hM6 := (hM5.put (m := m) (c := 2) (by omega) (by omega) v2).put (m := m) (c := 3) (by omega) (by omega) v3
        have kM6 : K1 M5 (up2 (up2 M5 1 (3 + 16 * m + 2) v2) 1 (3 + 16 * m + 3) v3) := (K1.rf.put _ _).put _ _
        have f6 : ∀ X : Option (Int32 × SL), lt_ ((nI (3 + 16 * m) + 2 : Int32)) (fun v30 => gd (chk v30 251) ( lt_ (up2 M5 1 v30.toNatClampNeg v2) (fun M32 => lt_ ((nI (3 + 16 * m) + 3 : Int32)) (fun v33 => lt_ (M32 0 10) (fun v34 => gd (chk v33 251) ( lt_ (up2 M32 1 v33.toNatClampNeg v34) (fun M36 => bd2 (f_X6_sign M36 59) (fun r37 M38 => gd (isB r37) ( some (r37, M38)))))))))) = bd2 (f_X6_sign (up2 (up2 M5 1 (3 + 16 * m + 2) v2) 1 (3 + 16 * m + 3) v3) 59) (fun r37 M38 => gd (isB r37) ( some (r37, M38))) := fun _ => by
          simp only [lt_n]
          rw [show nI (3 + 16 * m) + 2 = nI (3 + 16 * m + 2) from nI_add _ 2, show nI (3 + 16 * m) + 3 = nI (3 + 16 * m + 3) from nI_add _ 3, n_chk (by omega) (by omega), gd_n, n_chk (by omega) (by omega), gd_n, nI_clamp (by omega), nI_clamp (by omega), up2_q (by omega), m10'']
        generalize up2 (up2 M5 1 (3 + 16 * m + 2) v2) 1 (3 + 16 * m + 3) v3 = M6 at hM6 kM6 f6
        have n6 : M6 0 6 = nI len := by rw [kM6 0 (by omega), kN3.2 6 (by omega) (by omega)]; exact i6
        have n9 : M6 0 9 = nI s := by rw [kM6 0 (by omega)]; exact m9
        have n4 : M6 4 = M4 4 := (kM6 4 (by omega)).trans (kN3.1 4 (by omega) (by omega))
        have kN6 : KN M M6 := (((kN0.tr kN1).tr kN2).tr kN3).k1 kM6
        have kT6 : KT T T3 := ((kT0.tr kT1).tr kT2).tr kT3
        have chain : ∀ r X, f_X6_sign M6 59 = some (r, X) → (r = 0 ∨ r = 1) → f_X6_readsMarks M = some (r, X) := fun r X hX hr => eR _ _ (by
          rw [f1, bd2_n, if_pos n10, lt_n, m10, m_of, bd_n, f2, bd2_n, if_neg n10, f3, bd2_n, if_pos n10, lt_n, f4, bd2_n, if_neg n10, m10', f5, bd2_n, if_pos n10, f6 none, hX, bd2_n]
          rcases hr with rfl | rfl
          · rw [gd_0]
          · rw [gd_1])
        rcases q4 with ⟨g, t2, t3⟩ | ⟨g, t3⟩
        · have f7 := m_signT (e := 59) hl n6 n9 (by omega) (by rw [n4]; exact g)
          obtain ⟨L2, c1, c2⟩ := c_mark (L := L) hn hm hC v2 v3
          refine ⟨L2, T3, _, ?_, kT6, kN6.put (Or.inl rfl), Or.inr ⟨chain _ _ f7 (Or.inr rfl), s + 1, by omega, ⟨hl, by have := g.1; omega, kT3.1.trans i1, by rw [up2_q (by omega)]; exact n6, fun i hi => by rw [kT3.2, up2_row (by omega), n4]; exact ib i hi, t2, t3, up2_s _ _ _ _⟩, up2 (up2 R m 2 v2) m 3 v3, c2, hM6.row (up2_row (by omega)), WF_hi (WF_hi hW (Or.inl rfl)) (Or.inr rfl)⟩⟩
          unfold f_X3_readMarks
          rw [lt_n, lt_n, hC.1, e1, bd2_n, e2, bd2_n, e3, bd2_n, lt_n, t3, if_neg (show ¬ ¬ (-1 : Int32) = -1 from fun z => z rfl), c1, bd_n]
        · have f7 := m_signF (e := 59) hl n6 n9 (by omega) (by rw [n4]; exact g)
          exact ⟨L, T3, _, c_mar3 hC.1 e1 e2 e3 (show s ≤ 120 by omega) t3, kT6, kN6.put (Or.inl rfl), Or.inl ⟨chain _ _ f7 (Or.inl rfl), s, hs, up2_s _ _ _ _, t3⟩⟩
