/-! functions of the wrappers: what is thrown is told by a number -/
def fw_addMachine (Ls : Nat → SL) (Hs : SL) (x1 : Int32) (x2 : Int32) (x3 : Int32) : Option (Int32 × (Nat → SL) × SL) :=
  fwt (f_X5_addMachine Ls Hs x1 x2 x3) (fun k => if k = 1 then some ((-5000001), Ls, Hs) else if k = 2 then some ((-5000002), Ls, Hs) else none)
def fw_setMachine (Ls : Nat → SL) (Hs : SL) (x1 : Int32) (x2 : Int32) (x3 : Int32) (x4 : Int32) (x5 : Int32) : Option (Int32 × (Nat → SL) × SL) :=
  fwt (f_X5_setMachine Ls Hs x1 x2 x3 x4 x5) (fun k => if k = 3 then some ((-5000003), Ls, Hs) else if k = 1 then some ((-5000001), Ls, Hs) else none)
def fw_setCapacity (Ls : Nat → SL) (Hs : SL) (x1 : Int32) (x2 : Int32) : Option (Int32 × (Nat → SL) × SL) :=
  fwt (f_X5_setCapacity Ls Hs x1 x2) (fun k => if k = 3 then some ((-5000003), Ls, Hs) else if k = 1 then some ((-5000001), Ls, Hs) else none)
def fw_addStop (Ls : Nat → SL) (Hs : SL) (x1 : Int32) (x2 : Int32) (x3 : Int32) : Option (Int32 × (Nat → SL) × SL) :=
  fwt (f_X5_addStop Ls Hs x1 x2 x3) (fun k => if k = 3 then some ((-5000003), Ls, Hs) else if k = 1 then some ((-5000001), Ls, Hs) else if k = 2 then some ((-5000002), Ls, Hs) else none)
def fw_addRandomStops (Ls : Nat → SL) (Hs : SL) (x1 : Int32) (x2 : Int32) (x3 : Int32) (x4 : Int32) (x5 : Int32) : Option (Int32 × (Nat → SL) × SL) :=
  fwt (f_X5_addRandomStops Ls Hs x1 x2 x3 x4 x5) (fun k => if k = 3 then some ((-5000003), Ls, Hs) else if k = 1 then some ((-5000001), Ls, Hs) else if k = 2 then some ((-5000002), Ls, Hs) else none)
def fw_stop (Ls : Nat → SL) (x1 : Int32) (x2 : Int32) : Option (Int32) :=
  fwt (f_X5_stop Ls x1 x2) (fun k => if k = 3 then some (-5000003) else if k = 1 then some (-5000001) else none)
def fw_run (Ls : Nat → SL) (Hs : SL) (x1 : Int32) : Option (Int32 × (Nat → SL) × SL) :=
  fwt (f_X5_run Ls Hs x1) (fun k => if k = 1 then some ((-5000001), Ls, Hs) else if k = 2 then some ((-5000002), Ls, Hs) else none)
def fw_setting (Ls : Nat → SL) (x1 : Int32) (x2 : Int32) : Option (Int32) :=
  fwt (f_X5_setting Ls x1 x2) (fun k => if k = 3 then some (-5000003) else if k = 1 then some (-5000001) else none)
def fw_machine (Ls : Nat → SL) (x1 : Int32) (x2 : Int32) : Option (Int32) :=
  fwt (f_X5_machine Ls x1 x2) (fun k => if k = 3 then some (-5000003) else if k = 1 then some (-5000001) else none)
def fw_count (Ls : Nat → SL) (x1 : Int32) (x2 : Int32) : Option (Int32) :=
  fwt (f_X5_count Ls x1 x2) (fun k => if k = 3 then some (-5000003) else if k = 1 then some (-5000001) else none)
def fw_bound (Ls : Nat → SL) (x1 : Int32) : Option (Int32 × (Nat → SL)) :=
  fwt (f_X5_bound Ls x1) (fun k => if k = 1 then some ((-5000001), Ls) else if k = 2 then some ((-5000002), Ls) else none)
def fw_limiting (Ls : Nat → SL) : Option (Int32) :=
  fwt (f_X5_limiting Ls) (fun k => if k = 2 then some (-5000002) else none)
def fw_slowest (Ls : Nat → SL) (x1 : Int32) : Option (Int32 × (Nat → SL)) :=
  fwt (f_X5_slowest Ls x1) (fun k => if k = 1 then some ((-5000001), Ls) else if k = 2 then some ((-5000002), Ls) else none)
def fw_outputWith (Ls : Nat → SL) (x1 : Int32) (x2 : Int32) (x3 : Int32) : Option (Int32 × (Nat → SL)) :=
  fwt (f_X5_outputWith Ls x1 x2 x3) (fun k => if k = 3 then some ((-5000003), Ls) else if k = 1 then some ((-5000001), Ls) else none)
def fw_capacityFor (Ls : Nat → SL) (x1 : Int32) (x2 : Int32) (x3 : Int32) : Option (Int32 × (Nat → SL)) :=
  fwt (f_X5_capacityFor Ls x1 x2 x3) (fun k => if k = 3 then some ((-5000003), Ls) else if k = 1 then some ((-5000001), Ls) else none)
def fw_bestBuffer (Ls : Nat → SL) (x1 : Int32) (x2 : Int32) : Option (Int32 × (Nat → SL)) :=
  fwt (f_X5_bestBuffer Ls x1 x2) (fun k => if k = 1 then some ((-5000001), Ls) else if k = 2 then some ((-5000002), Ls) else none)
def fw_append (T : SL) (x1 : Int32) : Option (Int32 × SL) :=
  fwt (f_X5_append T x1) (fun k => if k = 1 then some ((-5000001), T) else if k = 2 then some ((-5000002), T) else none)
def fw_undo (Ls : Nat → SL) (Hs : SL) : Option (Int32 × (Nat → SL) × SL) :=
  fwt (f_X5_undo Ls Hs) (fun k => if k = 2 then some ((-5000002), Ls, Hs) else none)
/-! THE LAW, wrappers -/
abbrev rmL_addMachine : Room := { frames := 7, cells := 1, slots := 6, locals := 136 }
set_option maxRecDepth 100000 in
set_option maxHeartbeats 4000000 in
theorem m_L_addMachine (l : Launch) (hfl : l.stackTraces = false) {D : va_G} {cs : Nat → ClassId} {ad : Nat → Nat} (hAd : adOK ad) (sz : Nat) {Ls : Nat → SL} {Hs T : SL} {x1 : Int32} {x2 : Int32} {x3 : Int32} {res : Int32 × (Nat → SL) × SL} (h : fw_addMachine Ls Hs x1 x2 x3 = some res) : Met l yL_addMachine wsW_addMachine rmL_addMachine (PW D cs ad sz (wA cs ad Ls Hs T) [.ref (ad 0), .int x1, .int x2, .int x3]) (va_Qi (fun r' (_ : Unit) => r' = res.1) (fun _ t => va_P D vwCl (wA cs ad res.2.1 res.2.2 T) t.heap) (Afr ad sz)) 1 6 (Afr ad sz) :=
  k_metW (by decide) rfl (Nat.le_of_ble_eq_true rfl) hAd (fun p e s m below meth c ls C G X N Y ht hP hsz hl hS => by
    subst hsz
    refine lv_aload_n C.1 C.2.1 dL_addMachine_0 rfl (lv_at hl 0 rfl) ?_
    refine lv_iload_n C.1 C.2.1 dL_addMachine_1 rfl (lv_at hl 1 rfl) ?_
    refine lv_iload_n C.1 C.2.1 dL_addMachine_2 rfl (lv_at hl 2 rfl) ?_
    refine lv_iload_n C.1 C.2.1 dL_addMachine_3 rfl (lv_at hl 3 rfl) ?_
    obtain ⟨r9, er9, hu, hk⟩ := fwt_out h
    refine k_callXVi C G X hP hS (m_X5_addMachine l hfl G.2.1 _ er9) g_obj rfl (cwV 3 C.2.2.2.2.2.1 (lwG_cons wg_X5_addMachine) rfl rfl rfl (by decide +kernel) ⟨Nat.le_of_ble_eq_true rfl, Nat.le_of_ble_eq_true rfl⟩) (As := [.int x1, .int x2, .int x3]) rfl hl.1 rfl (Nat.le_of_ble_eq_true rfl) dL_addMachine_4 ⟨Nat.le_of_ble_eq_true rfl, Nat.le_of_ble_eq_true rfl⟩ (fun k E ce q9 H locs er hE hP hS hcell hv hcl => ?_) (fun H locs u er hP hS => ?_)
    · have hk2 := hk k er
      by_cases z0 : k = 1
      · subst z0
        cases hk2
        subst hE
        refine vx_catch (name := exN 1) C.2.2.2.2.1 [] ⟨0, 9, 12, 15⟩ [⟨0, 9, 17, 18⟩] (ht.trans rfl) (fun z hz => absurd hz List.not_mem_nil) rfl (by decide) (C.2.2.2.2.2.1 _ (List.mem_cons_of_mem _ lc1)) (YC.at Y (by decide) (by decide)) hcell hv hcl ?_
        refine lv_astore (lv' := [(5, .ref q9), (0, .ref (ad 0)), (1, .int x1), (2, .int x2), (3, .int x3)]) C.1 C.2.1 dL_addMachine_12 hl (by decide) rfl (fun ls hl => ?_)
        refine k_ldci C G (List.mem_cons_of_mem _ lk_17) dL_addMachine_14 ?_
        refine W.widen (k := 1) (n := 6) (by omega) (by omega) ?_
        exact k_iret C hP hS dL_addMachine_16
      have hk2 := if_f z0 hk2
      by_cases z1 : k = 2
      · subst z1
        cases hk2
        subst hE
        refine vx_catch (name := exN 2) C.2.2.2.2.1 [⟨0, 9, 12, 15⟩] ⟨0, 9, 17, 18⟩ [] (ht.trans rfl) (fun z hz => Or.inr (by rw [List.mem_singleton.mp hz]; exact ⟨by decide, exN 1, C.2.2.2.2.2.1 _ (List.mem_cons_of_mem _ lc1), N 2 1 (by decide) (by decide) (by decide) (by decide) (by decide)⟩)) rfl (by decide) (C.2.2.2.2.2.1 _ (List.mem_cons_of_mem _ lc2)) (YC.at Y (by decide) (by decide)) hcell hv hcl ?_
        refine lv_astore (lv' := [(5, .ref q9), (0, .ref (ad 0)), (1, .int x1), (2, .int x2), (3, .int x3)]) C.1 C.2.1 dL_addMachine_17 hl (by decide) rfl (fun ls hl => ?_)
        refine k_ldci C G (List.mem_cons_of_mem _ lk_20) dL_addMachine_19 ?_
        refine W.widen (k := 1) (n := 6) (by omega) (by omega) ?_
        exact k_iret C hP hS dL_addMachine_21
      have hk2 := if_f z1 hk2
      cases hk2
    · have hu2 := hu u er
      subst hu2
      refine lv_istore (lv' := [(4, .int u.1), (0, .ref (ad 0)), (1, .int x1), (2, .int x2), (3, .int x3)]) C.1 C.2.1 dL_addMachine_7 hl (by decide) rfl (fun ls hl => ?_)
      refine lv_goto (tgt := 22) C.1 C.2.1 dL_addMachine_9 (by decide) ?_
      refine lv_iload C.1 C.2.1 dL_addMachine_22 (lv_at hl 0 rfl) ?_
      refine W.widen (k := 1) (n := 6) (by omega) (by omega) ?_
      exact k_iret C hP hS dL_addMachine_24)
abbrev rmL_setMachine : Room := { frames := 8, cells := 2, slots := 12, locals := 143 }
set_option maxRecDepth 100000 in
set_option maxHeartbeats 4000000 in
theorem m_L_setMachine (l : Launch) (hfl : l.stackTraces = false) {D : va_G} {cs : Nat → ClassId} {ad : Nat → Nat} (hAd : adOK ad) (sz : Nat) {Ls : Nat → SL} {Hs T : SL} {x1 : Int32} {x2 : Int32} {x3 : Int32} {x4 : Int32} {x5 : Int32} {res : Int32 × (Nat → SL) × SL} (h : fw_setMachine Ls Hs x1 x2 x3 x4 x5 = some res) : Met l yL_setMachine wsW_setMachine rmL_setMachine (PW D cs ad sz (wA cs ad Ls Hs T) [.ref (ad 0), .int x1, .int x2, .int x3, .int x4, .int x5]) (va_Qi (fun r' (_ : Unit) => r' = res.1) (fun _ t => va_P D vwCl (wA cs ad res.2.1 res.2.2 T) t.heap) (Afr ad sz)) 2 12 (Afr ad sz) :=
  k_metW (by decide) rfl (Nat.le_of_ble_eq_true rfl) hAd (fun p e s m below meth c ls C G X N Y ht hP hsz hl hS => by
    subst hsz
    refine lv_aload_n C.1 C.2.1 dL_setMachine_0 rfl (lv_at hl 0 rfl) ?_
    refine lv_iload_n C.1 C.2.1 dL_setMachine_1 rfl (lv_at hl 1 rfl) ?_
    refine lv_iload_n C.1 C.2.1 dL_setMachine_2 rfl (lv_at hl 2 rfl) ?_
    refine lv_iload_n C.1 C.2.1 dL_setMachine_3 rfl (lv_at hl 3 rfl) ?_
    refine lv_iload C.1 C.2.1 dL_setMachine_4 (lv_at hl 4 rfl) ?_
    refine lv_iload C.1 C.2.1 dL_setMachine_6 (lv_at hl 5 rfl) ?_
    obtain ⟨r9, er9, hu, hk⟩ := fwt_out h
    refine k_callXVi C G X hP hS (m_X5_setMachine l hfl G.2.1 _ er9) g_obj rfl (cwV 5 C.2.2.2.2.2.1 (lwG_cons wg_X5_setMachine) rfl rfl rfl (by decide +kernel) ⟨Nat.le_of_ble_eq_true rfl, Nat.le_of_ble_eq_true rfl⟩) (As := [.int x1, .int x2, .int x3, .int x4, .int x5]) rfl hl.1 rfl (Nat.le_of_ble_eq_true rfl) dL_setMachine_8 ⟨Nat.le_of_ble_eq_true rfl, Nat.le_of_ble_eq_true rfl⟩ (fun k E ce q9 H locs er hE hP hS hcell hv hcl => ?_) (fun H locs u er hP hS => ?_)
    · have hk2 := hk k er
      by_cases z0 : k = 3
      · subst z0
        cases hk2
        subst hE
        refine vx_catch (name := exN 3) C.2.2.2.2.1 [] ⟨0, 13, 16, 25⟩ [⟨0, 13, 21, 15⟩] (ht.trans rfl) (fun z hz => absurd hz List.not_mem_nil) rfl (by decide) (C.2.2.2.2.2.1 _ (List.mem_cons_of_mem _ lc3)) (YC.at Y (by decide) (by decide)) hcell hv hcl ?_
        refine lv_astore (lv' := [(7, .ref q9), (0, .ref (ad 0)), (1, .int x1), (2, .int x2), (3, .int x3), (4, .int x4), (5, .int x5)]) C.1 C.2.1 dL_setMachine_16 hl (by decide) rfl (fun ls hl => ?_)
        refine k_ldci C G (List.mem_cons_of_mem _ lk_27) dL_setMachine_18 ?_
        refine W.widen (k := 2) (n := 12) (by omega) (by omega) ?_
        exact k_iret C hP hS dL_setMachine_20
      have hk2 := if_f z0 hk2
      by_cases z1 : k = 1
      · subst z1
        cases hk2
        subst hE
        refine vx_catch (name := exN 1) C.2.2.2.2.1 [⟨0, 13, 16, 25⟩] ⟨0, 13, 21, 15⟩ [] (ht.trans rfl) (fun z hz => Or.inr (by rw [List.mem_singleton.mp hz]; exact ⟨by decide, exN 3, C.2.2.2.2.2.1 _ (List.mem_cons_of_mem _ lc3), N 1 3 (by decide) (by decide) (by decide) (by decide) (by decide)⟩)) rfl (by decide) (C.2.2.2.2.2.1 _ (List.mem_cons_of_mem _ lc1)) (YC.at Y (by decide) (by decide)) hcell hv hcl ?_
        refine lv_astore (lv' := [(7, .ref q9), (0, .ref (ad 0)), (1, .int x1), (2, .int x2), (3, .int x3), (4, .int x4), (5, .int x5)]) C.1 C.2.1 dL_setMachine_21 hl (by decide) rfl (fun ls hl => ?_)
        refine k_ldci C G (List.mem_cons_of_mem _ lk_17) dL_setMachine_23 ?_
        refine W.widen (k := 2) (n := 12) (by omega) (by omega) ?_
        exact k_iret C hP hS dL_setMachine_25
      have hk2 := if_f z1 hk2
      cases hk2
    · have hu2 := hu u er
      subst hu2
      refine lv_istore (lv' := [(6, .int u.1), (0, .ref (ad 0)), (1, .int x1), (2, .int x2), (3, .int x3), (4, .int x4), (5, .int x5)]) C.1 C.2.1 dL_setMachine_11 hl (by decide) rfl (fun ls hl => ?_)
      refine lv_goto (tgt := 26) C.1 C.2.1 dL_setMachine_13 (by decide) ?_
      refine lv_iload C.1 C.2.1 dL_setMachine_26 (lv_at hl 0 rfl) ?_
      refine W.widen (k := 2) (n := 12) (by omega) (by omega) ?_
      exact k_iret C hP hS dL_setMachine_28)
abbrev rmL_setCapacity : Room := { frames := 8, cells := 2, slots := 12, locals := 140 }
set_option maxRecDepth 100000 in
set_option maxHeartbeats 4000000 in
theorem m_L_setCapacity (l : Launch) (hfl : l.stackTraces = false) {D : va_G} {cs : Nat → ClassId} {ad : Nat → Nat} (hAd : adOK ad) (sz : Nat) {Ls : Nat → SL} {Hs T : SL} {x1 : Int32} {x2 : Int32} {res : Int32 × (Nat → SL) × SL} (h : fw_setCapacity Ls Hs x1 x2 = some res) : Met l yL_setCapacity wsW_setCapacity rmL_setCapacity (PW D cs ad sz (wA cs ad Ls Hs T) [.ref (ad 0), .int x1, .int x2]) (va_Qi (fun r' (_ : Unit) => r' = res.1) (fun _ t => va_P D vwCl (wA cs ad res.2.1 res.2.2 T) t.heap) (Afr ad sz)) 2 12 (Afr ad sz) :=
  k_metW (by decide) rfl (Nat.le_of_ble_eq_true rfl) hAd (fun p e s m below meth c ls C G X N Y ht hP hsz hl hS => by
    subst hsz
    refine lv_aload_n C.1 C.2.1 dL_setCapacity_0 rfl (lv_at hl 0 rfl) ?_
    refine lv_iload_n C.1 C.2.1 dL_setCapacity_1 rfl (lv_at hl 1 rfl) ?_
    refine lv_iload_n C.1 C.2.1 dL_setCapacity_2 rfl (lv_at hl 2 rfl) ?_
    obtain ⟨r9, er9, hu, hk⟩ := fwt_out h
    refine k_callXVi C G X hP hS (m_X5_setCapacity l hfl G.2.1 _ er9) g_obj rfl (cwV 2 C.2.2.2.2.2.1 (lwG_cons wg_X5_setCapacity) rfl rfl rfl (by decide +kernel) ⟨Nat.le_of_ble_eq_true rfl, Nat.le_of_ble_eq_true rfl⟩) (As := [.int x1, .int x2]) rfl hl.1 rfl (Nat.le_of_ble_eq_true rfl) dL_setCapacity_3 ⟨Nat.le_of_ble_eq_true rfl, Nat.le_of_ble_eq_true rfl⟩ (fun k E ce q9 H locs er hE hP hS hcell hv hcl => ?_) (fun H locs u er hP hS => ?_)
    · have hk2 := hk k er
      by_cases z0 : k = 3
      · subst z0
        cases hk2
        subst hE
        refine vx_catch (name := exN 3) C.2.2.2.2.1 [] ⟨0, 7, 10, 25⟩ [⟨0, 7, 15, 15⟩] (ht.trans rfl) (fun z hz => absurd hz List.not_mem_nil) rfl (by decide) (C.2.2.2.2.2.1 _ (List.mem_cons_of_mem _ lc3)) (YC.at Y (by decide) (by decide)) hcell hv hcl ?_
        refine lv_astore (lv' := [(4, .ref q9), (0, .ref (ad 0)), (1, .int x1), (2, .int x2)]) C.1 C.2.1 dL_setCapacity_10 hl (by decide) rfl (fun ls hl => ?_)
        refine k_ldci C G (List.mem_cons_of_mem _ lk_27) dL_setCapacity_12 ?_
        refine W.widen (k := 2) (n := 12) (by omega) (by omega) ?_
        exact k_iret C hP hS dL_setCapacity_14
      have hk2 := if_f z0 hk2
      by_cases z1 : k = 1
      · subst z1
        cases hk2
        subst hE
        refine vx_catch (name := exN 1) C.2.2.2.2.1 [⟨0, 7, 10, 25⟩] ⟨0, 7, 15, 15⟩ [] (ht.trans rfl) (fun z hz => Or.inr (by rw [List.mem_singleton.mp hz]; exact ⟨by decide, exN 3, C.2.2.2.2.2.1 _ (List.mem_cons_of_mem _ lc3), N 1 3 (by decide) (by decide) (by decide) (by decide) (by decide)⟩)) rfl (by decide) (C.2.2.2.2.2.1 _ (List.mem_cons_of_mem _ lc1)) (YC.at Y (by decide) (by decide)) hcell hv hcl ?_
        refine lv_astore (lv' := [(4, .ref q9), (0, .ref (ad 0)), (1, .int x1), (2, .int x2)]) C.1 C.2.1 dL_setCapacity_15 hl (by decide) rfl (fun ls hl => ?_)
        refine k_ldci C G (List.mem_cons_of_mem _ lk_17) dL_setCapacity_17 ?_
        refine W.widen (k := 2) (n := 12) (by omega) (by omega) ?_
        exact k_iret C hP hS dL_setCapacity_19
      have hk2 := if_f z1 hk2
      cases hk2
    · have hu2 := hu u er
      subst hu2
      refine lv_istore_n (lv' := [(3, .int u.1), (0, .ref (ad 0)), (1, .int x1), (2, .int x2)]) C.1 C.2.1 dL_setCapacity_6 rfl hl (by decide) rfl (fun ls hl => ?_)
      refine lv_goto (tgt := 20) C.1 C.2.1 dL_setCapacity_7 (by decide) ?_
      refine lv_iload_n C.1 C.2.1 dL_setCapacity_20 rfl (lv_at hl 0 rfl) ?_
      refine W.widen (k := 2) (n := 12) (by omega) (by omega) ?_
      exact k_iret C hP hS dL_setCapacity_21)
abbrev rmL_addStop : Room := { frames := 8, cells := 2, slots := 12, locals := 140 }
set_option maxRecDepth 100000 in
set_option maxHeartbeats 4000000 in
theorem m_L_addStop (l : Launch) (hfl : l.stackTraces = false) {D : va_G} {cs : Nat → ClassId} {ad : Nat → Nat} (hAd : adOK ad) (sz : Nat) {Ls : Nat → SL} {Hs T : SL} {x1 : Int32} {x2 : Int32} {x3 : Int32} {res : Int32 × (Nat → SL) × SL} (h : fw_addStop Ls Hs x1 x2 x3 = some res) : Met l yL_addStop wsW_addStop rmL_addStop (PW D cs ad sz (wA cs ad Ls Hs T) [.ref (ad 0), .int x1, .int x2, .int x3]) (va_Qi (fun r' (_ : Unit) => r' = res.1) (fun _ t => va_P D vwCl (wA cs ad res.2.1 res.2.2 T) t.heap) (Afr ad sz)) 2 12 (Afr ad sz) :=
  k_metW (by decide) rfl (Nat.le_of_ble_eq_true rfl) hAd (fun p e s m below meth c ls C G X N Y ht hP hsz hl hS => by
    subst hsz
    refine lv_aload_n C.1 C.2.1 dL_addStop_0 rfl (lv_at hl 0 rfl) ?_
    refine lv_iload_n C.1 C.2.1 dL_addStop_1 rfl (lv_at hl 1 rfl) ?_
    refine lv_iload_n C.1 C.2.1 dL_addStop_2 rfl (lv_at hl 2 rfl) ?_
    refine lv_iload_n C.1 C.2.1 dL_addStop_3 rfl (lv_at hl 3 rfl) ?_
    obtain ⟨r9, er9, hu, hk⟩ := fwt_out h
    refine k_callXVi C G X hP hS (m_X5_addStop l hfl G.2.1 _ er9) g_obj rfl (cwV 3 C.2.2.2.2.2.1 (lwG_cons wg_X5_addStop) rfl rfl rfl (by decide +kernel) ⟨Nat.le_of_ble_eq_true rfl, Nat.le_of_ble_eq_true rfl⟩) (As := [.int x1, .int x2, .int x3]) rfl hl.1 rfl (Nat.le_of_ble_eq_true rfl) dL_addStop_4 ⟨Nat.le_of_ble_eq_true rfl, Nat.le_of_ble_eq_true rfl⟩ (fun k E ce q9 H locs er hE hP hS hcell hv hcl => ?_) (fun H locs u er hP hS => ?_)
    · have hk2 := hk k er
      by_cases z0 : k = 3
      · subst z0
        cases hk2
        subst hE
        refine vx_catch (name := exN 3) C.2.2.2.2.1 [] ⟨0, 9, 12, 25⟩ [⟨0, 9, 17, 15⟩, ⟨0, 9, 22, 18⟩] (ht.trans rfl) (fun z hz => absurd hz List.not_mem_nil) rfl (by decide) (C.2.2.2.2.2.1 _ (List.mem_cons_of_mem _ lc3)) (YC.at Y (by decide) (by decide)) hcell hv hcl ?_
        refine lv_astore (lv' := [(5, .ref q9), (0, .ref (ad 0)), (1, .int x1), (2, .int x2), (3, .int x3)]) C.1 C.2.1 dL_addStop_12 hl (by decide) rfl (fun ls hl => ?_)
        refine k_ldci C G (List.mem_cons_of_mem _ lk_27) dL_addStop_14 ?_
        refine W.widen (k := 2) (n := 12) (by omega) (by omega) ?_
        exact k_iret C hP hS dL_addStop_16
      have hk2 := if_f z0 hk2
      by_cases z1 : k = 1
      · subst z1
        cases hk2
        subst hE
        refine vx_catch (name := exN 1) C.2.2.2.2.1 [⟨0, 9, 12, 25⟩] ⟨0, 9, 17, 15⟩ [⟨0, 9, 22, 18⟩] (ht.trans rfl) (fun z hz => Or.inr (by rw [List.mem_singleton.mp hz]; exact ⟨by decide, exN 3, C.2.2.2.2.2.1 _ (List.mem_cons_of_mem _ lc3), N 1 3 (by decide) (by decide) (by decide) (by decide) (by decide)⟩)) rfl (by decide) (C.2.2.2.2.2.1 _ (List.mem_cons_of_mem _ lc1)) (YC.at Y (by decide) (by decide)) hcell hv hcl ?_
        refine lv_astore (lv' := [(5, .ref q9), (0, .ref (ad 0)), (1, .int x1), (2, .int x2), (3, .int x3)]) C.1 C.2.1 dL_addStop_17 hl (by decide) rfl (fun ls hl => ?_)
        refine k_ldci C G (List.mem_cons_of_mem _ lk_17) dL_addStop_19 ?_
        refine W.widen (k := 2) (n := 12) (by omega) (by omega) ?_
        exact k_iret C hP hS dL_addStop_21
      have hk2 := if_f z1 hk2
      by_cases z2 : k = 2
      · subst z2
        cases hk2
        subst hE
        refine vx_catch (name := exN 2) C.2.2.2.2.1 [⟨0, 9, 12, 25⟩, ⟨0, 9, 17, 15⟩] ⟨0, 9, 22, 18⟩ [] (ht.trans rfl) (fun z hz => Or.inr (by
          rcases List.mem_cons.mp hz with rfl | hz
          · exact ⟨by decide, exN 3, C.2.2.2.2.2.1 _ (List.mem_cons_of_mem _ lc3), N 2 3 (by decide) (by decide) (by decide) (by decide) (by decide)⟩
          · rw [List.mem_singleton.mp hz]
            exact ⟨by decide, exN 1, C.2.2.2.2.2.1 _ (List.mem_cons_of_mem _ lc1), N 2 1 (by decide) (by decide) (by decide) (by decide) (by decide)⟩)) rfl (by decide) (C.2.2.2.2.2.1 _ (List.mem_cons_of_mem _ lc2)) (YC.at Y (by decide) (by decide)) hcell hv hcl ?_
        refine lv_astore (lv' := [(5, .ref q9), (0, .ref (ad 0)), (1, .int x1), (2, .int x2), (3, .int x3)]) C.1 C.2.1 dL_addStop_22 hl (by decide) rfl (fun ls hl => ?_)
        refine k_ldci C G (List.mem_cons_of_mem _ lk_20) dL_addStop_24 ?_
        refine W.widen (k := 2) (n := 12) (by omega) (by omega) ?_
        exact k_iret C hP hS dL_addStop_26
      have hk2 := if_f z2 hk2
      cases hk2
    · have hu2 := hu u er
      subst hu2
      refine lv_istore (lv' := [(4, .int u.1), (0, .ref (ad 0)), (1, .int x1), (2, .int x2), (3, .int x3)]) C.1 C.2.1 dL_addStop_7 hl (by decide) rfl (fun ls hl => ?_)
      refine lv_goto (tgt := 27) C.1 C.2.1 dL_addStop_9 (by decide) ?_
      refine lv_iload C.1 C.2.1 dL_addStop_27 (lv_at hl 0 rfl) ?_
      refine W.widen (k := 2) (n := 12) (by omega) (by omega) ?_
      exact k_iret C hP hS dL_addStop_29)
abbrev rmL_addRandomStops : Room := { frames := 8, cells := 2, slots := 12, locals := 147 }
set_option maxRecDepth 100000 in
set_option maxHeartbeats 4000000 in
theorem m_L_addRandomStops (l : Launch) (hfl : l.stackTraces = false) {D : va_G} {cs : Nat → ClassId} {ad : Nat → Nat} (hAd : adOK ad) (sz : Nat) {Ls : Nat → SL} {Hs T : SL} {x1 : Int32} {x2 : Int32} {x3 : Int32} {x4 : Int32} {x5 : Int32} {res : Int32 × (Nat → SL) × SL} (h : fw_addRandomStops Ls Hs x1 x2 x3 x4 x5 = some res) : Met l yL_addRandomStops wsW_addRandomStops rmL_addRandomStops (PW D cs ad sz (wA cs ad Ls Hs T) [.ref (ad 0), .int x1, .int x2, .int x3, .int x4, .int x5]) (va_Qi (fun r' (_ : Unit) => r' = res.1) (fun _ t => va_P D vwCl (wA cs ad res.2.1 res.2.2 T) t.heap) (Afr ad sz)) 2 12 (Afr ad sz) :=
  k_metW (by decide) rfl (Nat.le_of_ble_eq_true rfl) hAd (fun p e s m below meth c ls C G X N Y ht hP hsz hl hS => by
    subst hsz
    refine lv_aload_n C.1 C.2.1 dL_addRandomStops_0 rfl (lv_at hl 0 rfl) ?_
    refine lv_iload_n C.1 C.2.1 dL_addRandomStops_1 rfl (lv_at hl 1 rfl) ?_
    refine lv_iload_n C.1 C.2.1 dL_addRandomStops_2 rfl (lv_at hl 2 rfl) ?_
    refine lv_iload_n C.1 C.2.1 dL_addRandomStops_3 rfl (lv_at hl 3 rfl) ?_
    refine lv_iload C.1 C.2.1 dL_addRandomStops_4 (lv_at hl 4 rfl) ?_
    refine lv_iload C.1 C.2.1 dL_addRandomStops_6 (lv_at hl 5 rfl) ?_
    obtain ⟨r9, er9, hu, hk⟩ := fwt_out h
    refine k_callXVi C G X hP hS (m_X5_addRandomStops l hfl G.2.1 _ er9) g_obj rfl (cwV 5 C.2.2.2.2.2.1 (lwG_cons wg_X5_addRandomStops) rfl rfl rfl (by decide +kernel) ⟨Nat.le_of_ble_eq_true rfl, Nat.le_of_ble_eq_true rfl⟩) (As := [.int x1, .int x2, .int x3, .int x4, .int x5]) rfl hl.1 rfl (Nat.le_of_ble_eq_true rfl) dL_addRandomStops_8 ⟨Nat.le_of_ble_eq_true rfl, Nat.le_of_ble_eq_true rfl⟩ (fun k E ce q9 H locs er hE hP hS hcell hv hcl => ?_) (fun H locs u er hP hS => ?_)
    · have hk2 := hk k er
      by_cases z0 : k = 3
      · subst z0
        cases hk2
        subst hE
        refine vx_catch (name := exN 3) C.2.2.2.2.1 [] ⟨0, 13, 16, 25⟩ [⟨0, 13, 21, 15⟩, ⟨0, 13, 26, 18⟩] (ht.trans rfl) (fun z hz => absurd hz List.not_mem_nil) rfl (by decide) (C.2.2.2.2.2.1 _ (List.mem_cons_of_mem _ lc3)) (YC.at Y (by decide) (by decide)) hcell hv hcl ?_
        refine lv_astore (lv' := [(7, .ref q9), (0, .ref (ad 0)), (1, .int x1), (2, .int x2), (3, .int x3), (4, .int x4), (5, .int x5)]) C.1 C.2.1 dL_addRandomStops_16 hl (by decide) rfl (fun ls hl => ?_)
        refine k_ldci C G (List.mem_cons_of_mem _ lk_27) dL_addRandomStops_18 ?_
        refine W.widen (k := 2) (n := 12) (by omega) (by omega) ?_
        exact k_iret C hP hS dL_addRandomStops_20
      have hk2 := if_f z0 hk2
      by_cases z1 : k = 1
      · subst z1
        cases hk2
        subst hE
        refine vx_catch (name := exN 1) C.2.2.2.2.1 [⟨0, 13, 16, 25⟩] ⟨0, 13, 21, 15⟩ [⟨0, 13, 26, 18⟩] (ht.trans rfl) (fun z hz => Or.inr (by rw [List.mem_singleton.mp hz]; exact ⟨by decide, exN 3, C.2.2.2.2.2.1 _ (List.mem_cons_of_mem _ lc3), N 1 3 (by decide) (by decide) (by decide) (by decide) (by decide)⟩)) rfl (by decide) (C.2.2.2.2.2.1 _ (List.mem_cons_of_mem _ lc1)) (YC.at Y (by decide) (by decide)) hcell hv hcl ?_
        refine lv_astore (lv' := [(7, .ref q9), (0, .ref (ad 0)), (1, .int x1), (2, .int x2), (3, .int x3), (4, .int x4), (5, .int x5)]) C.1 C.2.1 dL_addRandomStops_21 hl (by decide) rfl (fun ls hl => ?_)
        refine k_ldci C G (List.mem_cons_of_mem _ lk_17) dL_addRandomStops_23 ?_
        refine W.widen (k := 2) (n := 12) (by omega) (by omega) ?_
        exact k_iret C hP hS dL_addRandomStops_25
      have hk2 := if_f z1 hk2
      by_cases z2 : k = 2
      · subst z2
        cases hk2
        subst hE
        refine vx_catch (name := exN 2) C.2.2.2.2.1 [⟨0, 13, 16, 25⟩, ⟨0, 13, 21, 15⟩] ⟨0, 13, 26, 18⟩ [] (ht.trans rfl) (fun z hz => Or.inr (by
          rcases List.mem_cons.mp hz with rfl | hz
          · exact ⟨by decide, exN 3, C.2.2.2.2.2.1 _ (List.mem_cons_of_mem _ lc3), N 2 3 (by decide) (by decide) (by decide) (by decide) (by decide)⟩
          · rw [List.mem_singleton.mp hz]
            exact ⟨by decide, exN 1, C.2.2.2.2.2.1 _ (List.mem_cons_of_mem _ lc1), N 2 1 (by decide) (by decide) (by decide) (by decide) (by decide)⟩)) rfl (by decide) (C.2.2.2.2.2.1 _ (List.mem_cons_of_mem _ lc2)) (YC.at Y (by decide) (by decide)) hcell hv hcl ?_
        refine lv_astore (lv' := [(7, .ref q9), (0, .ref (ad 0)), (1, .int x1), (2, .int x2), (3, .int x3), (4, .int x4), (5, .int x5)]) C.1 C.2.1 dL_addRandomStops_26 hl (by decide) rfl (fun ls hl => ?_)
        refine k_ldci C G (List.mem_cons_of_mem _ lk_20) dL_addRandomStops_28 ?_
        refine W.widen (k := 2) (n := 12) (by omega) (by omega) ?_
        exact k_iret C hP hS dL_addRandomStops_30
      have hk2 := if_f z2 hk2
      cases hk2
    · have hu2 := hu u er
      subst hu2
      refine lv_istore (lv' := [(6, .int u.1), (0, .ref (ad 0)), (1, .int x1), (2, .int x2), (3, .int x3), (4, .int x4), (5, .int x5)]) C.1 C.2.1 dL_addRandomStops_11 hl (by decide) rfl (fun ls hl => ?_)
      refine lv_goto (tgt := 31) C.1 C.2.1 dL_addRandomStops_13 (by decide) ?_
      refine lv_iload C.1 C.2.1 dL_addRandomStops_31 (lv_at hl 0 rfl) ?_
      refine W.widen (k := 2) (n := 12) (by omega) (by omega) ?_
      exact k_iret C hP hS dL_addRandomStops_33)
abbrev rmL_stop : Room := { frames := 8, cells := 1, slots := 6, locals := 139 }
set_option maxRecDepth 100000 in
set_option maxHeartbeats 4000000 in
theorem m_L_stop (l : Launch) (hfl : l.stackTraces = false) {D : va_G} {cs : Nat → ClassId} {ad : Nat → Nat} (hAd : adOK ad) (sz : Nat) {Ls : Nat → SL} {Hs T : SL} {x1 : Int32} {x2 : Int32} {res : Int32} (h : fw_stop Ls x1 x2 = some res) : Met l yL_stop wsW_stop rmL_stop (PW D cs ad sz (wA cs ad Ls Hs T) [.ref (ad 0), .int x1, .int x2]) (va_Qi (fun r' (_ : Unit) => r' = res) (fun _ t => va_P D vwCl (wA cs ad Ls Hs T) t.heap) (Afr ad sz)) 1 6 (Afr ad sz) :=
  k_metW (by decide) rfl (Nat.le_of_ble_eq_true rfl) hAd (fun p e s m below meth c ls C G X N Y ht hP hsz hl hS => by
    subst hsz
    refine lv_aload_n C.1 C.2.1 dL_stop_0 rfl (lv_at hl 0 rfl) ?_
    refine lv_iload_n C.1 C.2.1 dL_stop_1 rfl (lv_at hl 1 rfl) ?_
    refine lv_iload_n C.1 C.2.1 dL_stop_2 rfl (lv_at hl 2 rfl) ?_
    obtain ⟨r9, er9, hu, hk⟩ := fwt_out h
    refine k_callXVi C G X hP hS (m_X5_stop l hfl G.2.1 _ er9) g_obj rfl (cwV 2 C.2.2.2.2.2.1 (lwG_cons wg_X5_stop) rfl rfl rfl (by decide +kernel) ⟨Nat.le_of_ble_eq_true rfl, Nat.le_of_ble_eq_true rfl⟩) (As := [.int x1, .int x2]) rfl hl.1 rfl (Nat.le_of_ble_eq_true rfl) dL_stop_3 ⟨Nat.le_of_ble_eq_true rfl, Nat.le_of_ble_eq_true rfl⟩ (fun k E ce q9 H locs er hE hP hS hcell hv hcl => ?_) (fun H locs u er hP hS => ?_)
    · have hk2 := hk k er
      by_cases z0 : k = 3
      · subst z0
        cases hk2
        subst hE
        refine vx_catch (name := exN 3) C.2.2.2.2.1 [] ⟨0, 7, 10, 25⟩ [⟨0, 7, 15, 15⟩] (ht.trans rfl) (fun z hz => absurd hz List.not_mem_nil) rfl (by decide) (C.2.2.2.2.2.1 _ (List.mem_cons_of_mem _ lc3)) (YC.at Y (by decide) (by decide)) hcell hv hcl ?_
        refine lv_astore (lv' := [(4, .ref q9), (0, .ref (ad 0)), (1, .int x1), (2, .int x2)]) C.1 C.2.1 dL_stop_10 hl (by decide) rfl (fun ls hl => ?_)
        refine k_ldci C G (List.mem_cons_of_mem _ lk_27) dL_stop_12 ?_
        refine W.widen (k := 1) (n := 6) (by omega) (by omega) ?_
        exact k_iret C hP hS dL_stop_14
      have hk2 := if_f z0 hk2
      by_cases z1 : k = 1
      · subst z1
        cases hk2
        subst hE
        refine vx_catch (name := exN 1) C.2.2.2.2.1 [⟨0, 7, 10, 25⟩] ⟨0, 7, 15, 15⟩ [] (ht.trans rfl) (fun z hz => Or.inr (by rw [List.mem_singleton.mp hz]; exact ⟨by decide, exN 3, C.2.2.2.2.2.1 _ (List.mem_cons_of_mem _ lc3), N 1 3 (by decide) (by decide) (by decide) (by decide) (by decide)⟩)) rfl (by decide) (C.2.2.2.2.2.1 _ (List.mem_cons_of_mem _ lc1)) (YC.at Y (by decide) (by decide)) hcell hv hcl ?_
        refine lv_astore (lv' := [(4, .ref q9), (0, .ref (ad 0)), (1, .int x1), (2, .int x2)]) C.1 C.2.1 dL_stop_15 hl (by decide) rfl (fun ls hl => ?_)
        refine k_ldci C G (List.mem_cons_of_mem _ lk_17) dL_stop_17 ?_
        refine W.widen (k := 1) (n := 6) (by omega) (by omega) ?_
        exact k_iret C hP hS dL_stop_19
      have hk2 := if_f z1 hk2
      cases hk2
    · have hu2 := hu u er
      subst hu2
      refine lv_istore_n (lv' := [(3, .int u), (0, .ref (ad 0)), (1, .int x1), (2, .int x2)]) C.1 C.2.1 dL_stop_6 rfl hl (by decide) rfl (fun ls hl => ?_)
      refine lv_goto (tgt := 20) C.1 C.2.1 dL_stop_7 (by decide) ?_
      refine lv_iload_n C.1 C.2.1 dL_stop_20 rfl (lv_at hl 0 rfl) ?_
      refine W.widen (k := 1) (n := 6) (by omega) (by omega) ?_
      exact k_iret C hP hS dL_stop_21)
abbrev ormL_stop : Room := { frames := 8, cells := 0, slots := 0, locals := 139 }
set_option maxRecDepth 100000 in
set_option maxHeartbeats 4000000 in
theorem o_L_stop (l : Launch) {D : va_G} {cs : Nat → ClassId} {ad : Nat → Nat} (hAd : adOK ad) (sz : Nat) {Ls : Nat → SL} {Hs T : SL} {x1 : Int32} {x2 : Int32} {res : Int32} (h : f_X5_stop Ls x1 x2 = some (Sum.inl res)) : Met l yL_stop wsW_stop ormL_stop (PW D cs ad sz (wA cs ad Ls Hs T) [.ref (ad 0), .int x1, .int x2]) (va_Qi (fun r' (_ : Unit) => r' = res) (fun _ t => va_P D vwCl (wA cs ad Ls Hs T) t.heap) (Afr ad sz)) 0 0 (Afr ad sz) :=
  k_metW (by decide) rfl (Nat.le_of_ble_eq_true rfl) hAd (fun p e s m below meth c ls C G X N Y ht hP hsz hl hS => by
    subst hsz
    refine lv_aload_n C.1 C.2.1 dL_stop_0 rfl (lv_at hl 0 rfl) ?_
    refine lv_iload_n C.1 C.2.1 dL_stop_1 rfl (lv_at hl 1 rfl) ?_
    refine lv_iload_n C.1 C.2.1 dL_stop_2 rfl (lv_at hl 2 rfl) ?_
    refine k_callVi C G hP hS (o_X5_stop l G.2.1 _ h) g_obj rfl (cwV 2 C.2.2.2.2.2.1 (lwG_cons wg_X5_stop) rfl rfl rfl (by decide +kernel) ⟨Nat.le_of_ble_eq_true rfl, Nat.le_of_ble_eq_true rfl⟩) (As := [.int x1, .int x2]) rfl hl.1 rfl (Nat.le_of_ble_eq_true rfl) dL_stop_3 ⟨Nat.le_of_ble_eq_true rfl, Nat.le_of_ble_eq_true rfl⟩ (fun H locs hP hS => ?_)
    refine lv_istore_n (lv' := [(3, .int res), (0, .ref (ad 0)), (1, .int x1), (2, .int x2)]) C.1 C.2.1 dL_stop_6 rfl hl (by decide) rfl (fun ls hl => ?_)
    refine lv_goto (tgt := 20) C.1 C.2.1 dL_stop_7 (by decide) ?_
    refine lv_iload_n C.1 C.2.1 dL_stop_20 rfl (lv_at hl 0 rfl) ?_
    exact k_iret C hP hS dL_stop_21)
abbrev rmL_run : Room := { frames := 8, cells := 2, slots := 12, locals := 139 }
set_option maxRecDepth 100000 in
set_option maxHeartbeats 4000000 in
theorem m_L_run (l : Launch) (hfl : l.stackTraces = false) {D : va_G} {cs : Nat → ClassId} {ad : Nat → Nat} (hAd : adOK ad) (sz : Nat) {Ls : Nat → SL} {Hs T : SL} {x1 : Int32} {res : Int32 × (Nat → SL) × SL} (h : fw_run Ls Hs x1 = some res) : Met l yL_run wsW_run rmL_run (PW D cs ad sz (wA cs ad Ls Hs T) [.ref (ad 0), .int x1]) (va_Qi (fun r' (_ : Unit) => r' = res.1) (fun _ t => va_P D vwCl (wA cs ad res.2.1 res.2.2 T) t.heap) (Afr ad sz)) 2 12 (Afr ad sz) :=
  k_metW (by decide) rfl (Nat.le_of_ble_eq_true rfl) hAd (fun p e s m below meth c ls C G X N Y ht hP hsz hl hS => by
    subst hsz
    refine lv_aload_n C.1 C.2.1 dL_run_0 rfl (lv_at hl 0 rfl) ?_
    refine lv_iload_n C.1 C.2.1 dL_run_1 rfl (lv_at hl 1 rfl) ?_
    obtain ⟨r9, er9, hu, hk⟩ := fwt_out h
    refine k_callXVi C G X hP hS (m_X5_run l hfl G.2.1 _ er9) g_obj rfl (cwV 1 C.2.2.2.2.2.1 (lwG_cons wg_X5_run) rfl rfl rfl (by decide +kernel) ⟨Nat.le_of_ble_eq_true rfl, Nat.le_of_ble_eq_true rfl⟩) (As := [.int x1]) rfl hl.1 rfl (Nat.le_of_ble_eq_true rfl) dL_run_2 ⟨Nat.le_of_ble_eq_true rfl, Nat.le_of_ble_eq_true rfl⟩ (fun k E ce q9 H locs er hE hP hS hcell hv hcl => ?_) (fun H locs u er hP hS => ?_)
    · have hk2 := hk k er
      by_cases z0 : k = 1
      · subst z0
        cases hk2
        subst hE
        refine vx_catch (name := exN 1) C.2.2.2.2.1 [] ⟨0, 6, 9, 15⟩ [⟨0, 6, 13, 18⟩] (ht.trans rfl) (fun z hz => absurd hz List.not_mem_nil) rfl (by decide) (C.2.2.2.2.2.1 _ (List.mem_cons_of_mem _ lc1)) (YC.at Y (by decide) (by decide)) hcell hv hcl ?_
        refine lv_astore_n (lv' := [(3, .ref q9), (0, .ref (ad 0)), (1, .int x1)]) C.1 C.2.1 dL_run_9 rfl hl (by decide) rfl (fun ls hl => ?_)
        refine k_ldci C G (List.mem_cons_of_mem _ lk_17) dL_run_10 ?_
        refine W.widen (k := 2) (n := 12) (by omega) (by omega) ?_
        exact k_iret C hP hS dL_run_12
      have hk2 := if_f z0 hk2
      by_cases z1 : k = 2
      · subst z1
        cases hk2
        subst hE
        refine vx_catch (name := exN 2) C.2.2.2.2.1 [⟨0, 6, 9, 15⟩] ⟨0, 6, 13, 18⟩ [] (ht.trans rfl) (fun z hz => Or.inr (by rw [List.mem_singleton.mp hz]; exact ⟨by decide, exN 1, C.2.2.2.2.2.1 _ (List.mem_cons_of_mem _ lc1), N 2 1 (by decide) (by decide) (by decide) (by decide) (by decide)⟩)) rfl (by decide) (C.2.2.2.2.2.1 _ (List.mem_cons_of_mem _ lc2)) (YC.at Y (by decide) (by decide)) hcell hv hcl ?_
        refine lv_astore_n (lv' := [(3, .ref q9), (0, .ref (ad 0)), (1, .int x1)]) C.1 C.2.1 dL_run_13 rfl hl (by decide) rfl (fun ls hl => ?_)
        refine k_ldci C G (List.mem_cons_of_mem _ lk_20) dL_run_14 ?_
        refine W.widen (k := 2) (n := 12) (by omega) (by omega) ?_
        exact k_iret C hP hS dL_run_16
      have hk2 := if_f z1 hk2
      cases hk2
    · have hu2 := hu u er
      subst hu2
      refine lv_istore_n (lv' := [(2, .int u.1), (0, .ref (ad 0)), (1, .int x1)]) C.1 C.2.1 dL_run_5 rfl hl (by decide) rfl (fun ls hl => ?_)
      refine lv_goto (tgt := 17) C.1 C.2.1 dL_run_6 (by decide) ?_
      refine lv_iload_n C.1 C.2.1 dL_run_17 rfl (lv_at hl 0 rfl) ?_
      refine W.widen (k := 2) (n := 12) (by omega) (by omega) ?_
      exact k_iret C hP hS dL_run_18)
abbrev rmL_setting : Room := { frames := 8, cells := 2, slots := 12, locals := 139 }
set_option maxRecDepth 100000 in
set_option maxHeartbeats 4000000 in
theorem m_L_setting (l : Launch) (hfl : l.stackTraces = false) {D : va_G} {cs : Nat → ClassId} {ad : Nat → Nat} (hAd : adOK ad) (sz : Nat) {Ls : Nat → SL} {Hs T : SL} {x1 : Int32} {x2 : Int32} {res : Int32} (h : fw_setting Ls x1 x2 = some res) : Met l yL_setting wsW_setting rmL_setting (PW D cs ad sz (wA cs ad Ls Hs T) [.ref (ad 0), .int x1, .int x2]) (va_Qi (fun r' (_ : Unit) => r' = res) (fun _ t => va_P D vwCl (wA cs ad Ls Hs T) t.heap) (Afr ad sz)) 2 12 (Afr ad sz) :=
  k_metW (by decide) rfl (Nat.le_of_ble_eq_true rfl) hAd (fun p e s m below meth c ls C G X N Y ht hP hsz hl hS => by
    subst hsz
    refine lv_aload_n C.1 C.2.1 dL_setting_0 rfl (lv_at hl 0 rfl) ?_
    refine lv_iload_n C.1 C.2.1 dL_setting_1 rfl (lv_at hl 1 rfl) ?_
    refine lv_iload_n C.1 C.2.1 dL_setting_2 rfl (lv_at hl 2 rfl) ?_
    obtain ⟨r9, er9, hu, hk⟩ := fwt_out h
    refine k_callXVi C G X hP hS (m_X5_setting l hfl G.2.1 _ er9) g_obj rfl (cwV 2 C.2.2.2.2.2.1 (lwG_cons wg_X5_setting) rfl rfl rfl (by decide +kernel) ⟨Nat.le_of_ble_eq_true rfl, Nat.le_of_ble_eq_true rfl⟩) (As := [.int x1, .int x2]) rfl hl.1 rfl (Nat.le_of_ble_eq_true rfl) dL_setting_3 ⟨Nat.le_of_ble_eq_true rfl, Nat.le_of_ble_eq_true rfl⟩ (fun k E ce q9 H locs er hE hP hS hcell hv hcl => ?_) (fun H locs u er hP hS => ?_)
    · have hk2 := hk k er
      by_cases z0 : k = 3
      · subst z0
        cases hk2
        subst hE
        refine vx_catch (name := exN 3) C.2.2.2.2.1 [] ⟨0, 7, 10, 25⟩ [⟨0, 7, 15, 15⟩] (ht.trans rfl) (fun z hz => absurd hz List.not_mem_nil) rfl (by decide) (C.2.2.2.2.2.1 _ (List.mem_cons_of_mem _ lc3)) (YC.at Y (by decide) (by decide)) hcell hv hcl ?_
        refine lv_astore (lv' := [(4, .ref q9), (0, .ref (ad 0)), (1, .int x1), (2, .int x2)]) C.1 C.2.1 dL_setting_10 hl (by decide) rfl (fun ls hl => ?_)
        refine k_ldci C G (List.mem_cons_of_mem _ lk_27) dL_setting_12 ?_
        refine W.widen (k := 2) (n := 12) (by omega) (by omega) ?_
        exact k_iret C hP hS dL_setting_14
      have hk2 := if_f z0 hk2
      by_cases z1 : k = 1
      · subst z1
        cases hk2
        subst hE
        refine vx_catch (name := exN 1) C.2.2.2.2.1 [⟨0, 7, 10, 25⟩] ⟨0, 7, 15, 15⟩ [] (ht.trans rfl) (fun z hz => Or.inr (by rw [List.mem_singleton.mp hz]; exact ⟨by decide, exN 3, C.2.2.2.2.2.1 _ (List.mem_cons_of_mem _ lc3), N 1 3 (by decide) (by decide) (by decide) (by decide) (by decide)⟩)) rfl (by decide) (C.2.2.2.2.2.1 _ (List.mem_cons_of_mem _ lc1)) (YC.at Y (by decide) (by decide)) hcell hv hcl ?_
        refine lv_astore (lv' := [(4, .ref q9), (0, .ref (ad 0)), (1, .int x1), (2, .int x2)]) C.1 C.2.1 dL_setting_15 hl (by decide) rfl (fun ls hl => ?_)
        refine k_ldci C G (List.mem_cons_of_mem _ lk_17) dL_setting_17 ?_
        refine W.widen (k := 2) (n := 12) (by omega) (by omega) ?_
        exact k_iret C hP hS dL_setting_19
      have hk2 := if_f z1 hk2
      cases hk2
    · have hu2 := hu u er
      subst hu2
      refine lv_istore_n (lv' := [(3, .int u), (0, .ref (ad 0)), (1, .int x1), (2, .int x2)]) C.1 C.2.1 dL_setting_6 rfl hl (by decide) rfl (fun ls hl => ?_)
      refine lv_goto (tgt := 20) C.1 C.2.1 dL_setting_7 (by decide) ?_
      refine lv_iload_n C.1 C.2.1 dL_setting_20 rfl (lv_at hl 0 rfl) ?_
      refine W.widen (k := 2) (n := 12) (by omega) (by omega) ?_
      exact k_iret C hP hS dL_setting_21)
abbrev ormL_setting : Room := { frames := 8, cells := 0, slots := 0, locals := 139 }
set_option maxRecDepth 100000 in
set_option maxHeartbeats 4000000 in
theorem o_L_setting (l : Launch) {D : va_G} {cs : Nat → ClassId} {ad : Nat → Nat} (hAd : adOK ad) (sz : Nat) {Ls : Nat → SL} {Hs T : SL} {x1 : Int32} {x2 : Int32} {res : Int32} (h : f_X5_setting Ls x1 x2 = some (Sum.inl res)) : Met l yL_setting wsW_setting ormL_setting (PW D cs ad sz (wA cs ad Ls Hs T) [.ref (ad 0), .int x1, .int x2]) (va_Qi (fun r' (_ : Unit) => r' = res) (fun _ t => va_P D vwCl (wA cs ad Ls Hs T) t.heap) (Afr ad sz)) 0 0 (Afr ad sz) :=
  k_metW (by decide) rfl (Nat.le_of_ble_eq_true rfl) hAd (fun p e s m below meth c ls C G X N Y ht hP hsz hl hS => by
    subst hsz
    refine lv_aload_n C.1 C.2.1 dL_setting_0 rfl (lv_at hl 0 rfl) ?_
    refine lv_iload_n C.1 C.2.1 dL_setting_1 rfl (lv_at hl 1 rfl) ?_
    refine lv_iload_n C.1 C.2.1 dL_setting_2 rfl (lv_at hl 2 rfl) ?_
    refine k_callVi C G hP hS (o_X5_setting l G.2.1 _ h) g_obj rfl (cwV 2 C.2.2.2.2.2.1 (lwG_cons wg_X5_setting) rfl rfl rfl (by decide +kernel) ⟨Nat.le_of_ble_eq_true rfl, Nat.le_of_ble_eq_true rfl⟩) (As := [.int x1, .int x2]) rfl hl.1 rfl (Nat.le_of_ble_eq_true rfl) dL_setting_3 ⟨Nat.le_of_ble_eq_true rfl, Nat.le_of_ble_eq_true rfl⟩ (fun H locs hP hS => ?_)
    refine lv_istore_n (lv' := [(3, .int res), (0, .ref (ad 0)), (1, .int x1), (2, .int x2)]) C.1 C.2.1 dL_setting_6 rfl hl (by decide) rfl (fun ls hl => ?_)
    refine lv_goto (tgt := 20) C.1 C.2.1 dL_setting_7 (by decide) ?_
    refine lv_iload_n C.1 C.2.1 dL_setting_20 rfl (lv_at hl 0 rfl) ?_
    exact k_iret C hP hS dL_setting_21)
abbrev rmL_machine : Room := { frames := 8, cells := 2, slots := 12, locals := 139 }
set_option maxRecDepth 100000 in
set_option maxHeartbeats 4000000 in
theorem m_L_machine (l : Launch) (hfl : l.stackTraces = false) {D : va_G} {cs : Nat → ClassId} {ad : Nat → Nat} (hAd : adOK ad) (sz : Nat) {Ls : Nat → SL} {Hs T : SL} {x1 : Int32} {x2 : Int32} {res : Int32} (h : fw_machine Ls x1 x2 = some res) : Met l yL_machine wsW_machine rmL_machine (PW D cs ad sz (wA cs ad Ls Hs T) [.ref (ad 0), .int x1, .int x2]) (va_Qi (fun r' (_ : Unit) => r' = res) (fun _ t => va_P D vwCl (wA cs ad Ls Hs T) t.heap) (Afr ad sz)) 2 12 (Afr ad sz) :=
  k_metW (by decide) rfl (Nat.le_of_ble_eq_true rfl) hAd (fun p e s m below meth c ls C G X N Y ht hP hsz hl hS => by
    subst hsz
    refine lv_aload_n C.1 C.2.1 dL_machine_0 rfl (lv_at hl 0 rfl) ?_
    refine lv_iload_n C.1 C.2.1 dL_machine_1 rfl (lv_at hl 1 rfl) ?_
    refine lv_iload_n C.1 C.2.1 dL_machine_2 rfl (lv_at hl 2 rfl) ?_
    obtain ⟨r9, er9, hu, hk⟩ := fwt_out h
    refine k_callXVi C G X hP hS (m_X5_machine l hfl G.2.1 _ er9) g_obj rfl (cwV 2 C.2.2.2.2.2.1 (lwG_cons wg_X5_machine) rfl rfl rfl (by decide +kernel) ⟨Nat.le_of_ble_eq_true rfl, Nat.le_of_ble_eq_true rfl⟩) (As := [.int x1, .int x2]) rfl hl.1 rfl (Nat.le_of_ble_eq_true rfl) dL_machine_3 ⟨Nat.le_of_ble_eq_true rfl, Nat.le_of_ble_eq_true rfl⟩ (fun k E ce q9 H locs er hE hP hS hcell hv hcl => ?_) (fun H locs u er hP hS => ?_)
    · have hk2 := hk k er
      by_cases z0 : k = 3
      · subst z0
        cases hk2
        subst hE
        refine vx_catch (name := exN 3) C.2.2.2.2.1 [] ⟨0, 7, 10, 25⟩ [⟨0, 7, 15, 15⟩] (ht.trans rfl) (fun z hz => absurd hz List.not_mem_nil) rfl (by decide) (C.2.2.2.2.2.1 _ (List.mem_cons_of_mem _ lc3)) (YC.at Y (by decide) (by decide)) hcell hv hcl ?_
        refine lv_astore (lv' := [(4, .ref q9), (0, .ref (ad 0)), (1, .int x1), (2, .int x2)]) C.1 C.2.1 dL_machine_10 hl (by decide) rfl (fun ls hl => ?_)
        refine k_ldci C G (List.mem_cons_of_mem _ lk_27) dL_machine_12 ?_
        refine W.widen (k := 2) (n := 12) (by omega) (by omega) ?_
        exact k_iret C hP hS dL_machine_14
      have hk2 := if_f z0 hk2
      by_cases z1 : k = 1
      · subst z1
        cases hk2
        subst hE
        refine vx_catch (name := exN 1) C.2.2.2.2.1 [⟨0, 7, 10, 25⟩] ⟨0, 7, 15, 15⟩ [] (ht.trans rfl) (fun z hz => Or.inr (by rw [List.mem_singleton.mp hz]; exact ⟨by decide, exN 3, C.2.2.2.2.2.1 _ (List.mem_cons_of_mem _ lc3), N 1 3 (by decide) (by decide) (by decide) (by decide) (by decide)⟩)) rfl (by decide) (C.2.2.2.2.2.1 _ (List.mem_cons_of_mem _ lc1)) (YC.at Y (by decide) (by decide)) hcell hv hcl ?_
        refine lv_astore (lv' := [(4, .ref q9), (0, .ref (ad 0)), (1, .int x1), (2, .int x2)]) C.1 C.2.1 dL_machine_15 hl (by decide) rfl (fun ls hl => ?_)
        refine k_ldci C G (List.mem_cons_of_mem _ lk_17) dL_machine_17 ?_
        refine W.widen (k := 2) (n := 12) (by omega) (by omega) ?_
        exact k_iret C hP hS dL_machine_19
      have hk2 := if_f z1 hk2
      cases hk2
    · have hu2 := hu u er
      subst hu2
      refine lv_istore_n (lv' := [(3, .int u), (0, .ref (ad 0)), (1, .int x1), (2, .int x2)]) C.1 C.2.1 dL_machine_6 rfl hl (by decide) rfl (fun ls hl => ?_)
      refine lv_goto (tgt := 20) C.1 C.2.1 dL_machine_7 (by decide) ?_
      refine lv_iload_n C.1 C.2.1 dL_machine_20 rfl (lv_at hl 0 rfl) ?_
      refine W.widen (k := 2) (n := 12) (by omega) (by omega) ?_
      exact k_iret C hP hS dL_machine_21)
abbrev ormL_machine : Room := { frames := 8, cells := 0, slots := 0, locals := 139 }
set_option maxRecDepth 100000 in
set_option maxHeartbeats 4000000 in
theorem o_L_machine (l : Launch) {D : va_G} {cs : Nat → ClassId} {ad : Nat → Nat} (hAd : adOK ad) (sz : Nat) {Ls : Nat → SL} {Hs T : SL} {x1 : Int32} {x2 : Int32} {res : Int32} (h : f_X5_machine Ls x1 x2 = some (Sum.inl res)) : Met l yL_machine wsW_machine ormL_machine (PW D cs ad sz (wA cs ad Ls Hs T) [.ref (ad 0), .int x1, .int x2]) (va_Qi (fun r' (_ : Unit) => r' = res) (fun _ t => va_P D vwCl (wA cs ad Ls Hs T) t.heap) (Afr ad sz)) 0 0 (Afr ad sz) :=
  k_metW (by decide) rfl (Nat.le_of_ble_eq_true rfl) hAd (fun p e s m below meth c ls C G X N Y ht hP hsz hl hS => by
    subst hsz
    refine lv_aload_n C.1 C.2.1 dL_machine_0 rfl (lv_at hl 0 rfl) ?_
    refine lv_iload_n C.1 C.2.1 dL_machine_1 rfl (lv_at hl 1 rfl) ?_
    refine lv_iload_n C.1 C.2.1 dL_machine_2 rfl (lv_at hl 2 rfl) ?_
    refine k_callVi C G hP hS (o_X5_machine l G.2.1 _ h) g_obj rfl (cwV 2 C.2.2.2.2.2.1 (lwG_cons wg_X5_machine) rfl rfl rfl (by decide +kernel) ⟨Nat.le_of_ble_eq_true rfl, Nat.le_of_ble_eq_true rfl⟩) (As := [.int x1, .int x2]) rfl hl.1 rfl (Nat.le_of_ble_eq_true rfl) dL_machine_3 ⟨Nat.le_of_ble_eq_true rfl, Nat.le_of_ble_eq_true rfl⟩ (fun H locs hP hS => ?_)
    refine lv_istore_n (lv' := [(3, .int res), (0, .ref (ad 0)), (1, .int x1), (2, .int x2)]) C.1 C.2.1 dL_machine_6 rfl hl (by decide) rfl (fun ls hl => ?_)
    refine lv_goto (tgt := 20) C.1 C.2.1 dL_machine_7 (by decide) ?_
    refine lv_iload_n C.1 C.2.1 dL_machine_20 rfl (lv_at hl 0 rfl) ?_
    exact k_iret C hP hS dL_machine_21)
abbrev rmL_count : Room := { frames := 8, cells := 2, slots := 12, locals := 139 }
set_option maxRecDepth 100000 in
set_option maxHeartbeats 4000000 in
theorem m_L_count (l : Launch) (hfl : l.stackTraces = false) {D : va_G} {cs : Nat → ClassId} {ad : Nat → Nat} (hAd : adOK ad) (sz : Nat) {Ls : Nat → SL} {Hs T : SL} {x1 : Int32} {x2 : Int32} {res : Int32} (h : fw_count Ls x1 x2 = some res) : Met l yL_count wsW_count rmL_count (PW D cs ad sz (wA cs ad Ls Hs T) [.ref (ad 0), .int x1, .int x2]) (va_Qi (fun r' (_ : Unit) => r' = res) (fun _ t => va_P D vwCl (wA cs ad Ls Hs T) t.heap) (Afr ad sz)) 2 12 (Afr ad sz) :=
  k_metW (by decide) rfl (Nat.le_of_ble_eq_true rfl) hAd (fun p e s m below meth c ls C G X N Y ht hP hsz hl hS => by
    subst hsz
    refine lv_aload_n C.1 C.2.1 dL_count_0 rfl (lv_at hl 0 rfl) ?_
    refine lv_iload_n C.1 C.2.1 dL_count_1 rfl (lv_at hl 1 rfl) ?_
    refine lv_iload_n C.1 C.2.1 dL_count_2 rfl (lv_at hl 2 rfl) ?_
    obtain ⟨r9, er9, hu, hk⟩ := fwt_out h
    refine k_callXVi C G X hP hS (m_X5_count l hfl G.2.1 _ er9) g_obj rfl (cwV 2 C.2.2.2.2.2.1 (lwG_cons wg_X5_count) rfl rfl rfl (by decide +kernel) ⟨Nat.le_of_ble_eq_true rfl, Nat.le_of_ble_eq_true rfl⟩) (As := [.int x1, .int x2]) rfl hl.1 rfl (Nat.le_of_ble_eq_true rfl) dL_count_3 ⟨Nat.le_of_ble_eq_true rfl, Nat.le_of_ble_eq_true rfl⟩ (fun k E ce q9 H locs er hE hP hS hcell hv hcl => ?_) (fun H locs u er hP hS => ?_)
    · have hk2 := hk k er
      by_cases z0 : k = 3
      · subst z0
        cases hk2
        subst hE
        refine vx_catch (name := exN 3) C.2.2.2.2.1 [] ⟨0, 7, 10, 25⟩ [⟨0, 7, 15, 15⟩] (ht.trans rfl) (fun z hz => absurd hz List.not_mem_nil) rfl (by decide) (C.2.2.2.2.2.1 _ (List.mem_cons_of_mem _ lc3)) (YC.at Y (by decide) (by decide)) hcell hv hcl ?_
        refine lv_astore (lv' := [(4, .ref q9), (0, .ref (ad 0)), (1, .int x1), (2, .int x2)]) C.1 C.2.1 dL_count_10 hl (by decide) rfl (fun ls hl => ?_)
        refine k_ldci C G (List.mem_cons_of_mem _ lk_27) dL_count_12 ?_
        refine W.widen (k := 2) (n := 12) (by omega) (by omega) ?_
        exact k_iret C hP hS dL_count_14
      have hk2 := if_f z0 hk2
      by_cases z1 : k = 1
      · subst z1
        cases hk2
        subst hE
        refine vx_catch (name := exN 1) C.2.2.2.2.1 [⟨0, 7, 10, 25⟩] ⟨0, 7, 15, 15⟩ [] (ht.trans rfl) (fun z hz => Or.inr (by rw [List.mem_singleton.mp hz]; exact ⟨by decide, exN 3, C.2.2.2.2.2.1 _ (List.mem_cons_of_mem _ lc3), N 1 3 (by decide) (by decide) (by decide) (by decide) (by decide)⟩)) rfl (by decide) (C.2.2.2.2.2.1 _ (List.mem_cons_of_mem _ lc1)) (YC.at Y (by decide) (by decide)) hcell hv hcl ?_
        refine lv_astore (lv' := [(4, .ref q9), (0, .ref (ad 0)), (1, .int x1), (2, .int x2)]) C.1 C.2.1 dL_count_15 hl (by decide) rfl (fun ls hl => ?_)
        refine k_ldci C G (List.mem_cons_of_mem _ lk_17) dL_count_17 ?_
        refine W.widen (k := 2) (n := 12) (by omega) (by omega) ?_
        exact k_iret C hP hS dL_count_19
      have hk2 := if_f z1 hk2
      cases hk2
    · have hu2 := hu u er
      subst hu2
      refine lv_istore_n (lv' := [(3, .int u), (0, .ref (ad 0)), (1, .int x1), (2, .int x2)]) C.1 C.2.1 dL_count_6 rfl hl (by decide) rfl (fun ls hl => ?_)
      refine lv_goto (tgt := 20) C.1 C.2.1 dL_count_7 (by decide) ?_
      refine lv_iload_n C.1 C.2.1 dL_count_20 rfl (lv_at hl 0 rfl) ?_
      refine W.widen (k := 2) (n := 12) (by omega) (by omega) ?_
      exact k_iret C hP hS dL_count_21)
abbrev ormL_count : Room := { frames := 8, cells := 0, slots := 0, locals := 139 }
set_option maxRecDepth 100000 in
set_option maxHeartbeats 4000000 in
theorem o_L_count (l : Launch) {D : va_G} {cs : Nat → ClassId} {ad : Nat → Nat} (hAd : adOK ad) (sz : Nat) {Ls : Nat → SL} {Hs T : SL} {x1 : Int32} {x2 : Int32} {res : Int32} (h : f_X5_count Ls x1 x2 = some (Sum.inl res)) : Met l yL_count wsW_count ormL_count (PW D cs ad sz (wA cs ad Ls Hs T) [.ref (ad 0), .int x1, .int x2]) (va_Qi (fun r' (_ : Unit) => r' = res) (fun _ t => va_P D vwCl (wA cs ad Ls Hs T) t.heap) (Afr ad sz)) 0 0 (Afr ad sz) :=
  k_metW (by decide) rfl (Nat.le_of_ble_eq_true rfl) hAd (fun p e s m below meth c ls C G X N Y ht hP hsz hl hS => by
    subst hsz
    refine lv_aload_n C.1 C.2.1 dL_count_0 rfl (lv_at hl 0 rfl) ?_
    refine lv_iload_n C.1 C.2.1 dL_count_1 rfl (lv_at hl 1 rfl) ?_
    refine lv_iload_n C.1 C.2.1 dL_count_2 rfl (lv_at hl 2 rfl) ?_
    refine k_callVi C G hP hS (o_X5_count l G.2.1 _ h) g_obj rfl (cwV 2 C.2.2.2.2.2.1 (lwG_cons wg_X5_count) rfl rfl rfl (by decide +kernel) ⟨Nat.le_of_ble_eq_true rfl, Nat.le_of_ble_eq_true rfl⟩) (As := [.int x1, .int x2]) rfl hl.1 rfl (Nat.le_of_ble_eq_true rfl) dL_count_3 ⟨Nat.le_of_ble_eq_true rfl, Nat.le_of_ble_eq_true rfl⟩ (fun H locs hP hS => ?_)
    refine lv_istore_n (lv' := [(3, .int res), (0, .ref (ad 0)), (1, .int x1), (2, .int x2)]) C.1 C.2.1 dL_count_6 rfl hl (by decide) rfl (fun ls hl => ?_)
    refine lv_goto (tgt := 20) C.1 C.2.1 dL_count_7 (by decide) ?_
    refine lv_iload_n C.1 C.2.1 dL_count_20 rfl (lv_at hl 0 rfl) ?_
    exact k_iret C hP hS dL_count_21)
abbrev rmL_bound : Room := { frames := 8, cells := 2, slots := 12, locals := 144 }
set_option maxRecDepth 100000 in
set_option maxHeartbeats 4000000 in
theorem m_L_bound (l : Launch) (hfl : l.stackTraces = false) {D : va_G} {cs : Nat → ClassId} {ad : Nat → Nat} (hAd : adOK ad) (sz : Nat) {Ls : Nat → SL} {Hs T : SL} {x1 : Int32} {res : Int32 × (Nat → SL)} (h : fw_bound Ls x1 = some res) : Met l yL_bound wsW_bound rmL_bound (PW D cs ad sz (wA cs ad Ls Hs T) [.ref (ad 0), .int x1]) (va_Qi (fun r' (_ : Unit) => r' = res.1) (fun _ t => va_P D vwCl (wA cs ad res.2 Hs T) t.heap) (Afr ad sz)) 2 12 (Afr ad sz) :=
  k_metW (by decide) rfl (Nat.le_of_ble_eq_true rfl) hAd (fun p e s m below meth c ls C G X N Y ht hP hsz hl hS => by
    subst hsz
    refine lv_aload_n C.1 C.2.1 dL_bound_0 rfl (lv_at hl 0 rfl) ?_
    refine lv_iload_n C.1 C.2.1 dL_bound_1 rfl (lv_at hl 1 rfl) ?_
    obtain ⟨r9, er9, hu, hk⟩ := fwt_out h
    refine k_callXVi C G X hP hS (m_X5_bound l hfl G.2.1 _ er9) g_obj rfl (cwV 1 C.2.2.2.2.2.1 (lwG_cons wg_X5_bound) rfl rfl rfl (by decide +kernel) ⟨Nat.le_of_ble_eq_true rfl, Nat.le_of_ble_eq_true rfl⟩) (As := [.int x1]) rfl hl.1 rfl (Nat.le_of_ble_eq_true rfl) dL_bound_2 ⟨Nat.le_of_ble_eq_true rfl, Nat.le_of_ble_eq_true rfl⟩ (fun k E ce q9 H locs er hE hP hS hcell hv hcl => ?_) (fun H locs u er hP hS => ?_)
    · have hk2 := hk k er
      by_cases z0 : k = 1
      · subst z0
        cases hk2
        subst hE
        refine vx_catch (name := exN 1) C.2.2.2.2.1 [] ⟨0, 6, 9, 15⟩ [⟨0, 6, 13, 18⟩] (ht.trans rfl) (fun z hz => absurd hz List.not_mem_nil) rfl (by decide) (C.2.2.2.2.2.1 _ (List.mem_cons_of_mem _ lc1)) (YC.at Y (by decide) (by decide)) hcell hv hcl ?_
        refine lv_astore_n (lv' := [(3, .ref q9), (0, .ref (ad 0)), (1, .int x1)]) C.1 C.2.1 dL_bound_9 rfl hl (by decide) rfl (fun ls hl => ?_)
        refine k_ldci C G (List.mem_cons_of_mem _ lk_17) dL_bound_10 ?_
        refine W.widen (k := 2) (n := 12) (by omega) (by omega) ?_
        exact k_iret C hP hS dL_bound_12
      have hk2 := if_f z0 hk2
      by_cases z1 : k = 2
      · subst z1
        cases hk2
        subst hE
        refine vx_catch (name := exN 2) C.2.2.2.2.1 [⟨0, 6, 9, 15⟩] ⟨0, 6, 13, 18⟩ [] (ht.trans rfl) (fun z hz => Or.inr (by rw [List.mem_singleton.mp hz]; exact ⟨by decide, exN 1, C.2.2.2.2.2.1 _ (List.mem_cons_of_mem _ lc1), N 2 1 (by decide) (by decide) (by decide) (by decide) (by decide)⟩)) rfl (by decide) (C.2.2.2.2.2.1 _ (List.mem_cons_of_mem _ lc2)) (YC.at Y (by decide) (by decide)) hcell hv hcl ?_
        refine lv_astore_n (lv' := [(3, .ref q9), (0, .ref (ad 0)), (1, .int x1)]) C.1 C.2.1 dL_bound_13 rfl hl (by decide) rfl (fun ls hl => ?_)
        refine k_ldci C G (List.mem_cons_of_mem _ lk_20) dL_bound_14 ?_
        refine W.widen (k := 2) (n := 12) (by omega) (by omega) ?_
        exact k_iret C hP hS dL_bound_16
      have hk2 := if_f z1 hk2
      cases hk2
    · have hu2 := hu u er
      subst hu2
      refine lv_istore_n (lv' := [(2, .int u.1), (0, .ref (ad 0)), (1, .int x1)]) C.1 C.2.1 dL_bound_5 rfl hl (by decide) rfl (fun ls hl => ?_)
      refine lv_goto (tgt := 17) C.1 C.2.1 dL_bound_6 (by decide) ?_
      refine lv_iload_n C.1 C.2.1 dL_bound_17 rfl (lv_at hl 0 rfl) ?_
      refine W.widen (k := 2) (n := 12) (by omega) (by omega) ?_
      exact k_iret C hP hS dL_bound_18)
abbrev rmL_limiting : Room := { frames := 8, cells := 1, slots := 6, locals := 137 }
set_option maxRecDepth 100000 in
set_option maxHeartbeats 4000000 in
theorem m_L_limiting (l : Launch) (hfl : l.stackTraces = false) {D : va_G} {cs : Nat → ClassId} {ad : Nat → Nat} (hAd : adOK ad) (sz : Nat) {Ls : Nat → SL} {Hs T : SL} {res : Int32} (h : fw_limiting Ls = some res) : Met l yL_limiting wsW_limiting rmL_limiting (PW D cs ad sz (wA cs ad Ls Hs T) [.ref (ad 0)]) (va_Qi (fun r' (_ : Unit) => r' = res) (fun _ t => va_P D vwCl (wA cs ad Ls Hs T) t.heap) (Afr ad sz)) 1 6 (Afr ad sz) :=
  k_metW (by decide) rfl (Nat.le_of_ble_eq_true rfl) hAd (fun p e s m below meth c ls C G X N Y ht hP hsz hl hS => by
    subst hsz
    refine lv_aload_n C.1 C.2.1 dL_limiting_0 rfl (lv_at hl 0 rfl) ?_
    obtain ⟨r9, er9, hu, hk⟩ := fwt_out h
    refine k_callXVi C G X hP hS (m_X5_limiting l hfl G.2.1 _ er9) g_obj rfl (cwV 0 C.2.2.2.2.2.1 (lwG_cons wg_X5_limiting) rfl rfl rfl (by decide +kernel) ⟨Nat.le_of_ble_eq_true rfl, Nat.le_of_ble_eq_true rfl⟩) (As := []) rfl hl.1 rfl (Nat.le_of_ble_eq_true rfl) dL_limiting_1 ⟨Nat.le_of_ble_eq_true rfl, Nat.le_of_ble_eq_true rfl⟩ (fun k E ce q9 H locs er hE hP hS hcell hv hcl => ?_) (fun H locs u er hP hS => ?_)
    · have hk2 := hk k er
      by_cases z0 : k = 2
      · subst z0
        cases hk2
        subst hE
        refine vx_catch (name := exN 2) C.2.2.2.2.1 [] ⟨0, 5, 8, 18⟩ [] (ht.trans rfl) (fun z hz => absurd hz List.not_mem_nil) rfl (by decide) (C.2.2.2.2.2.1 _ (List.mem_cons_of_mem _ lc2)) (YC.at Y (by decide) (by decide)) hcell hv hcl ?_
        refine lv_astore_n (lv' := [(2, .ref q9), (0, .ref (ad 0))]) C.1 C.2.1 dL_limiting_8 rfl hl (by decide) rfl (fun ls hl => ?_)
        refine k_ldci C G (List.mem_cons_of_mem _ lk_20) dL_limiting_9 ?_
        refine W.widen (k := 1) (n := 6) (by omega) (by omega) ?_
        exact k_iret C hP hS dL_limiting_11
      have hk2 := if_f z0 hk2
      cases hk2
    · have hu2 := hu u er
      subst hu2
      refine lv_istore_n (lv' := [(1, .int u), (0, .ref (ad 0))]) C.1 C.2.1 dL_limiting_4 rfl hl (by decide) rfl (fun ls hl => ?_)
      refine lv_goto (tgt := 12) C.1 C.2.1 dL_limiting_5 (by decide) ?_
      refine lv_iload_n C.1 C.2.1 dL_limiting_12 rfl (lv_at hl 0 rfl) ?_
      refine W.widen (k := 1) (n := 6) (by omega) (by omega) ?_
      exact k_iret C hP hS dL_limiting_13)
abbrev ormL_limiting : Room := { frames := 8, cells := 0, slots := 0, locals := 137 }
set_option maxRecDepth 100000 in
set_option maxHeartbeats 4000000 in
theorem o_L_limiting (l : Launch) {D : va_G} {cs : Nat → ClassId} {ad : Nat → Nat} (hAd : adOK ad) (sz : Nat) {Ls : Nat → SL} {Hs T : SL} {res : Int32} (h : f_X5_limiting Ls = some (Sum.inl res)) : Met l yL_limiting wsW_limiting ormL_limiting (PW D cs ad sz (wA cs ad Ls Hs T) [.ref (ad 0)]) (va_Qi (fun r' (_ : Unit) => r' = res) (fun _ t => va_P D vwCl (wA cs ad Ls Hs T) t.heap) (Afr ad sz)) 0 0 (Afr ad sz) :=
  k_metW (by decide) rfl (Nat.le_of_ble_eq_true rfl) hAd (fun p e s m below meth c ls C G X N Y ht hP hsz hl hS => by
    subst hsz
    refine lv_aload_n C.1 C.2.1 dL_limiting_0 rfl (lv_at hl 0 rfl) ?_
    refine k_callVi C G hP hS (o_X5_limiting l G.2.1 _ h) g_obj rfl (cwV 0 C.2.2.2.2.2.1 (lwG_cons wg_X5_limiting) rfl rfl rfl (by decide +kernel) ⟨Nat.le_of_ble_eq_true rfl, Nat.le_of_ble_eq_true rfl⟩) (As := []) rfl hl.1 rfl (Nat.le_of_ble_eq_true rfl) dL_limiting_1 ⟨Nat.le_of_ble_eq_true rfl, Nat.le_of_ble_eq_true rfl⟩ (fun H locs hP hS => ?_)
    refine lv_istore_n (lv' := [(1, .int res), (0, .ref (ad 0))]) C.1 C.2.1 dL_limiting_4 rfl hl (by decide) rfl (fun ls hl => ?_)
    refine lv_goto (tgt := 12) C.1 C.2.1 dL_limiting_5 (by decide) ?_
    refine lv_iload_n C.1 C.2.1 dL_limiting_12 rfl (lv_at hl 0 rfl) ?_
    exact k_iret C hP hS dL_limiting_13)
abbrev rmL_slowest : Room := { frames := 8, cells := 2, slots := 12, locals := 144 }
set_option maxRecDepth 100000 in
set_option maxHeartbeats 4000000 in
theorem m_L_slowest (l : Launch) (hfl : l.stackTraces = false) {D : va_G} {cs : Nat → ClassId} {ad : Nat → Nat} (hAd : adOK ad) (sz : Nat) {Ls : Nat → SL} {Hs T : SL} {x1 : Int32} {res : Int32 × (Nat → SL)} (h : fw_slowest Ls x1 = some res) : Met l yL_slowest wsW_slowest rmL_slowest (PW D cs ad sz (wA cs ad Ls Hs T) [.ref (ad 0), .int x1]) (va_Qi (fun r' (_ : Unit) => r' = res.1) (fun _ t => va_P D vwCl (wA cs ad res.2 Hs T) t.heap) (Afr ad sz)) 2 12 (Afr ad sz) :=
  k_metW (by decide) rfl (Nat.le_of_ble_eq_true rfl) hAd (fun p e s m below meth c ls C G X N Y ht hP hsz hl hS => by
    subst hsz
    refine lv_aload_n C.1 C.2.1 dL_slowest_0 rfl (lv_at hl 0 rfl) ?_
    refine lv_iload_n C.1 C.2.1 dL_slowest_1 rfl (lv_at hl 1 rfl) ?_
    obtain ⟨r9, er9, hu, hk⟩ := fwt_out h
    refine k_callXVi C G X hP hS (m_X5_slowest l hfl G.2.1 _ er9) g_obj rfl (cwV 1 C.2.2.2.2.2.1 (lwG_cons wg_X5_slowest) rfl rfl rfl (by decide +kernel) ⟨Nat.le_of_ble_eq_true rfl, Nat.le_of_ble_eq_true rfl⟩) (As := [.int x1]) rfl hl.1 rfl (Nat.le_of_ble_eq_true rfl) dL_slowest_2 ⟨Nat.le_of_ble_eq_true rfl, Nat.le_of_ble_eq_true rfl⟩ (fun k E ce q9 H locs er hE hP hS hcell hv hcl => ?_) (fun H locs u er hP hS => ?_)
    · have hk2 := hk k er
      by_cases z0 : k = 1
      · subst z0
        cases hk2
        subst hE
        refine vx_catch (name := exN 1) C.2.2.2.2.1 [] ⟨0, 6, 9, 15⟩ [⟨0, 6, 13, 18⟩] (ht.trans rfl) (fun z hz => absurd hz List.not_mem_nil) rfl (by decide) (C.2.2.2.2.2.1 _ (List.mem_cons_of_mem _ lc1)) (YC.at Y (by decide) (by decide)) hcell hv hcl ?_
        refine lv_astore_n (lv' := [(3, .ref q9), (0, .ref (ad 0)), (1, .int x1)]) C.1 C.2.1 dL_slowest_9 rfl hl (by decide) rfl (fun ls hl => ?_)
        refine k_ldci C G (List.mem_cons_of_mem _ lk_17) dL_slowest_10 ?_
        refine W.widen (k := 2) (n := 12) (by omega) (by omega) ?_
        exact k_iret C hP hS dL_slowest_12
      have hk2 := if_f z0 hk2
      by_cases z1 : k = 2
      · subst z1
        cases hk2
        subst hE
        refine vx_catch (name := exN 2) C.2.2.2.2.1 [⟨0, 6, 9, 15⟩] ⟨0, 6, 13, 18⟩ [] (ht.trans rfl) (fun z hz => Or.inr (by rw [List.mem_singleton.mp hz]; exact ⟨by decide, exN 1, C.2.2.2.2.2.1 _ (List.mem_cons_of_mem _ lc1), N 2 1 (by decide) (by decide) (by decide) (by decide) (by decide)⟩)) rfl (by decide) (C.2.2.2.2.2.1 _ (List.mem_cons_of_mem _ lc2)) (YC.at Y (by decide) (by decide)) hcell hv hcl ?_
        refine lv_astore_n (lv' := [(3, .ref q9), (0, .ref (ad 0)), (1, .int x1)]) C.1 C.2.1 dL_slowest_13 rfl hl (by decide) rfl (fun ls hl => ?_)
        refine k_ldci C G (List.mem_cons_of_mem _ lk_20) dL_slowest_14 ?_
        refine W.widen (k := 2) (n := 12) (by omega) (by omega) ?_
        exact k_iret C hP hS dL_slowest_16
      have hk2 := if_f z1 hk2
      cases hk2
    · have hu2 := hu u er
      subst hu2
      refine lv_istore_n (lv' := [(2, .int u.1), (0, .ref (ad 0)), (1, .int x1)]) C.1 C.2.1 dL_slowest_5 rfl hl (by decide) rfl (fun ls hl => ?_)
      refine lv_goto (tgt := 17) C.1 C.2.1 dL_slowest_6 (by decide) ?_
      refine lv_iload_n C.1 C.2.1 dL_slowest_17 rfl (lv_at hl 0 rfl) ?_
      refine W.widen (k := 2) (n := 12) (by omega) (by omega) ?_
      exact k_iret C hP hS dL_slowest_18)
abbrev rmL_outputWith : Room := { frames := 8, cells := 2, slots := 12, locals := 140 }
set_option maxRecDepth 100000 in
set_option maxHeartbeats 4000000 in
theorem m_L_outputWith (l : Launch) (hfl : l.stackTraces = false) {D : va_G} {cs : Nat → ClassId} {ad : Nat → Nat} (hAd : adOK ad) (sz : Nat) {Ls : Nat → SL} {Hs T : SL} {x1 : Int32} {x2 : Int32} {x3 : Int32} {res : Int32 × (Nat → SL)} (h : fw_outputWith Ls x1 x2 x3 = some res) : Met l yL_outputWith wsW_outputWith rmL_outputWith (PW D cs ad sz (wA cs ad Ls Hs T) [.ref (ad 0), .int x1, .int x2, .int x3]) (va_Qi (fun r' (_ : Unit) => r' = res.1) (fun _ t => va_P D vwCl (wA cs ad res.2 Hs T) t.heap) (Afr ad sz)) 2 12 (Afr ad sz) :=
  k_metW (by decide) rfl (Nat.le_of_ble_eq_true rfl) hAd (fun p e s m below meth c ls C G X N Y ht hP hsz hl hS => by
    subst hsz
    refine lv_aload_n C.1 C.2.1 dL_outputWith_0 rfl (lv_at hl 0 rfl) ?_
    refine lv_iload_n C.1 C.2.1 dL_outputWith_1 rfl (lv_at hl 1 rfl) ?_
    refine lv_iload_n C.1 C.2.1 dL_outputWith_2 rfl (lv_at hl 2 rfl) ?_
    refine lv_iload_n C.1 C.2.1 dL_outputWith_3 rfl (lv_at hl 3 rfl) ?_
    obtain ⟨r9, er9, hu, hk⟩ := fwt_out h
    refine k_callXVi C G X hP hS (m_X5_outputWith l hfl G.2.1 _ er9) g_obj rfl (cwV 3 C.2.2.2.2.2.1 (lwG_cons wg_X5_outputWith) rfl rfl rfl (by decide +kernel) ⟨Nat.le_of_ble_eq_true rfl, Nat.le_of_ble_eq_true rfl⟩) (As := [.int x1, .int x2, .int x3]) rfl hl.1 rfl (Nat.le_of_ble_eq_true rfl) dL_outputWith_4 ⟨Nat.le_of_ble_eq_true rfl, Nat.le_of_ble_eq_true rfl⟩ (fun k E ce q9 H locs er hE hP hS hcell hv hcl => ?_) (fun H locs u er hP hS => ?_)
    · have hk2 := hk k er
      by_cases z0 : k = 3
      · subst z0
        cases hk2
        subst hE
        refine vx_catch (name := exN 3) C.2.2.2.2.1 [] ⟨0, 9, 12, 25⟩ [⟨0, 9, 17, 15⟩] (ht.trans rfl) (fun z hz => absurd hz List.not_mem_nil) rfl (by decide) (C.2.2.2.2.2.1 _ (List.mem_cons_of_mem _ lc3)) (YC.at Y (by decide) (by decide)) hcell hv hcl ?_
        refine lv_astore (lv' := [(5, .ref q9), (0, .ref (ad 0)), (1, .int x1), (2, .int x2), (3, .int x3)]) C.1 C.2.1 dL_outputWith_12 hl (by decide) rfl (fun ls hl => ?_)
        refine k_ldci C G (List.mem_cons_of_mem _ lk_27) dL_outputWith_14 ?_
        refine W.widen (k := 2) (n := 12) (by omega) (by omega) ?_
        exact k_iret C hP hS dL_outputWith_16
      have hk2 := if_f z0 hk2
      by_cases z1 : k = 1
      · subst z1
        cases hk2
        subst hE
        refine vx_catch (name := exN 1) C.2.2.2.2.1 [⟨0, 9, 12, 25⟩] ⟨0, 9, 17, 15⟩ [] (ht.trans rfl) (fun z hz => Or.inr (by rw [List.mem_singleton.mp hz]; exact ⟨by decide, exN 3, C.2.2.2.2.2.1 _ (List.mem_cons_of_mem _ lc3), N 1 3 (by decide) (by decide) (by decide) (by decide) (by decide)⟩)) rfl (by decide) (C.2.2.2.2.2.1 _ (List.mem_cons_of_mem _ lc1)) (YC.at Y (by decide) (by decide)) hcell hv hcl ?_
        refine lv_astore (lv' := [(5, .ref q9), (0, .ref (ad 0)), (1, .int x1), (2, .int x2), (3, .int x3)]) C.1 C.2.1 dL_outputWith_17 hl (by decide) rfl (fun ls hl => ?_)
        refine k_ldci C G (List.mem_cons_of_mem _ lk_17) dL_outputWith_19 ?_
        refine W.widen (k := 2) (n := 12) (by omega) (by omega) ?_
        exact k_iret C hP hS dL_outputWith_21
      have hk2 := if_f z1 hk2
      cases hk2
    · have hu2 := hu u er
      subst hu2
      refine lv_istore (lv' := [(4, .int u.1), (0, .ref (ad 0)), (1, .int x1), (2, .int x2), (3, .int x3)]) C.1 C.2.1 dL_outputWith_7 hl (by decide) rfl (fun ls hl => ?_)
      refine lv_goto (tgt := 22) C.1 C.2.1 dL_outputWith_9 (by decide) ?_
      refine lv_iload C.1 C.2.1 dL_outputWith_22 (lv_at hl 0 rfl) ?_
      refine W.widen (k := 2) (n := 12) (by omega) (by omega) ?_
      exact k_iret C hP hS dL_outputWith_24)
abbrev rmL_capacityFor : Room := { frames := 8, cells := 3, slots := 18, locals := 147 }
set_option maxRecDepth 100000 in
set_option maxHeartbeats 4000000 in
theorem m_L_capacityFor (l : Launch) (hfl : l.stackTraces = false) {D : va_G} {cs : Nat → ClassId} {ad : Nat → Nat} (hAd : adOK ad) (sz : Nat) {Ls : Nat → SL} {Hs T : SL} {x1 : Int32} {x2 : Int32} {x3 : Int32} {res : Int32 × (Nat → SL)} (h : fw_capacityFor Ls x1 x2 x3 = some res) : Met l yL_capacityFor wsW_capacityFor rmL_capacityFor (PW D cs ad sz (wA cs ad Ls Hs T) [.ref (ad 0), .int x1, .int x2, .int x3]) (va_Qi (fun r' (_ : Unit) => r' = res.1) (fun _ t => va_P D vwCl (wA cs ad res.2 Hs T) t.heap) (Afr ad sz)) 3 18 (Afr ad sz) :=
  k_metW (by decide) rfl (Nat.le_of_ble_eq_true rfl) hAd (fun p e s m below meth c ls C G X N Y ht hP hsz hl hS => by
    subst hsz
    refine lv_aload_n C.1 C.2.1 dL_capacityFor_0 rfl (lv_at hl 0 rfl) ?_
    refine lv_iload_n C.1 C.2.1 dL_capacityFor_1 rfl (lv_at hl 1 rfl) ?_
    refine lv_iload_n C.1 C.2.1 dL_capacityFor_2 rfl (lv_at hl 2 rfl) ?_
    refine lv_iload_n C.1 C.2.1 dL_capacityFor_3 rfl (lv_at hl 3 rfl) ?_
    obtain ⟨r9, er9, hu, hk⟩ := fwt_out h
    refine k_callXVi C G X hP hS (m_X5_capacityFor l hfl G.2.1 _ er9) g_obj rfl (cwV 3 C.2.2.2.2.2.1 (lwG_cons wg_X5_capacityFor) rfl rfl rfl (by decide +kernel) ⟨Nat.le_of_ble_eq_true rfl, Nat.le_of_ble_eq_true rfl⟩) (As := [.int x1, .int x2, .int x3]) rfl hl.1 rfl (Nat.le_of_ble_eq_true rfl) dL_capacityFor_4 ⟨Nat.le_of_ble_eq_true rfl, Nat.le_of_ble_eq_true rfl⟩ (fun k E ce q9 H locs er hE hP hS hcell hv hcl => ?_) (fun H locs u er hP hS => ?_)
    · have hk2 := hk k er
      by_cases z0 : k = 3
      · subst z0
        cases hk2
        subst hE
        refine vx_catch (name := exN 3) C.2.2.2.2.1 [] ⟨0, 9, 12, 25⟩ [⟨0, 9, 17, 15⟩] (ht.trans rfl) (fun z hz => absurd hz List.not_mem_nil) rfl (by decide) (C.2.2.2.2.2.1 _ (List.mem_cons_of_mem _ lc3)) (YC.at Y (by decide) (by decide)) hcell hv hcl ?_
        refine lv_astore (lv' := [(5, .ref q9), (0, .ref (ad 0)), (1, .int x1), (2, .int x2), (3, .int x3)]) C.1 C.2.1 dL_capacityFor_12 hl (by decide) rfl (fun ls hl => ?_)
        refine k_ldci C G (List.mem_cons_of_mem _ lk_27) dL_capacityFor_14 ?_
        refine W.widen (k := 3) (n := 18) (by omega) (by omega) ?_
        exact k_iret C hP hS dL_capacityFor_16
      have hk2 := if_f z0 hk2
      by_cases z1 : k = 1
      · subst z1
        cases hk2
        subst hE
        refine vx_catch (name := exN 1) C.2.2.2.2.1 [⟨0, 9, 12, 25⟩] ⟨0, 9, 17, 15⟩ [] (ht.trans rfl) (fun z hz => Or.inr (by rw [List.mem_singleton.mp hz]; exact ⟨by decide, exN 3, C.2.2.2.2.2.1 _ (List.mem_cons_of_mem _ lc3), N 1 3 (by decide) (by decide) (by decide) (by decide) (by decide)⟩)) rfl (by decide) (C.2.2.2.2.2.1 _ (List.mem_cons_of_mem _ lc1)) (YC.at Y (by decide) (by decide)) hcell hv hcl ?_
        refine lv_astore (lv' := [(5, .ref q9), (0, .ref (ad 0)), (1, .int x1), (2, .int x2), (3, .int x3)]) C.1 C.2.1 dL_capacityFor_17 hl (by decide) rfl (fun ls hl => ?_)
        refine k_ldci C G (List.mem_cons_of_mem _ lk_17) dL_capacityFor_19 ?_
        refine W.widen (k := 3) (n := 18) (by omega) (by omega) ?_
        exact k_iret C hP hS dL_capacityFor_21
      have hk2 := if_f z1 hk2
      cases hk2
    · have hu2 := hu u er
      subst hu2
      refine lv_istore (lv' := [(4, .int u.1), (0, .ref (ad 0)), (1, .int x1), (2, .int x2), (3, .int x3)]) C.1 C.2.1 dL_capacityFor_7 hl (by decide) rfl (fun ls hl => ?_)
      refine lv_goto (tgt := 22) C.1 C.2.1 dL_capacityFor_9 (by decide) ?_
      refine lv_iload C.1 C.2.1 dL_capacityFor_22 (lv_at hl 0 rfl) ?_
      refine W.widen (k := 3) (n := 18) (by omega) (by omega) ?_
      exact k_iret C hP hS dL_capacityFor_24)
abbrev rmL_bestBuffer : Room := { frames := 8, cells := 2, slots := 12, locals := 144 }
set_option maxRecDepth 100000 in
set_option maxHeartbeats 4000000 in
theorem m_L_bestBuffer (l : Launch) (hfl : l.stackTraces = false) {D : va_G} {cs : Nat → ClassId} {ad : Nat → Nat} (hAd : adOK ad) (sz : Nat) {Ls : Nat → SL} {Hs T : SL} {x1 : Int32} {x2 : Int32} {res : Int32 × (Nat → SL)} (h : fw_bestBuffer Ls x1 x2 = some res) : Met l yL_bestBuffer wsW_bestBuffer rmL_bestBuffer (PW D cs ad sz (wA cs ad Ls Hs T) [.ref (ad 0), .int x1, .int x2]) (va_Qi (fun r' (_ : Unit) => r' = res.1) (fun _ t => va_P D vwCl (wA cs ad res.2 Hs T) t.heap) (Afr ad sz)) 2 12 (Afr ad sz) :=
  k_metW (by decide) rfl (Nat.le_of_ble_eq_true rfl) hAd (fun p e s m below meth c ls C G X N Y ht hP hsz hl hS => by
    subst hsz
    refine lv_aload_n C.1 C.2.1 dL_bestBuffer_0 rfl (lv_at hl 0 rfl) ?_
    refine lv_iload_n C.1 C.2.1 dL_bestBuffer_1 rfl (lv_at hl 1 rfl) ?_
    refine lv_iload_n C.1 C.2.1 dL_bestBuffer_2 rfl (lv_at hl 2 rfl) ?_
    obtain ⟨r9, er9, hu, hk⟩ := fwt_out h
    refine k_callXVi C G X hP hS (m_X5_bestBuffer l hfl G.2.1 _ er9) g_obj rfl (cwV 2 C.2.2.2.2.2.1 (lwG_cons wg_X5_bestBuffer) rfl rfl rfl (by decide +kernel) ⟨Nat.le_of_ble_eq_true rfl, Nat.le_of_ble_eq_true rfl⟩) (As := [.int x1, .int x2]) rfl hl.1 rfl (Nat.le_of_ble_eq_true rfl) dL_bestBuffer_3 ⟨Nat.le_of_ble_eq_true rfl, Nat.le_of_ble_eq_true rfl⟩ (fun k E ce q9 H locs er hE hP hS hcell hv hcl => ?_) (fun H locs u er hP hS => ?_)
    · have hk2 := hk k er
      by_cases z0 : k = 1
      · subst z0
        cases hk2
        subst hE
        refine vx_catch (name := exN 1) C.2.2.2.2.1 [] ⟨0, 7, 10, 15⟩ [⟨0, 7, 15, 18⟩] (ht.trans rfl) (fun z hz => absurd hz List.not_mem_nil) rfl (by decide) (C.2.2.2.2.2.1 _ (List.mem_cons_of_mem _ lc1)) (YC.at Y (by decide) (by decide)) hcell hv hcl ?_
        refine lv_astore (lv' := [(4, .ref q9), (0, .ref (ad 0)), (1, .int x1), (2, .int x2)]) C.1 C.2.1 dL_bestBuffer_10 hl (by decide) rfl (fun ls hl => ?_)
        refine k_ldci C G (List.mem_cons_of_mem _ lk_17) dL_bestBuffer_12 ?_
        refine W.widen (k := 2) (n := 12) (by omega) (by omega) ?_
        exact k_iret C hP hS dL_bestBuffer_14
      have hk2 := if_f z0 hk2
      by_cases z1 : k = 2
      · subst z1
        cases hk2
        subst hE
        refine vx_catch (name := exN 2) C.2.2.2.2.1 [⟨0, 7, 10, 15⟩] ⟨0, 7, 15, 18⟩ [] (ht.trans rfl) (fun z hz => Or.inr (by rw [List.mem_singleton.mp hz]; exact ⟨by decide, exN 1, C.2.2.2.2.2.1 _ (List.mem_cons_of_mem _ lc1), N 2 1 (by decide) (by decide) (by decide) (by decide) (by decide)⟩)) rfl (by decide) (C.2.2.2.2.2.1 _ (List.mem_cons_of_mem _ lc2)) (YC.at Y (by decide) (by decide)) hcell hv hcl ?_
        refine lv_astore (lv' := [(4, .ref q9), (0, .ref (ad 0)), (1, .int x1), (2, .int x2)]) C.1 C.2.1 dL_bestBuffer_15 hl (by decide) rfl (fun ls hl => ?_)
        refine k_ldci C G (List.mem_cons_of_mem _ lk_20) dL_bestBuffer_17 ?_
        refine W.widen (k := 2) (n := 12) (by omega) (by omega) ?_
        exact k_iret C hP hS dL_bestBuffer_19
      have hk2 := if_f z1 hk2
      cases hk2
    · have hu2 := hu u er
      subst hu2
      refine lv_istore_n (lv' := [(3, .int u.1), (0, .ref (ad 0)), (1, .int x1), (2, .int x2)]) C.1 C.2.1 dL_bestBuffer_6 rfl hl (by decide) rfl (fun ls hl => ?_)
      refine lv_goto (tgt := 20) C.1 C.2.1 dL_bestBuffer_7 (by decide) ?_
      refine lv_iload_n C.1 C.2.1 dL_bestBuffer_20 rfl (lv_at hl 0 rfl) ?_
      refine W.widen (k := 2) (n := 12) (by omega) (by omega) ?_
      exact k_iret C hP hS dL_bestBuffer_21)
abbrev rmL_append : Room := { frames := 7, cells := 1, slots := 6, locals := 117 }
set_option maxRecDepth 100000 in
set_option maxHeartbeats 4000000 in
theorem m_L_append (l : Launch) (hfl : l.stackTraces = false) {D : va_G} {cs : Nat → ClassId} {ad : Nat → Nat} (hAd : adOK ad) (sz : Nat) {Ls : Nat → SL} {Hs T : SL} {x1 : Int32} {res : Int32 × SL} (h : fw_append T x1 = some res) : Met l yL_append wsW_append rmL_append (PW D cs ad sz (wA cs ad Ls Hs T) [.ref (ad 0), .int x1]) (va_Qi (fun r' (_ : Unit) => r' = res.1) (fun _ t => va_P D vwCl (wA cs ad Ls Hs res.2) t.heap) (Afr ad sz)) 1 6 (Afr ad sz) :=
  k_metW (by decide) rfl (Nat.le_of_ble_eq_true rfl) hAd (fun p e s m below meth c ls C G X N Y ht hP hsz hl hS => by
    subst hsz
    refine lv_aload_n C.1 C.2.1 dL_append_0 rfl (lv_at hl 0 rfl) ?_
    refine lv_iload_n C.1 C.2.1 dL_append_1 rfl (lv_at hl 1 rfl) ?_
    obtain ⟨r9, er9, hu, hk⟩ := fwt_out h
    refine k_callXVi C G X hP hS (m_X5_append l hfl G.2.1 _ er9) g_obj rfl (cwV 1 C.2.2.2.2.2.1 (lwG_cons wg_X5_append) rfl rfl rfl (by decide +kernel) ⟨Nat.le_of_ble_eq_true rfl, Nat.le_of_ble_eq_true rfl⟩) (As := [.int x1]) rfl hl.1 rfl (Nat.le_of_ble_eq_true rfl) dL_append_2 ⟨Nat.le_of_ble_eq_true rfl, Nat.le_of_ble_eq_true rfl⟩ (fun k E ce q9 H locs er hE hP hS hcell hv hcl => ?_) (fun H locs u er hP hS => ?_)
    · have hk2 := hk k er
      by_cases z0 : k = 1
      · subst z0
        cases hk2
        subst hE
        refine vx_catch (name := exN 1) C.2.2.2.2.1 [] ⟨0, 6, 9, 15⟩ [⟨0, 6, 13, 18⟩] (ht.trans rfl) (fun z hz => absurd hz List.not_mem_nil) rfl (by decide) (C.2.2.2.2.2.1 _ (List.mem_cons_of_mem _ lc1)) (YC.at Y (by decide) (by decide)) hcell hv hcl ?_
        refine lv_astore_n (lv' := [(3, .ref q9), (0, .ref (ad 0)), (1, .int x1)]) C.1 C.2.1 dL_append_9 rfl hl (by decide) rfl (fun ls hl => ?_)
        refine k_ldci C G (List.mem_cons_of_mem _ lk_17) dL_append_10 ?_
        refine W.widen (k := 1) (n := 6) (by omega) (by omega) ?_
        exact k_iret C hP hS dL_append_12
      have hk2 := if_f z0 hk2
      by_cases z1 : k = 2
      · subst z1
        cases hk2
        subst hE
        refine vx_catch (name := exN 2) C.2.2.2.2.1 [⟨0, 6, 9, 15⟩] ⟨0, 6, 13, 18⟩ [] (ht.trans rfl) (fun z hz => Or.inr (by rw [List.mem_singleton.mp hz]; exact ⟨by decide, exN 1, C.2.2.2.2.2.1 _ (List.mem_cons_of_mem _ lc1), N 2 1 (by decide) (by decide) (by decide) (by decide) (by decide)⟩)) rfl (by decide) (C.2.2.2.2.2.1 _ (List.mem_cons_of_mem _ lc2)) (YC.at Y (by decide) (by decide)) hcell hv hcl ?_
        refine lv_astore_n (lv' := [(3, .ref q9), (0, .ref (ad 0)), (1, .int x1)]) C.1 C.2.1 dL_append_13 rfl hl (by decide) rfl (fun ls hl => ?_)
        refine k_ldci C G (List.mem_cons_of_mem _ lk_20) dL_append_14 ?_
        refine W.widen (k := 1) (n := 6) (by omega) (by omega) ?_
        exact k_iret C hP hS dL_append_16
      have hk2 := if_f z1 hk2
      cases hk2
    · have hu2 := hu u er
      subst hu2
      refine lv_istore_n (lv' := [(2, .int u.1), (0, .ref (ad 0)), (1, .int x1)]) C.1 C.2.1 dL_append_5 rfl hl (by decide) rfl (fun ls hl => ?_)
      refine lv_goto (tgt := 17) C.1 C.2.1 dL_append_6 (by decide) ?_
      refine lv_iload_n C.1 C.2.1 dL_append_17 rfl (lv_at hl 0 rfl) ?_
      refine W.widen (k := 1) (n := 6) (by omega) (by omega) ?_
      exact k_iret C hP hS dL_append_18)
abbrev rmL_undo : Room := { frames := 7, cells := 1, slots := 6, locals := 133 }
set_option maxRecDepth 100000 in
set_option maxHeartbeats 4000000 in
theorem m_L_undo (l : Launch) (hfl : l.stackTraces = false) {D : va_G} {cs : Nat → ClassId} {ad : Nat → Nat} (hAd : adOK ad) (sz : Nat) {Ls : Nat → SL} {Hs T : SL} {res : Int32 × (Nat → SL) × SL} (h : fw_undo Ls Hs = some res) : Met l yL_undo wsW_undo rmL_undo (PW D cs ad sz (wA cs ad Ls Hs T) [.ref (ad 0)]) (va_Qi (fun r' (_ : Unit) => r' = res.1) (fun _ t => va_P D vwCl (wA cs ad res.2.1 res.2.2 T) t.heap) (Afr ad sz)) 1 6 (Afr ad sz) :=
  k_metW (by decide) rfl (Nat.le_of_ble_eq_true rfl) hAd (fun p e s m below meth c ls C G X N Y ht hP hsz hl hS => by
    subst hsz
    refine lv_aload_n C.1 C.2.1 dL_undo_0 rfl (lv_at hl 0 rfl) ?_
    obtain ⟨r9, er9, hu, hk⟩ := fwt_out h
    refine k_callXVi C G X hP hS (m_X5_undo l hfl G.2.1 _ er9) g_obj rfl (cwV 0 C.2.2.2.2.2.1 (lwG_cons wg_X5_undo) rfl rfl rfl (by decide +kernel) ⟨Nat.le_of_ble_eq_true rfl, Nat.le_of_ble_eq_true rfl⟩) (As := []) rfl hl.1 rfl (Nat.le_of_ble_eq_true rfl) dL_undo_1 ⟨Nat.le_of_ble_eq_true rfl, Nat.le_of_ble_eq_true rfl⟩ (fun k E ce q9 H locs er hE hP hS hcell hv hcl => ?_) (fun H locs u er hP hS => ?_)
    · have hk2 := hk k er
      by_cases z0 : k = 2
      · subst z0
        cases hk2
        subst hE
        refine vx_catch (name := exN 2) C.2.2.2.2.1 [] ⟨0, 5, 8, 18⟩ [] (ht.trans rfl) (fun z hz => absurd hz List.not_mem_nil) rfl (by decide) (C.2.2.2.2.2.1 _ (List.mem_cons_of_mem _ lc2)) (YC.at Y (by decide) (by decide)) hcell hv hcl ?_
        refine lv_astore_n (lv' := [(2, .ref q9), (0, .ref (ad 0))]) C.1 C.2.1 dL_undo_8 rfl hl (by decide) rfl (fun ls hl => ?_)
        refine k_ldci C G (List.mem_cons_of_mem _ lk_20) dL_undo_9 ?_
        refine W.widen (k := 1) (n := 6) (by omega) (by omega) ?_
        exact k_iret C hP hS dL_undo_11
      have hk2 := if_f z0 hk2
      cases hk2
    · have hu2 := hu u er
      subst hu2
      refine lv_istore_n (lv' := [(1, .int u.1), (0, .ref (ad 0))]) C.1 C.2.1 dL_undo_4 rfl hl (by decide) rfl (fun ls hl => ?_)
      refine lv_goto (tgt := 12) C.1 C.2.1 dL_undo_5 (by decide) ?_
      refine lv_iload_n C.1 C.2.1 dL_undo_12 rfl (lv_at hl 0 rfl) ?_
      refine W.widen (k := 1) (n := 6) (by omega) (by omega) ?_
      exact k_iret C hP hS dL_undo_13)
