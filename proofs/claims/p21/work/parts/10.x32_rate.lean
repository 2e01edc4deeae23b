set_option maxHeartbeats 4000000 in
set_option maxRecDepth 100000 in
theorem zmX3_rate (l : Launch) (D : va_G) (cI cZ : ClassId) (h : Nat → Nat) (sz : Nat) (lagV : (Nat → Int)) (deadV : (Nat → Int)) (mannerV : (Nat → Int)) (settingV : (Nat → Int)) (keptRowV : zRowT) (liveRowV : zRowT) (shiftedRowV : zRowT) (groupsV : zGrT) (searchV : zLsT) (deadUntilV : (Nat → Int)) (settledV : Int) (knownV : Int) (tooLateV : Int) (endedV : Int) (p1 : Int) (p2 : Int) (o : Int) (hf : fX3_rate (zk_X lagV deadV mannerV settingV keptRowV liveRowV shiftedRowV groupsV searchV deadUntilV settledV knownV tooLateV endedV) p1 p2 = some o) : Met l yX3_rate (zW yX3_rate cX3_rate 3 (some .long)) rmX3_rate (va_Pc [.ref (h 0), .int (zI p1), .int (zI p2)] (zPre D cI cZ ((wX h cI lagV deadV mannerV settingV keptRowV liveRowV shiftedRowV groupsV searchV deadUntilV settledV knownV tooLateV endedV)) sz)) (va_Ql (fun r' (_ : Unit) => r' = zL o) (fun _ t => va_P D vwCl ((wX h cI lagV deadV mannerV settingV keptRowV liveRowV shiftedRowV groupsV searchV deadUntilV settledV knownV tooLateV endedV)) t.heap) (va_A ((wX h cI lagV deadV mannerV settingV keptRowV liveRowV shiftedRowV groupsV searchV deadUntilV settledV knownV tooLateV endedV)) sz)) 0 0 (va_A ((wX h cI lagV deadV mannerV settingV keptRowV liveRowV shiftedRowV groupsV searchV deadUntilV settledV knownV tooLateV endedV)) sz) := by
  unfold fX3_rate at hf
  refine z_enter_l (own := RX3) (by decide +kernel) rfl (Nat.le_of_ble_eq_true rfl) ?_
  intro p e s m args below meth c A Q C0 hP hD hS hret ls hl
  have hl : lv_has ls 3 [(0, .ref (h 0)), (1, .int (zI p1)), (2, .int (zI p2))] := hl
  refine z_iload_n C0 dX3_rate_0 rfl (lv_at hl 1 rfl) ?_
  obtain ⟨r1, hc2, hf⟩ := zbind hf
  refine z_callSi (rest := []) C0 hP (zD hD rfl) hS [] rfl (zmX3_isPlane l D cI cZ _ p1 r1 hc2) (zkX3_62 ⟨by decide, by decide⟩ C0.2.2.2.2.1) rfl rfl rfl hl.1 (Nat.le_of_ble_eq_true rfl) dX3_rate_1 ⟨Nat.zero_le _, Nat.zero_le _⟩ rfl (Nat.le_of_ble_eq_true rfl) (fun H locs hP hS => ?_)
  have hP : va_P D vwCl ((wX h cI lagV deadV mannerV settingV keptRowV liveRowV shiftedRowV groupsV searchV deadUntilV settledV knownV tooLateV endedV)) H := hP
  refine z_ifeq C0 23 dX3_rate_4 (by decide) (fun c13 => ?_) (fun c13 => ?_)
  · have hf := zif_pos hf c13
    refine z_ldc2 C0 zw222 dX3_rate_23 ?_
    cases hf
    exact hret hP hS dX3_rate_26
  · have hf := zif_neg hf c13
    refine z_iload_n C0 dX3_rate_7 rfl (lv_at hl 2 rfl) ?_
    refine z_iconst C0 dX3_rate_8 ?_
    refine z_iconst C0 dX3_rate_9 ?_
    obtain ⟨r3, hc4, hf⟩ := zbind hf
    refine z_callSi (rest := []) C0 hP (zD hD rfl) hS [] rfl (zmX3_isWithin l D cI cZ _ p2 0 1 r3 hc4) (zkX3_66 ⟨by decide, by decide⟩ C0.2.2.2.2.1) rfl rfl rfl hl.1 (Nat.le_of_ble_eq_true rfl) dX3_rate_10 ⟨Nat.zero_le _, Nat.zero_le _⟩ rfl (Nat.le_of_ble_eq_true rfl) (fun H locs hP hS => ?_)
    have hP : va_P D vwCl ((wX h cI lagV deadV mannerV settingV keptRowV liveRowV shiftedRowV groupsV searchV deadUntilV settledV knownV tooLateV endedV)) H := hP
    refine z_ifeq C0 23 dX3_rate_13 (by decide) (fun c12 => ?_) (fun c12 => ?_)
    · have hf := zif_pos hf c12
      refine z_ldc2 C0 zw222 dX3_rate_23 ?_
      cases hf
      exact hret hP hS dX3_rate_26
    · have hf := zif_neg hf c12
      refine z_aload_n C0 dX3_rate_16 rfl (lv_at hl 0 rfl) ?_
      refine zgX3_98 C0 hP 0 rfl (.int (zI endedV)) rfl dX3_rate_17 ?_
      refine z_ifne C0 27 dX3_rate_20 (by decide) (fun c11 => ?_) (fun c11 => ?_)
      · have hf := zif_neg hf c11
        refine z_aload_n C0 dX3_rate_27 rfl (lv_at hl 0 rfl) ?_
        refine z_iload_n C0 dX3_rate_28 rfl (lv_at hl 1 rfl) ?_
        obtain ⟨r5, hc6, hf⟩ := zbind hf
        refine z_callFi (rest := []) C0 hP (zD hD rfl) hS (zmX3_liveOf l D cI cZ h _ lagV deadV mannerV settingV keptRowV liveRowV shiftedRowV groupsV searchV deadUntilV settledV knownV tooLateV endedV p1 r5 hc6) (zkX3_82 ⟨by decide, by decide⟩ C0.2.2.2.2.1) 3 rfl rfl rfl rfl hl.1 (Nat.le_of_ble_eq_true rfl) dX3_rate_29 ⟨Nat.zero_le _, Nat.zero_le _⟩ (fun H locs hP hS => ?_)
        have hP : va_P D vwCl ((wX h cI lagV deadV mannerV settingV keptRowV liveRowV shiftedRowV groupsV searchV deadUntilV settledV knownV tooLateV endedV)) H := hP
        refine z_i2l C0 dX3_rate_32 ?_
        refine z_aload_n C0 dX3_rate_33 rfl (lv_at hl 0 rfl) ?_
        refine z_iload_n C0 dX3_rate_34 rfl (lv_at hl 1 rfl) ?_
        obtain ⟨r7, hc8, hf⟩ := zbind hf
        refine z_callFi (rest := [.long (zL (zi2l r5))]) C0 hP (zD hD rfl) hS (zmX3_liveTime l D cI cZ h _ lagV deadV mannerV settingV keptRowV liveRowV shiftedRowV groupsV searchV deadUntilV settledV knownV tooLateV endedV p1 r7 hc8) (zkX3_173 ⟨by decide, by decide⟩ C0.2.2.2.2.1) 3 rfl rfl rfl rfl hl.1 (Nat.le_of_ble_eq_true rfl) dX3_rate_35 ⟨Nat.zero_le _, Nat.zero_le _⟩ (fun H locs hP hS => ?_)
        have hP : va_P D vwCl ((wX h cI lagV deadV mannerV settingV keptRowV liveRowV shiftedRowV groupsV searchV deadUntilV settledV knownV tooLateV endedV)) H := hP
        refine z_i2l C0 dX3_rate_38 ?_
        refine z_iload_n C0 dX3_rate_39 rfl (lv_at hl 2 rfl) ?_
        obtain ⟨r9, hc10, hf⟩ := zbind hf
        refine z_callSl (rest := []) C0 hP (zD hD rfl) hS [] rfl (zmX3_inLeastTerms l D cI cZ _ (zi2l r5) (zi2l r7) p2 r9 hc10) (zkX3_178 ⟨by decide, by decide⟩ C0.2.2.2.2.1) rfl rfl rfl hl.1 (Nat.le_of_ble_eq_true rfl) dX3_rate_40 ⟨Nat.zero_le _, Nat.zero_le _⟩ rfl (Nat.le_of_ble_eq_true rfl) (fun H locs hP hS => ?_)
        have hP : va_P D vwCl ((wX h cI lagV deadV mannerV settingV keptRowV liveRowV shiftedRowV groupsV searchV deadUntilV settledV knownV tooLateV endedV)) H := hP
        cases hf
        exact hret hP hS dX3_rate_43
      · have hf := zif_pos hf c11
        refine z_ldc2 C0 zw222 dX3_rate_23 ?_
        cases hf
        exact hret hP hS dX3_rate_26
