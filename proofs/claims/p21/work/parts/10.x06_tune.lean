set_option maxHeartbeats 4000000 in
set_option maxRecDepth 100000 in
theorem zmX3_tune (l : Launch) (D : va_G) (cI cZ : ClassId) (h : Nat → Nat) (sz : Nat) (lagV : (Nat → Int)) (deadV : (Nat → Int)) (mannerV : (Nat → Int)) (settingV : (Nat → Int)) (keptRowV : zRowT) (liveRowV : zRowT) (shiftedRowV : zRowT) (groupsV : zGrT) (searchV : zLsT) (deadUntilV : (Nat → Int)) (settledV : Int) (knownV : Int) (tooLateV : Int) (endedV : Int) (p1 : Int) (p2 : Int) (o : Int × (Nat → Int)) (hf : fX3_tune (zk_X lagV deadV mannerV settingV keptRowV liveRowV shiftedRowV groupsV searchV deadUntilV settledV knownV tooLateV endedV) p1 p2 = some o) : Met l yX3_tune (zW yX3_tune cX3_tune 4 (some .int)) rmX3_tune (va_Pc [.ref (h 0), .int (zI p1), .int (zI p2)] (zPreS D cI cZ ((wX h cI lagV deadV mannerV settingV keptRowV liveRowV shiftedRowV groupsV searchV deadUntilV settledV knownV tooLateV endedV)) sz)) (va_Qi (fun r' (_ : Unit) => r' = zI o.1) (fun _ t => va_P D vwCl ((wX h cI lagV deadV mannerV o.2 keptRowV liveRowV shiftedRowV groupsV searchV deadUntilV settledV knownV tooLateV endedV)) t.heap) (va_A ((wX h cI lagV deadV mannerV settingV keptRowV liveRowV shiftedRowV groupsV searchV deadUntilV settledV knownV tooLateV endedV)) sz)) 0 0 (va_A ((wX h cI lagV deadV mannerV settingV keptRowV liveRowV shiftedRowV groupsV searchV deadUntilV settledV knownV tooLateV endedV)) sz) := by
  unfold fX3_tune at hf
  refine z_enterS_i (own := RX3) (by decide +kernel) rfl (Nat.le_of_ble_eq_true rfl) ?_
  intro p e s m args below meth c A Q C0 hP hD hS hZ hret ls hl
  have hl : lv_has ls 4 [(0, .ref (h 0)), (1, .int (zI p1)), (2, .int (zI p2))] := hl
  refine z_iload_n C0 dX3_tune_0 rfl (lv_at hl 1 rfl) ?_
  refine z_iconst C0 dX3_tune_1 ?_
  refine z_iconst C0 dX3_tune_2 ?_
  obtain ⟨r1, hc2, hf⟩ := zbind hf
  refine z_callSi (rest := []) C0 hP (zD hD rfl) hS [] rfl (zmX3_isWithin l D cI cZ _ p1 0 3 r1 hc2) (zkX3_66 ⟨by decide, by decide⟩ C0.2.2.2.2.1) rfl rfl rfl hl.1 (Nat.le_of_ble_eq_true rfl) dX3_tune_3 ⟨Nat.zero_le _, Nat.zero_le _⟩ rfl (Nat.le_of_ble_eq_true rfl) (fun H locs hP hS => ?_)
  have hP : va_P D vwCl ((wX h cI lagV deadV mannerV settingV keptRowV liveRowV shiftedRowV groupsV searchV deadUntilV settledV knownV tooLateV endedV)) H := hP
  refine z_ifne C0 12 dX3_tune_6 (by decide) (fun c16 => ?_) (fun c16 => ?_)
  · have hf := zif_neg hf c16
    refine z_iload_n C0 dX3_tune_12 rfl (lv_at hl 2 rfl) ?_
    obtain ⟨t3, hZt3, hTt3⟩ := hZ.2.1
    refine z_gets C0 hZt3 hS zw105 dX3_tune_13 ?_
    refine z_iload_n C0 dX3_tune_16 rfl (lv_at hl 1 rfl) ?_
    obtain ⟨g4, hf⟩ := zg_some hf
    refine z_tald C0 (f := zS1) hTt3 hS (Nat.le_of_ble_eq_true rfl) g4 dX3_tune_17 ?_
    obtain ⟨t5, hZt5, hTt5⟩ := hZ.2.2
    refine z_gets C0 hZt5 hS zw106 dX3_tune_18 ?_
    refine z_iload_n C0 dX3_tune_21 rfl (lv_at hl 1 rfl) ?_
    obtain ⟨g6, hf⟩ := zg_some hf
    refine z_tald C0 (f := zS2) hTt5 hS (Nat.le_of_ble_eq_true rfl) g6 dX3_tune_22 ?_
    obtain ⟨r7, hc8, hf⟩ := zbind hf
    refine z_callSi (rest := []) C0 hP (zD hD rfl) hS [] rfl (zmX3_isWithin l D cI cZ _ p2 (zS1 (Int.toNat p1)) (zS2 (Int.toNat p1)) r7 hc8) (zkX3_66 ⟨by decide, by decide⟩ C0.2.2.2.2.1) rfl rfl rfl hl.1 (Nat.le_of_ble_eq_true rfl) dX3_tune_23 ⟨Nat.zero_le _, Nat.zero_le _⟩ rfl (Nat.le_of_ble_eq_true rfl) (fun H locs hP hS => ?_)
    have hP : va_P D vwCl ((wX h cI lagV deadV mannerV settingV keptRowV liveRowV shiftedRowV groupsV searchV deadUntilV settledV knownV tooLateV endedV)) H := hP
    refine z_ifne C0 32 dX3_tune_26 (by decide) (fun c15 => ?_) (fun c15 => ?_)
    · have hf := zif_neg hf c15
      refine z_aload_n C0 dX3_tune_32 rfl (lv_at hl 0 rfl) ?_
      obtain ⟨r9, hc10, hf⟩ := zbind hf
      refine z_callFi (rest := []) C0 hP (zD hD rfl) hS (zmX3_hasBegun l D cI cZ h _ lagV deadV mannerV settingV keptRowV liveRowV shiftedRowV groupsV searchV deadUntilV settledV knownV tooLateV endedV r9 hc10) (zkX3_70 ⟨by decide, by decide⟩ C0.2.2.2.2.1) 3 rfl rfl rfl rfl hl.1 (Nat.le_of_ble_eq_true rfl) dX3_tune_33 ⟨Nat.zero_le _, Nat.zero_le _⟩ (fun H locs hP hS => ?_)
      have hP : va_P D vwCl ((wX h cI lagV deadV mannerV settingV keptRowV liveRowV shiftedRowV groupsV searchV deadUntilV settledV knownV tooLateV endedV)) H := hP
      refine z_ifeq C0 42 dX3_tune_36 (by decide) (fun c14 => ?_) (fun c14 => ?_)
      · have hf := zif_pos hf c14
        refine z_aload_n C0 dX3_tune_42 rfl (lv_at hl 0 rfl) ?_
        refine zgX3_29 C0 hP 0 rfl (.ref (h 4)) rfl dX3_tune_43 ?_
        refine z_iload_n C0 dX3_tune_46 rfl (lv_at hl 1 rfl) ?_
        obtain ⟨g11, hf⟩ := zg_some hf
        refine z_iald C0 hP 4 rfl (Nat.le_of_ble_eq_true rfl) g11 dX3_tune_47 ?_
        obtain ⟨v12, hv12, hf⟩ := zl_some hf
        refine z_name hv12 ?_
        refine z_istore_n C0 [(3, .int (zI v12)), (0, .ref (h 0)), (1, .int (zI p1)), (2, .int (zI p2))] dX3_tune_48 rfl hl (by decide) rfl (fun ls hl => ?_)
        refine z_aload_n C0 dX3_tune_49 rfl (lv_at hl 1 rfl) ?_
        refine zgX3_29 C0 hP 0 rfl (.ref (h 4)) rfl dX3_tune_50 ?_
        refine z_iload_n C0 dX3_tune_53 rfl (lv_at hl 2 rfl) ?_
        refine z_iload_n C0 dX3_tune_54 rfl (lv_at hl 3 rfl) ?_
        obtain ⟨g13, hf⟩ := zg_some hf
        refine z_iast C0 hP (zD hD rfl) hS 4 rfl (Nat.le_of_ble_eq_true rfl) g13 dX3_tune_55 (fun H locs hP hS => ?_)
        have hP : va_P D vwCl ((wX h cI lagV deadV mannerV (zu settingV p1 p2) keptRowV liveRowV shiftedRowV groupsV searchV deadUntilV settledV knownV tooLateV endedV)) H := hP
        refine z_iload_n C0 dX3_tune_56 rfl (lv_at hl 0 rfl) ?_
        cases hf
        exact hret hP hS dX3_tune_57
      · have hf := zif_neg hf c14
        refine z_bipush C0 dX3_tune_39 (by decide +kernel) ?_
        cases hf
        exact hret hP hS dX3_tune_41
    · have hf := zif_pos hf c15
      refine z_bipush C0 dX3_tune_29 (by decide +kernel) ?_
      cases hf
      exact hret hP hS dX3_tune_31
  · have hf := zif_pos hf c16
    refine z_bipush C0 dX3_tune_9 (by decide +kernel) ?_
    cases hf
    exact hret hP hS dX3_tune_11
