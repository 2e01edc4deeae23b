set_option maxHeartbeats 4000000 in
set_option maxRecDepth 100000 in
theorem zmX3_pulse (l : Launch) (D : va_G) (cI cZ : ClassId) (h : Nat → Nat) (sz : Nat) (lagV : (Nat → Int)) (deadV : (Nat → Int)) (mannerV : (Nat → Int)) (settingV : (Nat → Int)) (keptRowV : zRowT) (liveRowV : zRowT) (shiftedRowV : zRowT) (groupsV : zGrT) (searchV : zLsT) (deadUntilV : (Nat → Int)) (settledV : Int) (knownV : Int) (tooLateV : Int) (endedV : Int) (p1 : Int) (p2 : Int) (p3 : Int) (o : Int × zRowT × zRowT × zGrT × zLsT × (Nat → Int) × Int × Int × Int) (hf : fX3_pulse (zk_X lagV deadV mannerV settingV keptRowV liveRowV shiftedRowV groupsV searchV deadUntilV settledV knownV tooLateV endedV) p1 p2 p3 = some o) : Met l yX3_pulse (zW yX3_pulse cX3_pulse 4 (some .int)) rmX3_pulse (va_Pc [.ref (h 0), .int (zI p1), .int (zI p2), .int (zI p3)] (zPreS D cI cZ ((wX h cI lagV deadV mannerV settingV keptRowV liveRowV shiftedRowV groupsV searchV deadUntilV settledV knownV tooLateV endedV)) sz)) (va_Qi (fun r' (_ : Unit) => r' = zI o.1) (fun _ t => va_P D vwCl ((wX h cI lagV deadV mannerV settingV o.2.1 o.2.2.1 shiftedRowV o.2.2.2.1 o.2.2.2.2.1 o.2.2.2.2.2.1 o.2.2.2.2.2.2.1 o.2.2.2.2.2.2.2.1 o.2.2.2.2.2.2.2.2 endedV)) t.heap) (va_A ((wX h cI lagV deadV mannerV settingV keptRowV liveRowV shiftedRowV groupsV searchV deadUntilV settledV knownV tooLateV endedV)) sz)) 0 0 (va_A ((wX h cI lagV deadV mannerV settingV keptRowV liveRowV shiftedRowV groupsV searchV deadUntilV settledV knownV tooLateV endedV)) sz) := by
  unfold fX3_pulse at hf
  refine z_enterS_i (own := RX3) (by decide +kernel) rfl (Nat.le_of_ble_eq_true rfl) ?_
  intro p e s m args below meth c A Q C0 hP hD hS hZ hret ls hl
  have hl : lv_has ls 4 [(0, .ref (h 0)), (1, .int (zI p1)), (2, .int (zI p2)), (3, .int (zI p3))] := hl
  refine z_iload_n C0 dX3_pulse_0 rfl (lv_at hl 1 rfl) ?_
  obtain ⟨r1, hc2, hf⟩ := zbind hf
  refine z_callSi (rest := []) C0 hP (zD hD rfl) hS [] rfl (zmX3_isPlane l D cI cZ _ p1 r1 hc2) (zkX3_62 ⟨by decide, by decide⟩ C0.2.2.2.2.1) rfl rfl rfl hl.1 (Nat.le_of_ble_eq_true rfl) dX3_pulse_1 ⟨Nat.zero_le _, Nat.zero_le _⟩ rfl (Nat.le_of_ble_eq_true rfl) (fun H locs hP hS => ?_)
  have hP : va_P D vwCl ((wX h cI lagV deadV mannerV settingV keptRowV liveRowV shiftedRowV groupsV searchV deadUntilV settledV knownV tooLateV endedV)) H := hP
  refine z_ifne C0 9 dX3_pulse_4 (by decide) (fun c18 => ?_) (fun c18 => ?_)
  · have hf := zif_neg hf c18
    refine z_iload_n C0 dX3_pulse_9 rfl (lv_at hl 2 rfl) ?_
    refine z_iconst C0 dX3_pulse_10 ?_
    refine z_sipush C0 dX3_pulse_11 (by decide +kernel) ?_
    obtain ⟨r3, hc4, hf⟩ := zbind hf
    refine z_callSi (rest := []) C0 hP (zD hD rfl) hS [] rfl (zmX3_isWithin l D cI cZ _ p2 0 9999 r3 hc4) (zkX3_66 ⟨by decide, by decide⟩ C0.2.2.2.2.1) rfl rfl rfl hl.1 (Nat.le_of_ble_eq_true rfl) dX3_pulse_14 ⟨Nat.zero_le _, Nat.zero_le _⟩ rfl (Nat.le_of_ble_eq_true rfl) (fun H locs hP hS => ?_)
    have hP : va_P D vwCl ((wX h cI lagV deadV mannerV settingV keptRowV liveRowV shiftedRowV groupsV searchV deadUntilV settledV knownV tooLateV endedV)) H := hP
    refine z_ifeq C0 27 dX3_pulse_17 (by decide) (fun c17 => ?_) (fun c17 => ?_)
    · have hf := zif_pos hf c17
      refine z_bipush C0 dX3_pulse_27 (by decide +kernel) ?_
      cases hf
      exact hret hP hS dX3_pulse_29
    · have hf := zif_neg hf c17
      refine z_iload_n C0 dX3_pulse_20 rfl (lv_at hl 3 rfl) ?_
      obtain ⟨r5, hc6, hf⟩ := zbind hf
      refine z_callSi (rest := []) C0 hP (zD hD rfl) hS [] rfl (zmX3_isStrip l D cI cZ _ p3 r5 hc6) (zkX3_95 ⟨by decide, by decide⟩ C0.2.2.2.2.1) rfl rfl rfl hl.1 (Nat.le_of_ble_eq_true rfl) dX3_pulse_21 ⟨Nat.zero_le _, Nat.zero_le _⟩ rfl (Nat.le_of_ble_eq_true rfl) (fun H locs hP hS => ?_)
      have hP : va_P D vwCl ((wX h cI lagV deadV mannerV settingV keptRowV liveRowV shiftedRowV groupsV searchV deadUntilV settledV knownV tooLateV endedV)) H := hP
      refine z_ifne C0 30 dX3_pulse_24 (by decide) (fun c16 => ?_) (fun c16 => ?_)
      · have hf := zif_neg hf c16
        refine z_aload_n C0 dX3_pulse_30 rfl (lv_at hl 0 rfl) ?_
        refine zgX3_98 C0 hP 0 rfl (.int (zI endedV)) rfl dX3_pulse_31 ?_
        refine z_ifeq C0 40 dX3_pulse_34 (by decide) (fun c15 => ?_) (fun c15 => ?_)
        · have hf := zif_pos hf c15
          refine z_iload_n C0 dX3_pulse_40 rfl (lv_at hl 2 rfl) ?_
          refine z_aload_n C0 dX3_pulse_41 rfl (lv_at hl 0 rfl) ?_
          obtain ⟨r7, hc8, hf⟩ := zbind hf
          refine z_callFi (rest := [.int (zI p2)]) C0 hP (zD hD rfl) hS (zmX3_horizon l D cI cZ h _ lagV deadV mannerV settingV keptRowV liveRowV shiftedRowV groupsV searchV deadUntilV settledV knownV tooLateV endedV r7 hc8) (zkX3_102 ⟨by decide, by decide⟩ C0.2.2.2.2.1) 3 rfl rfl rfl rfl hl.1 (Nat.le_of_ble_eq_true rfl) dX3_pulse_42 ⟨Nat.zero_le _, Nat.zero_le _⟩ (fun H locs hP hS => ?_)
          have hP : va_P D vwCl ((wX h cI lagV deadV mannerV settingV keptRowV liveRowV shiftedRowV groupsV searchV deadUntilV settledV knownV tooLateV endedV)) H := hP
          refine z_icmpge C0 60 dX3_pulse_45 (by decide) (fun c14 => ?_) (fun c14 => ?_)
          · have hf := zif_pos hf c14
            refine z_aload_n C0 dX3_pulse_60 rfl (lv_at hl 0 rfl) ?_
            refine zgX3_35 C0 hP 0 rfl (.ref (h 5)) rfl dX3_pulse_61 ?_
            refine zgX3_74 C0 hP 5 rfl (.int (zI (zr_size keptRowV))) rfl dX3_pulse_64 ?_
            refine z_sipush C0 dX3_pulse_67 (by decide +kernel) ?_
            refine z_icmplt C0 76 dX3_pulse_70 (by decide) (fun c13 => ?_) (fun c13 => ?_)
            · have hf := zif_pos hf c13
              refine z_aload_n C0 dX3_pulse_76 rfl (lv_at hl 0 rfl) ?_
              refine zgX3_35 C0 hP 0 rfl (.ref (h 5)) rfl dX3_pulse_77 ?_
              refine z_iload_n C0 dX3_pulse_80 rfl (lv_at hl 2 rfl) ?_
              refine z_iload_n C0 dX3_pulse_81 rfl (lv_at hl 1 rfl) ?_
              refine z_iload_n C0 dX3_pulse_82 rfl (lv_at hl 3 rfl) ?_
              obtain ⟨r9, hc10, hf⟩ := zbind hf
              refine z_callVv (rest := []) C0 hP (zD hD rfl) hS [5, 6, 7, 8] rfl (zmX2_insert l D cI cZ (h 5) (h 6) (h 7) (h 8) _ (zr_when keptRowV) (zr_plane keptRowV) (zr_strip keptRowV) (zr_size keptRowV) p2 p1 p3 r9 hc10) (zkX3_109 ⟨by decide, by decide⟩ C0.2.2.2.2.1) rfl 2 rfl rfl rfl rfl hl.1 (Nat.le_of_ble_eq_true rfl) dX3_pulse_83 ⟨Nat.zero_le _, Nat.zero_le _⟩ rfl (Nat.le_of_ble_eq_true rfl) (fun H locs hP hS => ?_)
              have hP : va_P D vwCl ((wX h cI lagV deadV mannerV settingV (zrs_size (zrs_strip (zrs_plane (zrs_when keptRowV r9.1) r9.2.1) r9.2.2.1) r9.2.2.2) liveRowV shiftedRowV groupsV searchV deadUntilV settledV knownV tooLateV endedV)) H := hP
              refine z_aload_n C0 dX3_pulse_86 rfl (lv_at hl 0 rfl) ?_
              obtain ⟨r11, hc12, hf⟩ := zbind hf
              refine z_callFvS (rest := []) C0 hP (zD hD rfl) hS hZ (zmX3_follow l D cI cZ h _ lagV deadV mannerV settingV (zrs_size (zrs_strip (zrs_plane (zrs_when keptRowV r9.1) r9.2.1) r9.2.2.1) r9.2.2.2) liveRowV shiftedRowV groupsV searchV deadUntilV settledV knownV tooLateV endedV r11 hc12) (zkX3_113 ⟨by decide, by decide⟩ C0.2.2.2.2.1) 3 rfl rfl rfl rfl hl.1 (Nat.le_of_ble_eq_true rfl) dX3_pulse_87 ⟨Nat.zero_le _, Nat.zero_le _⟩ (fun H locs hP hS => ?_)
              have hP : va_P D vwCl ((wX h cI lagV deadV mannerV settingV (zrs_size (zrs_strip (zrs_plane (zrs_when keptRowV r9.1) r9.2.1) r9.2.2.1) r9.2.2.2) r11.1 shiftedRowV r11.2.1 r11.2.2.1 r11.2.2.2.1 r11.2.2.2.2.1 r11.2.2.2.2.2 tooLateV endedV)) H := hP
              refine z_iconst C0 dX3_pulse_90 ?_
              cases hf
              exact hret hP hS dX3_pulse_91
            · have hf := zif_neg hf c13
              refine z_bipush C0 dX3_pulse_73 (by decide +kernel) ?_
              cases hf
              exact hret hP hS dX3_pulse_75
          · have hf := zif_neg hf c14
            refine z_aload_n C0 dX3_pulse_48 rfl (lv_at hl 0 rfl) ?_
            refine z_dup C0 dX3_pulse_49 rfl ?_
            refine zgX3_106 C0 hP 0 rfl (.int (zI tooLateV)) rfl dX3_pulse_50 ?_
            refine z_iconst C0 dX3_pulse_53 ?_
            refine z_iadd C0 dX3_pulse_54 ?_
            refine zpX3_106 C0 hP (zD hD rfl) hS 0 rfl (Nat.le_of_ble_eq_true rfl) dX3_pulse_55 (fun H locs hP hS => ?_)
            have hP : va_P D vwCl ((wX h cI lagV deadV mannerV settingV keptRowV liveRowV shiftedRowV groupsV searchV deadUntilV settledV knownV (tooLateV + 1) endedV)) H := hP
            refine z_iconst C0 dX3_pulse_58 ?_
            cases hf
            exact hret hP hS dX3_pulse_59
        · have hf := zif_neg hf c15
          refine z_bipush C0 dX3_pulse_37 (by decide +kernel) ?_
          cases hf
          exact hret hP hS dX3_pulse_39
      · have hf := zif_pos hf c16
        refine z_bipush C0 dX3_pulse_27 (by decide +kernel) ?_
        cases hf
        exact hret hP hS dX3_pulse_29
  · have hf := zif_pos hf c18
    refine z_iconst C0 dX3_pulse_7 ?_
    cases hf
    exact hret hP hS dX3_pulse_8
