set_option maxHeartbeats 4000000 in
set_option maxRecDepth 100000 in
theorem zmX3_member (l : Launch) (D : va_G) (cI cZ : ClassId) (h : Nat → Nat) (sz : Nat) (lagV : (Nat → Int)) (deadV : (Nat → Int)) (mannerV : (Nat → Int)) (settingV : (Nat → Int)) (keptRowV : zRowT) (liveRowV : zRowT) (shiftedRowV : zRowT) (groupsV : zGrT) (searchV : zLsT) (deadUntilV : (Nat → Int)) (settledV : Int) (knownV : Int) (tooLateV : Int) (endedV : Int) (p1 : Int) (p2 : Int) (p3 : Int) (o : Int) (hf : fX3_member (zk_X lagV deadV mannerV settingV keptRowV liveRowV shiftedRowV groupsV searchV deadUntilV settledV knownV tooLateV endedV) p1 p2 p3 = some o) : Met l yX3_member (zW yX3_member cX3_member 5 (some .int)) rmX3_member (va_Pc [.ref (h 0), .int (zI p1), .int (zI p2), .int (zI p3)] (zPre D cI cZ ((wX h cI lagV deadV mannerV settingV keptRowV liveRowV shiftedRowV groupsV searchV deadUntilV settledV knownV tooLateV endedV)) sz)) (va_Qi (fun r' (_ : Unit) => r' = zI o) (fun _ t => va_P D vwCl ((wX h cI lagV deadV mannerV settingV keptRowV liveRowV shiftedRowV groupsV searchV deadUntilV settledV knownV tooLateV endedV)) t.heap) (va_A ((wX h cI lagV deadV mannerV settingV keptRowV liveRowV shiftedRowV groupsV searchV deadUntilV settledV knownV tooLateV endedV)) sz)) 0 0 (va_A ((wX h cI lagV deadV mannerV settingV keptRowV liveRowV shiftedRowV groupsV searchV deadUntilV settledV knownV tooLateV endedV)) sz) := by
  unfold fX3_member at hf
  refine z_enter_i (own := RX3) (by decide +kernel) rfl (Nat.le_of_ble_eq_true rfl) ?_
  intro p e s m args below meth c A Q C0 hP hD hS hret ls hl
  have hl : lv_has ls 5 [(0, .ref (h 0)), (1, .int (zI p1)), (2, .int (zI p2)), (3, .int (zI p3))] := hl
  refine z_aload_n C0 dX3_member_0 rfl (lv_at hl 0 rfl) ?_
  refine z_iload_n C0 dX3_member_1 rfl (lv_at hl 1 rfl) ?_
  obtain ⟨r1, hc2, hf⟩ := zbind hf
  refine z_callFi (rest := []) C0 hP (zD hD rfl) hS (zmX3_isGroup l D cI cZ h _ lagV deadV mannerV settingV keptRowV liveRowV shiftedRowV groupsV searchV deadUntilV settledV knownV tooLateV endedV p1 r1 hc2) (zkX3_126 ⟨by decide, by decide⟩ C0.2.2.2.2.1) 3 rfl rfl rfl rfl hl.1 (Nat.le_of_ble_eq_true rfl) dX3_member_2 ⟨Nat.zero_le _, Nat.zero_le _⟩ (fun H locs hP hS => ?_)
  have hP : va_P D vwCl ((wX h cI lagV deadV mannerV settingV keptRowV liveRowV shiftedRowV groupsV searchV deadUntilV settledV knownV tooLateV endedV)) H := hP
  refine z_ifeq C0 15 dX3_member_5 (by decide) (fun c22 => ?_) (fun c22 => ?_)
  · have hf := zif_pos hf c22
    refine z_iconst C0 dX3_member_15 ?_
    cases hf
    exact hret hP hS dX3_member_16
  · have hf := zif_neg hf c22
    refine z_iload_n C0 dX3_member_8 rfl (lv_at hl 2 rfl) ?_
    obtain ⟨r3, hc4, hf⟩ := zbind hf
    refine z_callSi (rest := []) C0 hP (zD hD rfl) hS [] rfl (zmX3_isPlane l D cI cZ _ p2 r3 hc4) (zkX3_62 ⟨by decide, by decide⟩ C0.2.2.2.2.1) rfl rfl rfl hl.1 (Nat.le_of_ble_eq_true rfl) dX3_member_9 ⟨Nat.zero_le _, Nat.zero_le _⟩ rfl (Nat.le_of_ble_eq_true rfl) (fun H locs hP hS => ?_)
    have hP : va_P D vwCl ((wX h cI lagV deadV mannerV settingV keptRowV liveRowV shiftedRowV groupsV searchV deadUntilV settledV knownV tooLateV endedV)) H := hP
    refine z_ifne C0 17 dX3_member_12 (by decide) (fun c21 => ?_) (fun c21 => ?_)
    · have hf := zif_neg hf c21
      refine z_iload_n C0 dX3_member_17 rfl (lv_at hl 3 rfl) ?_
      refine z_iconst C0 dX3_member_18 ?_
      refine z_iconst C0 dX3_member_19 ?_
      obtain ⟨r5, hc6, hf⟩ := zbind hf
      refine z_callSi (rest := []) C0 hP (zD hD rfl) hS [] rfl (zmX3_isWithin l D cI cZ _ p3 0 1 r5 hc6) (zkX3_66 ⟨by decide, by decide⟩ C0.2.2.2.2.1) rfl rfl rfl hl.1 (Nat.le_of_ble_eq_true rfl) dX3_member_20 ⟨Nat.zero_le _, Nat.zero_le _⟩ rfl (Nat.le_of_ble_eq_true rfl) (fun H locs hP hS => ?_)
      have hP : va_P D vwCl ((wX h cI lagV deadV mannerV settingV keptRowV liveRowV shiftedRowV groupsV searchV deadUntilV settledV knownV tooLateV endedV)) H := hP
      refine z_ifne C0 29 dX3_member_23 (by decide) (fun c20 => ?_) (fun c20 => ?_)
      · have hf := zif_neg hf c20
        refine z_aload_n C0 dX3_member_29 rfl (lv_at hl 0 rfl) ?_
        refine zgX3_39 C0 hP 0 rfl (.ref (h 9)) rfl dX3_member_30 ?_
        refine z_iload_n C0 dX3_member_33 rfl (lv_at hl 2 rfl) ?_
        refine z_aload_n C0 dX3_member_34 rfl (lv_at hl 0 rfl) ?_
        refine zgX3_48 C0 hP 0 rfl (.ref (h 17)) rfl dX3_member_35 ?_
        refine z_iload_n C0 dX3_member_38 rfl (lv_at hl 1 rfl) ?_
        refine z_iconst C0 dX3_member_39 ?_
        refine z_isub C0 dX3_member_40 ?_
        obtain ⟨r7, hc8, hf⟩ := zbind hf
        refine z_callVi (rest := [.int (zI p2), .ref (h 9)]) C0 hP (zD hD rfl) hS [17, 18, 19, 20, 21, 22, 23] rfl (zmX0_endOf l D cI cZ (h 17) (h 18) (h 19) (h 20) (h 21) (h 22) (h 23) _ (zg_end groupsV) (zg_set groupsV) (zg_trackStart groupsV) (zg_trackSlope groupsV) (zg_trackSet groupsV) (zg_trackMisses groupsV) (zg_size groupsV) (p1 - 1) r7 hc8) (zkX3_129 ⟨by decide, by decide⟩ C0.2.2.2.2.1) rfl 0 rfl rfl rfl rfl hl.1 (Nat.le_of_ble_eq_true rfl) dX3_member_41 ⟨Nat.zero_le _, Nat.zero_le _⟩ rfl (Nat.le_of_ble_eq_true rfl) (fun H locs hP hS => ?_)
        have hP : va_P D vwCl ((wX h cI lagV deadV mannerV settingV keptRowV liveRowV shiftedRowV groupsV searchV deadUntilV settledV knownV tooLateV endedV)) H := hP
        refine z_aload_n C0 dX3_member_44 rfl (lv_at hl 0 rfl) ?_
        refine zgX3_48 C0 hP 0 rfl (.ref (h 17)) rfl dX3_member_45 ?_
        refine z_iload_n C0 dX3_member_48 rfl (lv_at hl 1 rfl) ?_
        obtain ⟨r9, hc10, hf⟩ := zbind hf
        refine z_callVi (rest := [.int (zI r7), .int (zI p2), .ref (h 9)]) C0 hP (zD hD rfl) hS [17, 18, 19, 20, 21, 22, 23] rfl (zmX0_endOf l D cI cZ (h 17) (h 18) (h 19) (h 20) (h 21) (h 22) (h 23) _ (zg_end groupsV) (zg_set groupsV) (zg_trackStart groupsV) (zg_trackSlope groupsV) (zg_trackSet groupsV) (zg_trackMisses groupsV) (zg_size groupsV) p1 r9 hc10) (zkX3_129 ⟨by decide, by decide⟩ C0.2.2.2.2.1) rfl 0 rfl rfl rfl rfl hl.1 (Nat.le_of_ble_eq_true rfl) dX3_member_49 ⟨Nat.zero_le _, Nat.zero_le _⟩ rfl (Nat.le_of_ble_eq_true rfl) (fun H locs hP hS => ?_)
        have hP : va_P D vwCl ((wX h cI lagV deadV mannerV settingV keptRowV liveRowV shiftedRowV groupsV searchV deadUntilV settledV knownV tooLateV endedV)) H := hP
        obtain ⟨r11, hc12, hf⟩ := zbind hf
        refine z_callVi (rest := []) C0 hP (zD hD rfl) hS [9, 10, 11, 12] rfl (zmX2_indexOf l D cI cZ (h 9) (h 10) (h 11) (h 12) _ (zr_when liveRowV) (zr_plane liveRowV) (zr_strip liveRowV) (zr_size liveRowV) p2 r7 r9 r11 hc12) (zkX3_143 ⟨by decide, by decide⟩ C0.2.2.2.2.1) rfl 2 rfl rfl rfl rfl hl.1 (Nat.le_of_ble_eq_true rfl) dX3_member_52 ⟨Nat.zero_le _, Nat.zero_le _⟩ rfl (Nat.le_of_ble_eq_true rfl) (fun H locs hP hS => ?_)
        have hP : va_P D vwCl ((wX h cI lagV deadV mannerV settingV keptRowV liveRowV shiftedRowV groupsV searchV deadUntilV settledV knownV tooLateV endedV)) H := hP
        refine z_istore C0 [(4, .int (zI r11)), (0, .ref (h 0)), (1, .int (zI p1)), (2, .int (zI p2)), (3, .int (zI p3))] dX3_member_55 hl (by decide) rfl (fun ls hl => ?_)
        refine z_aload_n C0 dX3_member_57 rfl (lv_at hl 1 rfl) ?_
        refine zgX3_39 C0 hP 0 rfl (.ref (h 9)) rfl dX3_member_58 ?_
        refine z_iload C0 dX3_member_61 (lv_at hl 0 rfl) ?_
        obtain ⟨r13, hc14, hf⟩ := zbind hf
        refine z_callVi (rest := []) C0 hP (zD hD rfl) hS [9, 10, 11, 12] rfl (zmX2_has l D cI cZ (h 9) (h 10) (h 11) (h 12) _ (zr_when liveRowV) (zr_plane liveRowV) (zr_strip liveRowV) (zr_size liveRowV) r11 r13 hc14) (zkX3_147 ⟨by decide, by decide⟩ C0.2.2.2.2.1) rfl 2 rfl rfl rfl rfl hl.1 (Nat.le_of_ble_eq_true rfl) dX3_member_63 ⟨Nat.zero_le _, Nat.zero_le _⟩ rfl (Nat.le_of_ble_eq_true rfl) (fun H locs hP hS => ?_)
        have hP : va_P D vwCl ((wX h cI lagV deadV mannerV settingV keptRowV liveRowV shiftedRowV groupsV searchV deadUntilV settledV knownV tooLateV endedV)) H := hP
        refine z_ifne C0 72 dX3_member_66 (by decide) (fun c19 => ?_) (fun c19 => ?_)
        · have hf := zif_neg hf c19
          refine z_iload_n C0 dX3_member_72 rfl (lv_at hl 4 rfl) ?_
          refine z_ifne C0 96 dX3_member_73 (by decide) (fun c18 => ?_) (fun c18 => ?_)
          · have hf := zif_neg hf c18
            refine z_aload_n C0 dX3_member_96 rfl (lv_at hl 1 rfl) ?_
            refine zgX3_39 C0 hP 0 rfl (.ref (h 9)) rfl dX3_member_97 ?_
            refine zgX3_153 C0 hP 9 rfl (.ref (h 12)) rfl dX3_member_100 ?_
            refine z_iload C0 dX3_member_103 (lv_at hl 0 rfl) ?_
            obtain ⟨g15, hf⟩ := zg_some hf
            refine z_iald C0 hP 12 rfl (Nat.le_of_ble_eq_true rfl) g15 dX3_member_105 ?_
            cases hf
            exact hret hP hS dX3_member_106
          · have hf := zif_pos hf c18
            refine z_aload_n C0 dX3_member_76 rfl (lv_at hl 1 rfl) ?_
            refine zgX3_39 C0 hP 0 rfl (.ref (h 9)) rfl dX3_member_77 ?_
            refine zgX3_150 C0 hP 9 rfl (.ref (h 10)) rfl dX3_member_80 ?_
            refine z_iload C0 dX3_member_83 (lv_at hl 0 rfl) ?_
            obtain ⟨g16, hf⟩ := zg_some hf
            refine z_iald C0 hP 10 rfl (Nat.le_of_ble_eq_true rfl) g16 dX3_member_85 ?_
            refine z_aload_n C0 dX3_member_86 rfl (lv_at hl 1 rfl) ?_
            refine zgX3_11 C0 hP 0 rfl (.ref (h 1)) rfl dX3_member_87 ?_
            refine z_iload_n C0 dX3_member_90 rfl (lv_at hl 3 rfl) ?_
            obtain ⟨g17, hf⟩ := zg_some hf
            refine z_iald C0 hP 1 rfl (Nat.le_of_ble_eq_true rfl) g17 dX3_member_91 ?_
            refine z_iadd C0 dX3_member_92 ?_
            refine z_goto C0 106 dX3_member_93 (by decide) ?_
            cases hf
            exact hret hP hS dX3_member_106
        · have hf := zif_pos hf c19
          refine z_bipush C0 dX3_member_69 (by decide +kernel) ?_
          cases hf
          exact hret hP hS dX3_member_71
      · have hf := zif_pos hf c20
        refine z_bipush C0 dX3_member_26 (by decide +kernel) ?_
        cases hf
        exact hret hP hS dX3_member_28
    · have hf := zif_pos hf c21
      refine z_iconst C0 dX3_member_15 ?_
      cases hf
      exact hret hP hS dX3_member_16
