set_option maxHeartbeats 4000000 in
set_option maxRecDepth 100000 in
theorem zmX3_group (l : Launch) (D : va_G) (cI cZ : ClassId) (h : Nat → Nat) (sz : Nat) (lagV : (Nat → Int)) (deadV : (Nat → Int)) (mannerV : (Nat → Int)) (settingV : (Nat → Int)) (keptRowV : zRowT) (liveRowV : zRowT) (shiftedRowV : zRowT) (groupsV : zGrT) (searchV : zLsT) (deadUntilV : (Nat → Int)) (settledV : Int) (knownV : Int) (tooLateV : Int) (endedV : Int) (p1 : Int) (p2 : Int) (o : Int) (hf : fX3_group (zk_X lagV deadV mannerV settingV keptRowV liveRowV shiftedRowV groupsV searchV deadUntilV settledV knownV tooLateV endedV) p1 p2 = some o) : Met l yX3_group (zW yX3_group cX3_group 5 (some .int)) rmX3_group (va_Pc [.ref (h 0), .int (zI p1), .int (zI p2)] (zPre D cI cZ ((wX h cI lagV deadV mannerV settingV keptRowV liveRowV shiftedRowV groupsV searchV deadUntilV settledV knownV tooLateV endedV)) sz)) (va_Qi (fun r' (_ : Unit) => r' = zI o) (fun _ t => va_P D vwCl ((wX h cI lagV deadV mannerV settingV keptRowV liveRowV shiftedRowV groupsV searchV deadUntilV settledV knownV tooLateV endedV)) t.heap) (va_A ((wX h cI lagV deadV mannerV settingV keptRowV liveRowV shiftedRowV groupsV searchV deadUntilV settledV knownV tooLateV endedV)) sz)) 0 0 (va_A ((wX h cI lagV deadV mannerV settingV keptRowV liveRowV shiftedRowV groupsV searchV deadUntilV settledV knownV tooLateV endedV)) sz) := by
  unfold fX3_group at hf
  refine z_enter_i (own := RX3) (by decide +kernel) rfl (Nat.le_of_ble_eq_true rfl) ?_
  intro p e s m args below meth c A Q C0 hP hD hS hret ls hl
  have hl : lv_has ls 5 [(0, .ref (h 0)), (1, .int (zI p1)), (2, .int (zI p2))] := hl
  refine z_aload_n C0 dX3_group_0 rfl (lv_at hl 0 rfl) ?_
  refine z_iload_n C0 dX3_group_1 rfl (lv_at hl 1 rfl) ?_
  obtain ⟨r1, hc2, hf⟩ := zbind hf
  refine z_callFi (rest := []) C0 hP (zD hD rfl) hS (zmX3_isGroup l D cI cZ h _ lagV deadV mannerV settingV keptRowV liveRowV shiftedRowV groupsV searchV deadUntilV settledV knownV tooLateV endedV p1 r1 hc2) (zkX3_126 ⟨by decide, by decide⟩ C0.2.2.2.2.1) 3 rfl rfl rfl rfl hl.1 (Nat.le_of_ble_eq_true rfl) dX3_group_2 ⟨Nat.zero_le _, Nat.zero_le _⟩ (fun H locs hP hS => ?_)
  have hP : va_P D vwCl ((wX h cI lagV deadV mannerV settingV keptRowV liveRowV shiftedRowV groupsV searchV deadUntilV settledV knownV tooLateV endedV)) H := hP
  refine z_ifne C0 10 dX3_group_5 (by decide) (fun c22 => ?_) (fun c22 => ?_)
  · have hf := zif_neg hf c22
    refine z_aload_n C0 dX3_group_10 rfl (lv_at hl 0 rfl) ?_
    refine zgX3_48 C0 hP 0 rfl (.ref (h 17)) rfl dX3_group_11 ?_
    refine z_iload_n C0 dX3_group_14 rfl (lv_at hl 1 rfl) ?_
    refine z_iconst C0 dX3_group_15 ?_
    refine z_isub C0 dX3_group_16 ?_
    obtain ⟨r3, hc4, hf⟩ := zbind hf
    refine z_callVi (rest := []) C0 hP (zD hD rfl) hS [17, 18, 19, 20, 21, 22, 23] rfl (zmX0_endOf l D cI cZ (h 17) (h 18) (h 19) (h 20) (h 21) (h 22) (h 23) _ (zg_end groupsV) (zg_set groupsV) (zg_trackStart groupsV) (zg_trackSlope groupsV) (zg_trackSet groupsV) (zg_trackMisses groupsV) (zg_size groupsV) (p1 - 1) r3 hc4) (zkX3_129 ⟨by decide, by decide⟩ C0.2.2.2.2.1) rfl 0 rfl rfl rfl rfl hl.1 (Nat.le_of_ble_eq_true rfl) dX3_group_17 ⟨Nat.zero_le _, Nat.zero_le _⟩ rfl (Nat.le_of_ble_eq_true rfl) (fun H locs hP hS => ?_)
    have hP : va_P D vwCl ((wX h cI lagV deadV mannerV settingV keptRowV liveRowV shiftedRowV groupsV searchV deadUntilV settledV knownV tooLateV endedV)) H := hP
    refine z_istore_n C0 [(3, .int (zI r3)), (0, .ref (h 0)), (1, .int (zI p1)), (2, .int (zI p2))] dX3_group_20 rfl hl (by decide) rfl (fun ls hl => ?_)
    refine z_aload_n C0 dX3_group_21 rfl (lv_at hl 1 rfl) ?_
    refine zgX3_48 C0 hP 0 rfl (.ref (h 17)) rfl dX3_group_22 ?_
    refine z_iload_n C0 dX3_group_25 rfl (lv_at hl 2 rfl) ?_
    obtain ⟨r5, hc6, hf⟩ := zbind hf
    refine z_callVi (rest := []) C0 hP (zD hD rfl) hS [17, 18, 19, 20, 21, 22, 23] rfl (zmX0_endOf l D cI cZ (h 17) (h 18) (h 19) (h 20) (h 21) (h 22) (h 23) _ (zg_end groupsV) (zg_set groupsV) (zg_trackStart groupsV) (zg_trackSlope groupsV) (zg_trackSet groupsV) (zg_trackMisses groupsV) (zg_size groupsV) p1 r5 hc6) (zkX3_129 ⟨by decide, by decide⟩ C0.2.2.2.2.1) rfl 0 rfl rfl rfl rfl hl.1 (Nat.le_of_ble_eq_true rfl) dX3_group_26 ⟨Nat.zero_le _, Nat.zero_le _⟩ rfl (Nat.le_of_ble_eq_true rfl) (fun H locs hP hS => ?_)
    have hP : va_P D vwCl ((wX h cI lagV deadV mannerV settingV keptRowV liveRowV shiftedRowV groupsV searchV deadUntilV settledV knownV tooLateV endedV)) H := hP
    refine z_istore C0 [(4, .int (zI r5)), (3, .int (zI r3)), (0, .ref (h 0)), (1, .int (zI p1)), (2, .int (zI p2))] dX3_group_29 hl (by decide) rfl (fun ls hl => ?_)
    refine z_iload_n C0 dX3_group_31 rfl (lv_at hl 4 rfl) ?_
    by_cases c7 : zE p2 0
    · have hf := zif_pos hf c7
      refine z_tabIn C0 c7 68 dX3_group_32 (by decide +kernel) (by decide +kernel) rfl (by decide) ?_
      refine z_aload_n C0 dX3_group_68 rfl (lv_at hl 2 rfl) ?_
      refine zgX3_39 C0 hP 0 rfl (.ref (h 9)) rfl dX3_group_69 ?_
      refine z_iload_n C0 dX3_group_72 rfl (lv_at hl 1 rfl) ?_
      obtain ⟨r8, hc9, hf⟩ := zbind hf
      refine z_callVi (rest := []) C0 hP (zD hD rfl) hS [9, 10, 11, 12] rfl (zmX2_whenAt l D cI cZ (h 9) (h 10) (h 11) (h 12) _ (zr_when liveRowV) (zr_plane liveRowV) (zr_strip liveRowV) (zr_size liveRowV) r3 r8 hc9) (zkX3_132 ⟨by decide, by decide⟩ C0.2.2.2.2.1) rfl 2 rfl rfl rfl rfl hl.1 (Nat.le_of_ble_eq_true rfl) dX3_group_73 ⟨Nat.zero_le _, Nat.zero_le _⟩ rfl (Nat.le_of_ble_eq_true rfl) (fun H locs hP hS => ?_)
      have hP : va_P D vwCl ((wX h cI lagV deadV mannerV settingV keptRowV liveRowV shiftedRowV groupsV searchV deadUntilV settledV knownV tooLateV endedV)) H := hP
      refine z_bipush C0 dX3_group_76 (by decide +kernel) ?_
      refine z_iadd C0 dX3_group_78 ?_
      cases hf
      exact hret hP hS dX3_group_79
    · have hf := zif_neg hf c7
      by_cases c10 : zE p2 1
      · have hf := zif_pos hf c10
        refine z_tabIn C0 c10 80 dX3_group_32 (by decide +kernel) (by decide +kernel) rfl (by decide) ?_
        refine z_aload_n C0 dX3_group_80 rfl (lv_at hl 2 rfl) ?_
        refine zgX3_48 C0 hP 0 rfl (.ref (h 17)) rfl dX3_group_81 ?_
        refine zgX3_135 C0 hP 17 rfl (.ref (h 19)) rfl dX3_group_84 ?_
        refine z_iload_n C0 dX3_group_87 rfl (lv_at hl 3 rfl) ?_
        obtain ⟨g11, hf⟩ := zg_some hf
        refine z_iald C0 hP 19 rfl (Nat.le_of_ble_eq_true rfl) g11 dX3_group_88 ?_
        cases hf
        exact hret hP hS dX3_group_89
      · have hf := zif_neg hf c10
        by_cases c12 : zE p2 2
        · have hf := zif_pos hf c12
          refine z_tabIn C0 c12 90 dX3_group_32 (by decide +kernel) (by decide +kernel) rfl (by decide) ?_
          refine z_iload C0 dX3_group_90 (lv_at hl 0 rfl) ?_
          refine z_iload_n C0 dX3_group_92 rfl (lv_at hl 1 rfl) ?_
          refine z_isub C0 dX3_group_93 ?_
          cases hf
          exact hret hP hS dX3_group_94
        · have hf := zif_neg hf c12
          by_cases c13 : zE p2 3
          · have hf := zif_pos hf c13
            refine z_tabIn C0 c13 95 dX3_group_32 (by decide +kernel) (by decide +kernel) rfl (by decide) ?_
            refine z_iload C0 dX3_group_95 (lv_at hl 0 rfl) ?_
            refine z_iload_n C0 dX3_group_97 rfl (lv_at hl 1 rfl) ?_
            refine z_isub C0 dX3_group_98 ?_
            refine z_aload_n C0 dX3_group_99 rfl (lv_at hl 2 rfl) ?_
            refine zgX3_48 C0 hP 0 rfl (.ref (h 17)) rfl dX3_group_100 ?_
            refine zgX3_135 C0 hP 17 rfl (.ref (h 19)) rfl dX3_group_103 ?_
            refine z_iload_n C0 dX3_group_106 rfl (lv_at hl 3 rfl) ?_
            obtain ⟨g14, hf⟩ := zg_some hf
            refine z_iald C0 hP 19 rfl (Nat.le_of_ble_eq_true rfl) g14 dX3_group_107 ?_
            obtain ⟨r15, hc16, hf⟩ := zbind hf
            refine z_callSi (rest := [.int (zI (r5 - r3))]) C0 hP (zD hD rfl) hS [] rfl (zmJ6_bitCount_0f7a4 l D cI cZ _ ((zg_set groupsV) (Int.toNat p1)) r15 hc16) (zkX3_138 ⟨by decide, by decide⟩ C0.2.2.2.2.1) rfl rfl rfl hl.1 (Nat.le_of_ble_eq_true rfl) dX3_group_108 ⟨Nat.zero_le _, Nat.zero_le _⟩ rfl (Nat.le_of_ble_eq_true rfl) (fun H locs hP hS => ?_)
            have hP : va_P D vwCl ((wX h cI lagV deadV mannerV settingV keptRowV liveRowV shiftedRowV groupsV searchV deadUntilV settledV knownV tooLateV endedV)) H := hP
            refine z_isub C0 dX3_group_111 ?_
            cases hf
            exact hret hP hS dX3_group_112
          · have hf := zif_neg hf c13
            by_cases c17 : zE p2 4
            · have hf := zif_pos hf c17
              refine z_tabIn C0 c17 113 dX3_group_32 (by decide +kernel) (by decide +kernel) rfl (by decide) ?_
              refine z_aload_n C0 dX3_group_113 rfl (lv_at hl 2 rfl) ?_
              refine zgX3_39 C0 hP 0 rfl (.ref (h 9)) rfl dX3_group_114 ?_
              refine z_iload C0 dX3_group_117 (lv_at hl 0 rfl) ?_
              refine z_iconst C0 dX3_group_119 ?_
              refine z_isub C0 dX3_group_120 ?_
              obtain ⟨r18, hc19, hf⟩ := zbind hf
              refine z_callVi (rest := []) C0 hP (zD hD rfl) hS [9, 10, 11, 12] rfl (zmX2_whenAt l D cI cZ (h 9) (h 10) (h 11) (h 12) _ (zr_when liveRowV) (zr_plane liveRowV) (zr_strip liveRowV) (zr_size liveRowV) (r5 - 1) r18 hc19) (zkX3_132 ⟨by decide, by decide⟩ C0.2.2.2.2.1) rfl 2 rfl rfl rfl rfl hl.1 (Nat.le_of_ble_eq_true rfl) dX3_group_121 ⟨Nat.zero_le _, Nat.zero_le _⟩ rfl (Nat.le_of_ble_eq_true rfl) (fun H locs hP hS => ?_)
              have hP : va_P D vwCl ((wX h cI lagV deadV mannerV settingV keptRowV liveRowV shiftedRowV groupsV searchV deadUntilV settledV knownV tooLateV endedV)) H := hP
              refine z_aload_n C0 dX3_group_124 rfl (lv_at hl 2 rfl) ?_
              refine zgX3_39 C0 hP 0 rfl (.ref (h 9)) rfl dX3_group_125 ?_
              refine z_iload_n C0 dX3_group_128 rfl (lv_at hl 1 rfl) ?_
              obtain ⟨r20, hc21, hf⟩ := zbind hf
              refine z_callVi (rest := [.int (zI r18)]) C0 hP (zD hD rfl) hS [9, 10, 11, 12] rfl (zmX2_whenAt l D cI cZ (h 9) (h 10) (h 11) (h 12) _ (zr_when liveRowV) (zr_plane liveRowV) (zr_strip liveRowV) (zr_size liveRowV) r3 r20 hc21) (zkX3_132 ⟨by decide, by decide⟩ C0.2.2.2.2.1) rfl 2 rfl rfl rfl rfl hl.1 (Nat.le_of_ble_eq_true rfl) dX3_group_129 ⟨Nat.zero_le _, Nat.zero_le _⟩ rfl (Nat.le_of_ble_eq_true rfl) (fun H locs hP hS => ?_)
              have hP : va_P D vwCl ((wX h cI lagV deadV mannerV settingV keptRowV liveRowV shiftedRowV groupsV searchV deadUntilV settledV knownV tooLateV endedV)) H := hP
              refine z_isub C0 dX3_group_132 ?_
              cases hf
              exact hret hP hS dX3_group_133
            · have hf := zif_neg hf c17
              refine z_tabOut C0 134 dX3_group_32 (zsw 4 (fun k hk => by rcases (show k = 0 ∨ k = 1 ∨ k = 2 ∨ k = 3 ∨ k = 4 by omega) with rfl | rfl | rfl | rfl | rfl <;> assumption)) (by decide) ?_
              refine z_bipush C0 dX3_group_134 (by decide +kernel) ?_
              cases hf
              exact hret hP hS dX3_group_136
  · have hf := zif_pos hf c22
    refine z_iconst C0 dX3_group_8 ?_
    cases hf
    exact hret hP hS dX3_group_9
