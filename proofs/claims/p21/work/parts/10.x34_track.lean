set_option maxHeartbeats 4000000 in
set_option maxRecDepth 100000 in
theorem zmX3_track (l : Launch) (D : va_G) (cI cZ : ClassId) (h : Nat → Nat) (sz : Nat) (lagV : (Nat → Int)) (deadV : (Nat → Int)) (mannerV : (Nat → Int)) (settingV : (Nat → Int)) (keptRowV : zRowT) (liveRowV : zRowT) (shiftedRowV : zRowT) (groupsV : zGrT) (searchV : zLsT) (deadUntilV : (Nat → Int)) (settledV : Int) (knownV : Int) (tooLateV : Int) (endedV : Int) (p1 : Int) (p2 : Int) (o : Int) (hf : fX3_track (zk_X lagV deadV mannerV settingV keptRowV liveRowV shiftedRowV groupsV searchV deadUntilV settledV knownV tooLateV endedV) p1 p2 = some o) : Met l yX3_track (zW yX3_track cX3_track 3 (some .int)) rmX3_track (va_Pc [.ref (h 0), .int (zI p1), .int (zI p2)] (zPre D cI cZ ((wX h cI lagV deadV mannerV settingV keptRowV liveRowV shiftedRowV groupsV searchV deadUntilV settledV knownV tooLateV endedV)) sz)) (va_Qi (fun r' (_ : Unit) => r' = zI o) (fun _ t => va_P D vwCl ((wX h cI lagV deadV mannerV settingV keptRowV liveRowV shiftedRowV groupsV searchV deadUntilV settledV knownV tooLateV endedV)) t.heap) (va_A ((wX h cI lagV deadV mannerV settingV keptRowV liveRowV shiftedRowV groupsV searchV deadUntilV settledV knownV tooLateV endedV)) sz)) 0 0 (va_A ((wX h cI lagV deadV mannerV settingV keptRowV liveRowV shiftedRowV groupsV searchV deadUntilV settledV knownV tooLateV endedV)) sz) := by
  unfold fX3_track at hf
  refine z_enter_i (own := RX3) (by decide +kernel) rfl (Nat.le_of_ble_eq_true rfl) ?_
  intro p e s m args below meth c A Q C0 hP hD hS hret ls hl
  have hl : lv_has ls 3 [(0, .ref (h 0)), (1, .int (zI p1)), (2, .int (zI p2))] := hl
  refine z_aload_n C0 dX3_track_0 rfl (lv_at hl 0 rfl) ?_
  refine z_iload_n C0 dX3_track_1 rfl (lv_at hl 1 rfl) ?_
  obtain ⟨r1, hc2, hf⟩ := zbind hf
  refine z_callFi (rest := []) C0 hP (zD hD rfl) hS (zmX3_isGroup l D cI cZ h _ lagV deadV mannerV settingV keptRowV liveRowV shiftedRowV groupsV searchV deadUntilV settledV knownV tooLateV endedV p1 r1 hc2) (zkX3_126 ⟨by decide, by decide⟩ C0.2.2.2.2.1) 3 rfl rfl rfl rfl hl.1 (Nat.le_of_ble_eq_true rfl) dX3_track_2 ⟨Nat.zero_le _, Nat.zero_le _⟩ (fun H locs hP hS => ?_)
  have hP : va_P D vwCl ((wX h cI lagV deadV mannerV settingV keptRowV liveRowV shiftedRowV groupsV searchV deadUntilV settledV knownV tooLateV endedV)) H := hP
  refine z_ifne C0 10 dX3_track_5 (by decide) (fun c20 => ?_) (fun c20 => ?_)
  · have hf := zif_neg hf c20
    refine z_iload_n C0 dX3_track_10 rfl (lv_at hl 2 rfl) ?_
    refine z_iconst C0 dX3_track_11 ?_
    refine z_iconst C0 dX3_track_12 ?_
    obtain ⟨r3, hc4, hf⟩ := zbind hf
    refine z_callSi (rest := []) C0 hP (zD hD rfl) hS [] rfl (zmX3_isWithin l D cI cZ _ p2 0 4 r3 hc4) (zkX3_66 ⟨by decide, by decide⟩ C0.2.2.2.2.1) rfl rfl rfl hl.1 (Nat.le_of_ble_eq_true rfl) dX3_track_13 ⟨Nat.zero_le _, Nat.zero_le _⟩ rfl (Nat.le_of_ble_eq_true rfl) (fun H locs hP hS => ?_)
    have hP : va_P D vwCl ((wX h cI lagV deadV mannerV settingV keptRowV liveRowV shiftedRowV groupsV searchV deadUntilV settledV knownV tooLateV endedV)) H := hP
    refine z_ifne C0 22 dX3_track_16 (by decide) (fun c19 => ?_) (fun c19 => ?_)
    · have hf := zif_neg hf c19
      refine z_aload_n C0 dX3_track_22 rfl (lv_at hl 0 rfl) ?_
      refine zgX3_48 C0 hP 0 rfl (.ref (h 17)) rfl dX3_track_23 ?_
      refine z_iload_n C0 dX3_track_26 rfl (lv_at hl 1 rfl) ?_
      obtain ⟨r5, hc6, hf⟩ := zbind hf
      refine z_callVi (rest := []) C0 hP (zD hD rfl) hS [17, 18, 19, 20, 21, 22, 23] rfl (zmX0_hasTrack l D cI cZ (h 17) (h 18) (h 19) (h 20) (h 21) (h 22) (h 23) _ (zg_end groupsV) (zg_set groupsV) (zg_trackStart groupsV) (zg_trackSlope groupsV) (zg_trackSet groupsV) (zg_trackMisses groupsV) (zg_size groupsV) p1 r5 hc6) (zkX3_185 ⟨by decide, by decide⟩ C0.2.2.2.2.1) rfl 0 rfl rfl rfl rfl hl.1 (Nat.le_of_ble_eq_true rfl) dX3_track_27 ⟨Nat.zero_le _, Nat.zero_le _⟩ rfl (Nat.le_of_ble_eq_true rfl) (fun H locs hP hS => ?_)
      have hP : va_P D vwCl ((wX h cI lagV deadV mannerV settingV keptRowV liveRowV shiftedRowV groupsV searchV deadUntilV settledV knownV tooLateV endedV)) H := hP
      refine z_ifne C0 36 dX3_track_30 (by decide) (fun c18 => ?_) (fun c18 => ?_)
      · have hf := zif_neg hf c18
        refine z_iload_n C0 dX3_track_36 rfl (lv_at hl 2 rfl) ?_
        by_cases c7 : zE p2 0
        · have hf := zif_pos hf c7
          refine z_tabIn C0 c7 68 dX3_track_37 (by decide +kernel) (by decide +kernel) rfl (by decide) ?_
          refine z_aload_n C0 dX3_track_68 rfl (lv_at hl 0 rfl) ?_
          refine zgX3_48 C0 hP 0 rfl (.ref (h 17)) rfl dX3_track_69 ?_
          refine zgX3_188 C0 hP 17 rfl (.ref (h 20)) rfl dX3_track_72 ?_
          refine z_iload_n C0 dX3_track_75 rfl (lv_at hl 1 rfl) ?_
          obtain ⟨g8, hf⟩ := zg_some hf
          refine z_iald C0 hP 20 rfl (Nat.le_of_ble_eq_true rfl) g8 dX3_track_76 ?_
          cases hf
          exact hret hP hS dX3_track_77
        · have hf := zif_neg hf c7
          by_cases c9 : zE p2 1
          · have hf := zif_pos hf c9
            refine z_tabIn C0 c9 78 dX3_track_37 (by decide +kernel) (by decide +kernel) rfl (by decide) ?_
            refine z_aload_n C0 dX3_track_78 rfl (lv_at hl 0 rfl) ?_
            refine zgX3_48 C0 hP 0 rfl (.ref (h 17)) rfl dX3_track_79 ?_
            refine zgX3_191 C0 hP 17 rfl (.ref (h 21)) rfl dX3_track_82 ?_
            refine z_iload_n C0 dX3_track_85 rfl (lv_at hl 1 rfl) ?_
            obtain ⟨g10, hf⟩ := zg_some hf
            refine z_iald C0 hP 21 rfl (Nat.le_of_ble_eq_true rfl) g10 dX3_track_86 ?_
            refine z_bipush C0 dX3_track_87 (by decide +kernel) ?_
            refine z_iadd C0 dX3_track_89 ?_
            cases hf
            exact hret hP hS dX3_track_90
          · have hf := zif_neg hf c9
            by_cases c11 : zE p2 2
            · have hf := zif_pos hf c11
              refine z_tabIn C0 c11 91 dX3_track_37 (by decide +kernel) (by decide +kernel) rfl (by decide) ?_
              refine z_aload_n C0 dX3_track_91 rfl (lv_at hl 0 rfl) ?_
              refine zgX3_48 C0 hP 0 rfl (.ref (h 17)) rfl dX3_track_92 ?_
              refine zgX3_194 C0 hP 17 rfl (.ref (h 22)) rfl dX3_track_95 ?_
              refine z_iload_n C0 dX3_track_98 rfl (lv_at hl 1 rfl) ?_
              obtain ⟨g12, hf⟩ := zg_some hf
              refine z_iald C0 hP 22 rfl (Nat.le_of_ble_eq_true rfl) g12 dX3_track_99 ?_
              obtain ⟨r13, hc14, hf⟩ := zbind hf
              refine z_callSi (rest := []) C0 hP (zD hD rfl) hS [] rfl (zmJ6_bitCount_0f7a4 l D cI cZ _ ((zg_trackSet groupsV) (Int.toNat p1)) r13 hc14) (zkX3_138 ⟨by decide, by decide⟩ C0.2.2.2.2.1) rfl rfl rfl hl.1 (Nat.le_of_ble_eq_true rfl) dX3_track_100 ⟨Nat.zero_le _, Nat.zero_le _⟩ rfl (Nat.le_of_ble_eq_true rfl) (fun H locs hP hS => ?_)
              have hP : va_P D vwCl ((wX h cI lagV deadV mannerV settingV keptRowV liveRowV shiftedRowV groupsV searchV deadUntilV settledV knownV tooLateV endedV)) H := hP
              cases hf
              exact hret hP hS dX3_track_103
            · have hf := zif_neg hf c11
              by_cases c15 : zE p2 3
              · have hf := zif_pos hf c15
                refine z_tabIn C0 c15 104 dX3_track_37 (by decide +kernel) (by decide +kernel) rfl (by decide) ?_
                refine z_aload_n C0 dX3_track_104 rfl (lv_at hl 0 rfl) ?_
                refine zgX3_48 C0 hP 0 rfl (.ref (h 17)) rfl dX3_track_105 ?_
                refine zgX3_194 C0 hP 17 rfl (.ref (h 22)) rfl dX3_track_108 ?_
                refine z_iload_n C0 dX3_track_111 rfl (lv_at hl 1 rfl) ?_
                obtain ⟨g16, hf⟩ := zg_some hf
                refine z_iald C0 hP 22 rfl (Nat.le_of_ble_eq_true rfl) g16 dX3_track_112 ?_
                cases hf
                exact hret hP hS dX3_track_113
              · have hf := zif_neg hf c15
                refine z_tabOut C0 114 dX3_track_37 (zsw 3 (fun k hk => by rcases (show k = 0 ∨ k = 1 ∨ k = 2 ∨ k = 3 by omega) with rfl | rfl | rfl | rfl <;> assumption)) (by decide) ?_
                refine z_aload_n C0 dX3_track_114 rfl (lv_at hl 0 rfl) ?_
                refine zgX3_48 C0 hP 0 rfl (.ref (h 17)) rfl dX3_track_115 ?_
                refine zgX3_197 C0 hP 17 rfl (.ref (h 23)) rfl dX3_track_118 ?_
                refine z_iload_n C0 dX3_track_121 rfl (lv_at hl 1 rfl) ?_
                obtain ⟨g17, hf⟩ := zg_some hf
                refine z_iald C0 hP 23 rfl (Nat.le_of_ble_eq_true rfl) g17 dX3_track_122 ?_
                cases hf
                exact hret hP hS dX3_track_123
      · have hf := zif_pos hf c18
        refine z_bipush C0 dX3_track_33 (by decide +kernel) ?_
        cases hf
        exact hret hP hS dX3_track_35
    · have hf := zif_pos hf c19
      refine z_bipush C0 dX3_track_19 (by decide +kernel) ?_
      cases hf
      exact hret hP hS dX3_track_21
  · have hf := zif_pos hf c20
    refine z_iconst C0 dX3_track_8 ?_
    cases hf
    exact hret hP hS dX3_track_9
