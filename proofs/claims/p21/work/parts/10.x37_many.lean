set_option maxHeartbeats 4000000 in
set_option maxRecDepth 100000 in
theorem zmX3_many (l : Launch) (D : va_G) (cI cZ : ClassId) (h : Nat → Nat) (sz : Nat) (lagV : (Nat → Int)) (deadV : (Nat → Int)) (mannerV : (Nat → Int)) (settingV : (Nat → Int)) (keptRowV : zRowT) (liveRowV : zRowT) (shiftedRowV : zRowT) (groupsV : zGrT) (searchV : zLsT) (deadUntilV : (Nat → Int)) (settledV : Int) (knownV : Int) (tooLateV : Int) (endedV : Int) (p1 : Int) (o : Int) (hf : fX3_many (zk_X lagV deadV mannerV settingV keptRowV liveRowV shiftedRowV groupsV searchV deadUntilV settledV knownV tooLateV endedV) p1 = some o) : Met l yX3_many (zW yX3_many cX3_many 2 (some .int)) rmX3_many (va_Pc [.ref (h 0), .int (zI p1)] (zPre D cI cZ ((wX h cI lagV deadV mannerV settingV keptRowV liveRowV shiftedRowV groupsV searchV deadUntilV settledV knownV tooLateV endedV)) sz)) (va_Qi (fun r' (_ : Unit) => r' = zI o) (fun _ t => va_P D vwCl ((wX h cI lagV deadV mannerV settingV keptRowV liveRowV shiftedRowV groupsV searchV deadUntilV settledV knownV tooLateV endedV)) t.heap) (va_A ((wX h cI lagV deadV mannerV settingV keptRowV liveRowV shiftedRowV groupsV searchV deadUntilV settledV knownV tooLateV endedV)) sz)) 0 0 (va_A ((wX h cI lagV deadV mannerV settingV keptRowV liveRowV shiftedRowV groupsV searchV deadUntilV settledV knownV tooLateV endedV)) sz) := by
  unfold fX3_many at hf
  refine z_enter_i (own := RX3) (by decide +kernel) rfl (Nat.le_of_ble_eq_true rfl) ?_
  intro p e s m args below meth c A Q C0 hP hD hS hret ls hl
  have hl : lv_has ls 2 [(0, .ref (h 0)), (1, .int (zI p1))] := hl
  refine z_iload_n C0 dX3_many_0 rfl (lv_at hl 1 rfl) ?_
  by_cases c1 : zE p1 0
  · have hf := zif_pos hf c1
    refine z_tabIn C0 c1 68 dX3_many_1 (by decide +kernel) (by decide +kernel) rfl (by decide) ?_
    refine z_aload_n C0 dX3_many_68 rfl (lv_at hl 0 rfl) ?_
    refine zgX3_35 C0 hP 0 rfl (.ref (h 5)) rfl dX3_many_69 ?_
    refine zgX3_74 C0 hP 5 rfl (.int (zI (zr_size keptRowV))) rfl dX3_many_72 ?_
    refine z_aload_n C0 dX3_many_75 rfl (lv_at hl 0 rfl) ?_
    refine zgX3_106 C0 hP 0 rfl (.int (zI tooLateV)) rfl dX3_many_76 ?_
    refine z_iadd C0 dX3_many_79 ?_
    cases hf
    exact hret hP hS dX3_many_80
  · have hf := zif_neg hf c1
    by_cases c2 : zE p1 1
    · have hf := zif_pos hf c2
      refine z_tabIn C0 c2 81 dX3_many_1 (by decide +kernel) (by decide +kernel) rfl (by decide) ?_
      refine z_aload_n C0 dX3_many_81 rfl (lv_at hl 0 rfl) ?_
      refine zgX3_106 C0 hP 0 rfl (.int (zI tooLateV)) rfl dX3_many_82 ?_
      cases hf
      exact hret hP hS dX3_many_85
    · have hf := zif_neg hf c2
      by_cases c3 : zE p1 2
      · have hf := zif_pos hf c3
        refine z_tabIn C0 c3 86 dX3_many_1 (by decide +kernel) (by decide +kernel) rfl (by decide) ?_
        refine z_aload_n C0 dX3_many_86 rfl (lv_at hl 0 rfl) ?_
        refine zgX3_35 C0 hP 0 rfl (.ref (h 5)) rfl dX3_many_87 ?_
        refine zgX3_74 C0 hP 5 rfl (.int (zI (zr_size keptRowV))) rfl dX3_many_90 ?_
        cases hf
        exact hret hP hS dX3_many_93
      · have hf := zif_neg hf c3
        by_cases c4 : zE p1 3
        · have hf := zif_pos hf c4
          refine z_tabIn C0 c4 94 dX3_many_1 (by decide +kernel) (by decide +kernel) rfl (by decide) ?_
          refine z_aload_n C0 dX3_many_94 rfl (lv_at hl 0 rfl) ?_
          refine zgX3_86 C0 hP 0 rfl (.int (zI settledV)) rfl dX3_many_95 ?_
          cases hf
          exact hret hP hS dX3_many_98
        · have hf := zif_neg hf c4
          by_cases c5 : zE p1 4
          · have hf := zif_pos hf c5
            refine z_tabIn C0 c5 99 dX3_many_1 (by decide +kernel) (by decide +kernel) rfl (by decide) ?_
            refine z_aload_n C0 dX3_many_99 rfl (lv_at hl 0 rfl) ?_
            refine zgX3_39 C0 hP 0 rfl (.ref (h 9)) rfl dX3_many_100 ?_
            refine zgX3_74 C0 hP 9 rfl (.int (zI (zr_size liveRowV))) rfl dX3_many_103 ?_
            cases hf
            exact hret hP hS dX3_many_106
          · have hf := zif_neg hf c5
            by_cases c6 : zE p1 5
            · have hf := zif_pos hf c6
              refine z_tabIn C0 c6 107 dX3_many_1 (by decide +kernel) (by decide +kernel) rfl (by decide) ?_
              refine z_aload_n C0 dX3_many_107 rfl (lv_at hl 0 rfl) ?_
              refine zgX3_86 C0 hP 0 rfl (.int (zI settledV)) rfl dX3_many_108 ?_
              refine z_aload_n C0 dX3_many_111 rfl (lv_at hl 0 rfl) ?_
              refine zgX3_39 C0 hP 0 rfl (.ref (h 9)) rfl dX3_many_112 ?_
              refine zgX3_74 C0 hP 9 rfl (.int (zI (zr_size liveRowV))) rfl dX3_many_115 ?_
              refine z_isub C0 dX3_many_118 ?_
              cases hf
              exact hret hP hS dX3_many_119
            · have hf := zif_neg hf c6
              by_cases c7 : zE p1 6
              · have hf := zif_pos hf c7
                refine z_tabIn C0 c7 120 dX3_many_1 (by decide +kernel) (by decide +kernel) rfl (by decide) ?_
                refine z_aload_n C0 dX3_many_120 rfl (lv_at hl 0 rfl) ?_
                refine zgX3_123 C0 hP 0 rfl (.int (zI knownV)) rfl dX3_many_121 ?_
                cases hf
                exact hret hP hS dX3_many_124
              · have hf := zif_neg hf c7
                by_cases c8 : zE p1 7
                · have hf := zif_pos hf c8
                  refine z_tabIn C0 c8 125 dX3_many_1 (by decide +kernel) (by decide +kernel) rfl (by decide) ?_
                  refine z_aload_n C0 dX3_many_125 rfl (lv_at hl 0 rfl) ?_
                  refine zgX3_48 C0 hP 0 rfl (.ref (h 17)) rfl dX3_many_126 ?_
                  refine zgX3_116 C0 hP 17 rfl (.int (zI (zg_size groupsV))) rfl dX3_many_129 ?_
                  cases hf
                  exact hret hP hS dX3_many_132
                · have hf := zif_neg hf c8
                  by_cases c9 : zE p1 8
                  · have hf := zif_pos hf c9
                    refine z_tabIn C0 c9 133 dX3_many_1 (by decide +kernel) (by decide +kernel) rfl (by decide) ?_
                    refine z_aload_n C0 dX3_many_133 rfl (lv_at hl 0 rfl) ?_
                    obtain ⟨r10, hc11, hf⟩ := zbind hf
                    refine z_callFi (rest := []) C0 hP (zD hD rfl) hS (zmX3_coincidences l D cI cZ h _ lagV deadV mannerV settingV keptRowV liveRowV shiftedRowV groupsV searchV deadUntilV settledV knownV tooLateV endedV r10 hc11) (zkX3_200 ⟨by decide, by decide⟩ C0.2.2.2.2.1) 3 rfl rfl rfl rfl hl.1 (Nat.le_of_ble_eq_true rfl) dX3_many_134 ⟨Nat.zero_le _, Nat.zero_le _⟩ (fun H locs hP hS => ?_)
                    have hP : va_P D vwCl ((wX h cI lagV deadV mannerV settingV keptRowV liveRowV shiftedRowV groupsV searchV deadUntilV settledV knownV tooLateV endedV)) H := hP
                    cases hf
                    exact hret hP hS dX3_many_137
                  · have hf := zif_neg hf c9
                    by_cases c12 : zE p1 9
                    · have hf := zif_pos hf c12
                      refine z_tabIn C0 c12 138 dX3_many_1 (by decide +kernel) (by decide +kernel) rfl (by decide) ?_
                      refine z_aload_n C0 dX3_many_138 rfl (lv_at hl 0 rfl) ?_
                      refine zgX3_48 C0 hP 0 rfl (.ref (h 17)) rfl dX3_many_139 ?_
                      obtain ⟨r13, hc14, hf⟩ := zbind hf
                      refine z_callVi (rest := []) C0 hP (zD hD rfl) hS [17, 18, 19, 20, 21, 22, 23] rfl (zmX0_pulses l D cI cZ (h 17) (h 18) (h 19) (h 20) (h 21) (h 22) (h 23) _ (zg_end groupsV) (zg_set groupsV) (zg_trackStart groupsV) (zg_trackSlope groupsV) (zg_trackSet groupsV) (zg_trackMisses groupsV) (zg_size groupsV) r13 hc14) (zkX3_203 ⟨by decide, by decide⟩ C0.2.2.2.2.1) rfl 0 rfl rfl rfl rfl hl.1 (Nat.le_of_ble_eq_true rfl) dX3_many_142 ⟨Nat.zero_le _, Nat.zero_le _⟩ rfl (Nat.le_of_ble_eq_true rfl) (fun H locs hP hS => ?_)
                      have hP : va_P D vwCl ((wX h cI lagV deadV mannerV settingV keptRowV liveRowV shiftedRowV groupsV searchV deadUntilV settledV knownV tooLateV endedV)) H := hP
                      cases hf
                      exact hret hP hS dX3_many_145
                    · have hf := zif_neg hf c12
                      by_cases c15 : zE p1 10
                      · have hf := zif_pos hf c15
                        refine z_tabIn C0 c15 146 dX3_many_1 (by decide +kernel) (by decide +kernel) rfl (by decide) ?_
                        refine z_aload_n C0 dX3_many_146 rfl (lv_at hl 0 rfl) ?_
                        refine zgX3_48 C0 hP 0 rfl (.ref (h 17)) rfl dX3_many_147 ?_
                        obtain ⟨r16, hc17, hf⟩ := zbind hf
                        refine z_callVi (rest := []) C0 hP (zD hD rfl) hS [17, 18, 19, 20, 21, 22, 23] rfl (zmX0_tracks l D cI cZ (h 17) (h 18) (h 19) (h 20) (h 21) (h 22) (h 23) _ (zg_end groupsV) (zg_set groupsV) (zg_trackStart groupsV) (zg_trackSlope groupsV) (zg_trackSet groupsV) (zg_trackMisses groupsV) (zg_size groupsV) r16 hc17) (zkX3_206 ⟨by decide, by decide⟩ C0.2.2.2.2.1) rfl 0 rfl rfl rfl rfl hl.1 (Nat.le_of_ble_eq_true rfl) dX3_many_150 ⟨Nat.zero_le _, Nat.zero_le _⟩ rfl (Nat.le_of_ble_eq_true rfl) (fun H locs hP hS => ?_)
                        have hP : va_P D vwCl ((wX h cI lagV deadV mannerV settingV keptRowV liveRowV shiftedRowV groupsV searchV deadUntilV settledV knownV tooLateV endedV)) H := hP
                        cases hf
                        exact hret hP hS dX3_many_153
                      · have hf := zif_neg hf c15
                        by_cases c18 : zE p1 11
                        · have hf := zif_pos hf c18
                          refine z_tabIn C0 c18 154 dX3_many_1 (by decide +kernel) (by decide +kernel) rfl (by decide) ?_
                          refine z_aload_n C0 dX3_many_154 rfl (lv_at hl 0 rfl) ?_
                          obtain ⟨r19, hc20, hf⟩ := zbind hf
                          refine z_callFi (rest := []) C0 hP (zD hD rfl) hS (zmX3_horizon l D cI cZ h _ lagV deadV mannerV settingV keptRowV liveRowV shiftedRowV groupsV searchV deadUntilV settledV knownV tooLateV endedV r19 hc20) (zkX3_102 ⟨by decide, by decide⟩ C0.2.2.2.2.1) 3 rfl rfl rfl rfl hl.1 (Nat.le_of_ble_eq_true rfl) dX3_many_155 ⟨Nat.zero_le _, Nat.zero_le _⟩ (fun H locs hP hS => ?_)
                          have hP : va_P D vwCl ((wX h cI lagV deadV mannerV settingV keptRowV liveRowV shiftedRowV groupsV searchV deadUntilV settledV knownV tooLateV endedV)) H := hP
                          refine z_sipush C0 dX3_many_158 (by decide +kernel) ?_
                          refine z_iadd C0 dX3_many_161 ?_
                          cases hf
                          exact hret hP hS dX3_many_162
                        · have hf := zif_neg hf c18
                          by_cases c21 : zE p1 12
                          · have hf := zif_pos hf c21
                            refine z_tabIn C0 c21 163 dX3_many_1 (by decide +kernel) (by decide +kernel) rfl (by decide) ?_
                            refine z_aload_n C0 dX3_many_163 rfl (lv_at hl 0 rfl) ?_
                            obtain ⟨r22, hc23, hf⟩ := zbind hf
                            refine z_callFi (rest := []) C0 hP (zD hD rfl) hS (zmX3_edge l D cI cZ h _ lagV deadV mannerV settingV keptRowV liveRowV shiftedRowV groupsV searchV deadUntilV settledV knownV tooLateV endedV r22 hc23) (zkX3_209 ⟨by decide, by decide⟩ C0.2.2.2.2.1) 3 rfl rfl rfl rfl hl.1 (Nat.le_of_ble_eq_true rfl) dX3_many_164 ⟨Nat.zero_le _, Nat.zero_le _⟩ (fun H locs hP hS => ?_)
                            have hP : va_P D vwCl ((wX h cI lagV deadV mannerV settingV keptRowV liveRowV shiftedRowV groupsV searchV deadUntilV settledV knownV tooLateV endedV)) H := hP
                            refine z_sipush C0 dX3_many_167 (by decide +kernel) ?_
                            refine z_iadd C0 dX3_many_170 ?_
                            cases hf
                            exact hret hP hS dX3_many_171
                          · have hf := zif_neg hf c21
                            refine z_tabOut C0 172 dX3_many_1 (zsw 12 (fun k hk => by rcases (show k = 0 ∨ k = 1 ∨ k = 2 ∨ k = 3 ∨ k = 4 ∨ k = 5 ∨ k = 6 ∨ k = 7 ∨ k = 8 ∨ k = 9 ∨ k = 10 ∨ k = 11 ∨ k = 12 by omega) with rfl | rfl | rfl | rfl | rfl | rfl | rfl | rfl | rfl | rfl | rfl | rfl | rfl <;> assumption)) (by decide) ?_
                            refine z_bipush C0 dX3_many_172 (by decide +kernel) ?_
                            cases hf
                            exact hret hP hS dX3_many_174
