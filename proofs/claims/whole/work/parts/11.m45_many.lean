set_option maxHeartbeats 4000000 in
set_option maxRecDepth 100000 in
theorem zmX4_many (l : Launch) (D : va_G) (cI cZ : ClassId) (h : Nat → Nat) (sz : Nat) (lagV : (Nat → Int)) (deadV : (Nat → Int)) (mannerV : (Nat → Int)) (settingV : (Nat → Int)) (leastOfV : (Nat → Int)) (mostOfV : (Nat → Int)) (keptV : Int) (planeOfV : (Nat → Int)) (momentOfV : (Nat → Int)) (stripOfV : (Nat → Int)) (lateV : Int) (isOverV : Int) (isLiveV : (Nat → Int)) (endOfV : (Nat → Int)) (knownV : Int) (timeOfV : (Nat → Int)) (pulseOfV : (Nat → Int)) (groupOfV : (Nat → Int)) (groupsV : Int) (shutV : Int) (firstOfV : (Nat → Int)) (agreesV : Int) (agreeSetV : Int) (missedV : Int) (bestAV : Int) (bestBV : Int) (bestAgreesV : Int) (bestMissedV : Int) (p1 : Int) (o : Int × (Nat → Int) × (Nat → Int) × Int × (Nat → Int) × (Nat → Int) × (Nat → Int) × Int × Int × (Nat → Int) × Int × Int × Int × Int × Int × Int × Int) (hf : fX4_many (zk_M lagV deadV mannerV settingV leastOfV mostOfV keptV planeOfV momentOfV stripOfV lateV isOverV isLiveV endOfV knownV timeOfV pulseOfV groupOfV groupsV shutV firstOfV agreesV agreeSetV missedV bestAV bestBV bestAgreesV bestMissedV) p1 = some o) : Met l yX4_many (zW yX4_many cX4_many 2 (some .int)) rmX4_many (va_Pc [.ref (h 0), .int (zI p1)] (zPre D cI cZ ((wM h cI cZ lagV deadV mannerV settingV leastOfV mostOfV keptV planeOfV momentOfV stripOfV lateV isOverV isLiveV endOfV knownV timeOfV pulseOfV groupOfV groupsV shutV firstOfV agreesV agreeSetV missedV bestAV bestBV bestAgreesV bestMissedV)) sz)) (va_Qi (fun r' (_ : Unit) => r' = zI o.1) (fun _ t => va_P D vwCl ((wM h cI cZ lagV deadV mannerV settingV leastOfV mostOfV keptV planeOfV momentOfV stripOfV lateV isOverV o.2.1 o.2.2.1 o.2.2.2.1 o.2.2.2.2.1 o.2.2.2.2.2.1 o.2.2.2.2.2.2.1 o.2.2.2.2.2.2.2.1 o.2.2.2.2.2.2.2.2.1 o.2.2.2.2.2.2.2.2.2.1 o.2.2.2.2.2.2.2.2.2.2.1 o.2.2.2.2.2.2.2.2.2.2.2.1 o.2.2.2.2.2.2.2.2.2.2.2.2.1 o.2.2.2.2.2.2.2.2.2.2.2.2.2.1 o.2.2.2.2.2.2.2.2.2.2.2.2.2.2.1 o.2.2.2.2.2.2.2.2.2.2.2.2.2.2.2.1 o.2.2.2.2.2.2.2.2.2.2.2.2.2.2.2.2)) t.heap) (va_A ((wM h cI cZ lagV deadV mannerV settingV leastOfV mostOfV keptV planeOfV momentOfV stripOfV lateV isOverV isLiveV endOfV knownV timeOfV pulseOfV groupOfV groupsV shutV firstOfV agreesV agreeSetV missedV bestAV bestBV bestAgreesV bestMissedV)) sz)) 0 0 (va_A ((wM h cI cZ lagV deadV mannerV settingV leastOfV mostOfV keptV planeOfV momentOfV stripOfV lateV isOverV isLiveV endOfV knownV timeOfV pulseOfV groupOfV groupsV shutV firstOfV agreesV agreeSetV missedV bestAV bestBV bestAgreesV bestMissedV)) sz) := by
  unfold fX4_many at hf
  refine z_enter_i (own := RX4) (by decide +kernel) rfl (Nat.le_of_ble_eq_true rfl) ?_
  intro p e s m args below meth c A Q C0 hP hD hS hret ls hl
  have hl : lv_has ls 2 [(0, .ref (h 0)), (1, .int (zI p1))] := hl
  refine z_aload_n C0 dX4_many_0 rfl (lv_at hl 0 rfl) ?_
  refine z_iconst C0 dX4_many_1 ?_
  refine z_iconst C0 dX4_many_2 ?_
  obtain ⟨r1, hc2, hf⟩ := zbind hf
  refine z_callFv (rest := []) C0 hP (zD hD rfl) hS (zmX4_findGroups l D cI cZ h _ lagV deadV mannerV settingV leastOfV mostOfV keptV planeOfV momentOfV stripOfV lateV isOverV isLiveV endOfV knownV timeOfV pulseOfV groupOfV groupsV shutV firstOfV agreesV agreeSetV missedV bestAV bestBV bestAgreesV bestMissedV 0 0 r1 hc2) (zkX4_120 ⟨by decide, by decide⟩ C0.2.2.2.2.1) 4 rfl rfl rfl rfl hl.1 (Nat.le_of_ble_eq_true rfl) dX4_many_3 ⟨Nat.zero_le _, Nat.zero_le _⟩ (fun H locs hP hS => ?_)
  have hP : va_P D vwCl ((wM h cI cZ lagV deadV mannerV settingV leastOfV mostOfV keptV planeOfV momentOfV stripOfV lateV isOverV r1.1 r1.2.1 r1.2.2.1 r1.2.2.2.1 r1.2.2.2.2.1 r1.2.2.2.2.2.1 r1.2.2.2.2.2.2.1 r1.2.2.2.2.2.2.2.1 r1.2.2.2.2.2.2.2.2 agreesV agreeSetV missedV bestAV bestBV bestAgreesV bestMissedV)) H := hP
  refine z_iload_n C0 dX4_many_6 rfl (lv_at hl 1 rfl) ?_
  by_cases c3 : zE p1 0
  · have hf := zif_pos hf c3
    refine z_tabIn C0 c3 72 dX4_many_7 (by decide +kernel) (by decide +kernel) rfl (by decide) ?_
    refine z_aload_n C0 dX4_many_72 rfl (lv_at hl 0 rfl) ?_
    refine zgX4_60 C0 hP 0 rfl (.int (zI keptV)) rfl dX4_many_73 ?_
    refine z_aload_n C0 dX4_many_76 rfl (lv_at hl 0 rfl) ?_
    refine zgX4_80 C0 hP 0 rfl (.int (zI lateV)) rfl dX4_many_77 ?_
    refine z_iadd C0 dX4_many_80 ?_
    cases hf
    exact hret hP hS dX4_many_81
  · have hf := zif_neg hf c3
    by_cases c4 : zE p1 1
    · have hf := zif_pos hf c4
      refine z_tabIn C0 c4 82 dX4_many_7 (by decide +kernel) (by decide +kernel) rfl (by decide) ?_
      refine z_aload_n C0 dX4_many_82 rfl (lv_at hl 0 rfl) ?_
      refine zgX4_80 C0 hP 0 rfl (.int (zI lateV)) rfl dX4_many_83 ?_
      cases hf
      exact hret hP hS dX4_many_86
    · have hf := zif_neg hf c4
      by_cases c5 : zE p1 2
      · have hf := zif_pos hf c5
        refine z_tabIn C0 c5 87 dX4_many_7 (by decide +kernel) (by decide +kernel) rfl (by decide) ?_
        refine z_aload_n C0 dX4_many_87 rfl (lv_at hl 0 rfl) ?_
        refine zgX4_60 C0 hP 0 rfl (.int (zI keptV)) rfl dX4_many_88 ?_
        cases hf
        exact hret hP hS dX4_many_91
      · have hf := zif_neg hf c5
        by_cases c6 : zE p1 3
        · have hf := zif_pos hf c6
          refine z_tabIn C0 c6 92 dX4_many_7 (by decide +kernel) (by decide +kernel) rfl (by decide) ?_
          refine z_aload_n C0 dX4_many_92 rfl (lv_at hl 0 rfl) ?_
          obtain ⟨r7, hc8, hf⟩ := zbind hf
          refine z_callFi (rest := []) C0 hP (zD hD rfl) hS (zmX4_settled l D cI cZ h _ lagV deadV mannerV settingV leastOfV mostOfV keptV planeOfV momentOfV stripOfV lateV isOverV r1.1 r1.2.1 r1.2.2.1 r1.2.2.2.1 r1.2.2.2.2.1 r1.2.2.2.2.2.1 r1.2.2.2.2.2.2.1 r1.2.2.2.2.2.2.2.1 r1.2.2.2.2.2.2.2.2 agreesV agreeSetV missedV bestAV bestBV bestAgreesV bestMissedV r7 hc8) (zkX4_87 ⟨by decide, by decide⟩ C0.2.2.2.2.1) 4 rfl rfl rfl rfl hl.1 (Nat.le_of_ble_eq_true rfl) dX4_many_93 ⟨Nat.zero_le _, Nat.zero_le _⟩ (fun H locs hP hS => ?_)
          have hP : va_P D vwCl ((wM h cI cZ lagV deadV mannerV settingV leastOfV mostOfV keptV planeOfV momentOfV stripOfV lateV isOverV r1.1 r1.2.1 r1.2.2.1 r1.2.2.2.1 r1.2.2.2.2.1 r1.2.2.2.2.2.1 r1.2.2.2.2.2.2.1 r1.2.2.2.2.2.2.2.1 r1.2.2.2.2.2.2.2.2 agreesV agreeSetV missedV bestAV bestBV bestAgreesV bestMissedV)) H := hP
          cases hf
          exact hret hP hS dX4_many_96
        · have hf := zif_neg hf c6
          by_cases c9 : zE p1 4
          · have hf := zif_pos hf c9
            refine z_tabIn C0 c9 97 dX4_many_7 (by decide +kernel) (by decide +kernel) rfl (by decide) ?_
            refine z_aload_n C0 dX4_many_97 rfl (lv_at hl 0 rfl) ?_
            refine z_bipush C0 dX4_many_98 (by decide +kernel) ?_
            refine z_iconst C0 dX4_many_100 ?_
            obtain ⟨r10, hc11, hf⟩ := zbind hf
            refine z_callFi (rest := []) C0 hP (zD hD rfl) hS (zmX4_manyLive l D cI cZ h _ lagV deadV mannerV settingV leastOfV mostOfV keptV planeOfV momentOfV stripOfV lateV isOverV r1.1 r1.2.1 r1.2.2.1 r1.2.2.2.1 r1.2.2.2.2.1 r1.2.2.2.2.2.1 r1.2.2.2.2.2.2.1 r1.2.2.2.2.2.2.2.1 r1.2.2.2.2.2.2.2.2 agreesV agreeSetV missedV bestAV bestBV bestAgreesV bestMissedV (-9) 1 r10 hc11) (zkX4_97 ⟨by decide, by decide⟩ C0.2.2.2.2.1) 4 rfl rfl rfl rfl hl.1 (Nat.le_of_ble_eq_true rfl) dX4_many_101 ⟨Nat.zero_le _, Nat.zero_le _⟩ (fun H locs hP hS => ?_)
            have hP : va_P D vwCl ((wM h cI cZ lagV deadV mannerV settingV leastOfV mostOfV keptV planeOfV momentOfV stripOfV lateV isOverV r10.2.1 r10.2.2 r1.2.2.1 r1.2.2.2.1 r1.2.2.2.2.1 r1.2.2.2.2.2.1 r1.2.2.2.2.2.2.1 r1.2.2.2.2.2.2.2.1 r1.2.2.2.2.2.2.2.2 agreesV agreeSetV missedV bestAV bestBV bestAgreesV bestMissedV)) H := hP
            cases hf
            exact hret hP hS dX4_many_104
          · have hf := zif_neg hf c9
            by_cases c12 : zE p1 5
            · have hf := zif_pos hf c12
              refine z_tabIn C0 c12 105 dX4_many_7 (by decide +kernel) (by decide +kernel) rfl (by decide) ?_
              refine z_aload_n C0 dX4_many_105 rfl (lv_at hl 0 rfl) ?_
              refine z_bipush C0 dX4_many_106 (by decide +kernel) ?_
              refine z_iconst C0 dX4_many_108 ?_
              obtain ⟨r13, hc14, hf⟩ := zbind hf
              refine z_callFi (rest := []) C0 hP (zD hD rfl) hS (zmX4_manyLive l D cI cZ h _ lagV deadV mannerV settingV leastOfV mostOfV keptV planeOfV momentOfV stripOfV lateV isOverV r1.1 r1.2.1 r1.2.2.1 r1.2.2.2.1 r1.2.2.2.2.1 r1.2.2.2.2.2.1 r1.2.2.2.2.2.2.1 r1.2.2.2.2.2.2.2.1 r1.2.2.2.2.2.2.2.2 agreesV agreeSetV missedV bestAV bestBV bestAgreesV bestMissedV (-9) 0 r13 hc14) (zkX4_97 ⟨by decide, by decide⟩ C0.2.2.2.2.1) 4 rfl rfl rfl rfl hl.1 (Nat.le_of_ble_eq_true rfl) dX4_many_109 ⟨Nat.zero_le _, Nat.zero_le _⟩ (fun H locs hP hS => ?_)
              have hP : va_P D vwCl ((wM h cI cZ lagV deadV mannerV settingV leastOfV mostOfV keptV planeOfV momentOfV stripOfV lateV isOverV r13.2.1 r13.2.2 r1.2.2.1 r1.2.2.2.1 r1.2.2.2.2.1 r1.2.2.2.2.2.1 r1.2.2.2.2.2.2.1 r1.2.2.2.2.2.2.2.1 r1.2.2.2.2.2.2.2.2 agreesV agreeSetV missedV bestAV bestBV bestAgreesV bestMissedV)) H := hP
              cases hf
              exact hret hP hS dX4_many_112
            · have hf := zif_neg hf c12
              by_cases c15 : zE p1 6
              · have hf := zif_pos hf c15
                refine z_tabIn C0 c15 113 dX4_many_7 (by decide +kernel) (by decide +kernel) rfl (by decide) ?_
                refine z_aload_n C0 dX4_many_113 rfl (lv_at hl 0 rfl) ?_
                refine zgX4_101 C0 hP 0 rfl (.int (zI r1.2.2.1)) rfl dX4_many_114 ?_
                cases hf
                exact hret hP hS dX4_many_117
              · have hf := zif_neg hf c15
                by_cases c16 : zE p1 7
                · have hf := zif_pos hf c16
                  refine z_tabIn C0 c16 118 dX4_many_7 (by decide +kernel) (by decide +kernel) rfl (by decide) ?_
                  refine z_aload_n C0 dX4_many_118 rfl (lv_at hl 0 rfl) ?_
                  refine zgX4_117 C0 hP 0 rfl (.int (zI r1.2.2.2.2.2.2.2.1)) rfl dX4_many_119 ?_
                  cases hf
                  exact hret hP hS dX4_many_122
                · have hf := zif_neg hf c16
                  by_cases c17 : zE p1 8
                  · have hf := zif_pos hf c17
                    refine z_tabIn C0 c17 123 dX4_many_7 (by decide +kernel) (by decide +kernel) rfl (by decide) ?_
                    refine z_aload_n C0 dX4_many_123 rfl (lv_at hl 0 rfl) ?_
                    refine z_aload_n C0 dX4_many_124 rfl (lv_at hl 0 rfl) ?_
                    refine zgX4_117 C0 hP 0 rfl (.int (zI r1.2.2.2.2.2.2.2.1)) rfl dX4_many_125 ?_
                    obtain ⟨r18, hc19, hf⟩ := zbind hf
                    refine z_callFi (rest := []) C0 hP (zD hD rfl) hS (zmX4_coincidences l D cI cZ h _ lagV deadV mannerV settingV leastOfV mostOfV keptV planeOfV momentOfV stripOfV lateV isOverV r1.1 r1.2.1 r1.2.2.1 r1.2.2.2.1 r1.2.2.2.2.1 r1.2.2.2.2.2.1 r1.2.2.2.2.2.2.1 r1.2.2.2.2.2.2.2.1 r1.2.2.2.2.2.2.2.2 agreesV agreeSetV missedV bestAV bestBV bestAgreesV bestMissedV r1.2.2.2.2.2.2.2.1 r18 hc19) (zkX4_139 ⟨by decide, by decide⟩ C0.2.2.2.2.1) 4 rfl rfl rfl rfl hl.1 (Nat.le_of_ble_eq_true rfl) dX4_many_128 ⟨Nat.zero_le _, Nat.zero_le _⟩ (fun H locs hP hS => ?_)
                    have hP : va_P D vwCl ((wM h cI cZ lagV deadV mannerV settingV leastOfV mostOfV keptV planeOfV momentOfV stripOfV lateV isOverV r1.1 r1.2.1 r1.2.2.1 r1.2.2.2.1 r1.2.2.2.2.1 r1.2.2.2.2.2.1 r1.2.2.2.2.2.2.1 r1.2.2.2.2.2.2.2.1 r1.2.2.2.2.2.2.2.2 agreesV agreeSetV missedV bestAV bestBV bestAgreesV bestMissedV)) H := hP
                    cases hf
                    exact hret hP hS dX4_many_131
                  · have hf := zif_neg hf c17
                    by_cases c20 : zE p1 9
                    · have hf := zif_pos hf c20
                      refine z_tabIn C0 c20 132 dX4_many_7 (by decide +kernel) (by decide +kernel) rfl (by decide) ?_
                      refine z_aload_n C0 dX4_many_132 rfl (lv_at hl 0 rfl) ?_
                      obtain ⟨r21, hc22, hf⟩ := zbind hf
                      refine z_callFi (rest := []) C0 hP (zD hD rfl) hS (zmX4_inGroups l D cI cZ h _ lagV deadV mannerV settingV leastOfV mostOfV keptV planeOfV momentOfV stripOfV lateV isOverV r1.1 r1.2.1 r1.2.2.1 r1.2.2.2.1 r1.2.2.2.2.1 r1.2.2.2.2.2.1 r1.2.2.2.2.2.2.1 r1.2.2.2.2.2.2.2.1 r1.2.2.2.2.2.2.2.2 agreesV agreeSetV missedV bestAV bestBV bestAgreesV bestMissedV r21 hc22) (zkX4_188 ⟨by decide, by decide⟩ C0.2.2.2.2.1) 4 rfl rfl rfl rfl hl.1 (Nat.le_of_ble_eq_true rfl) dX4_many_133 ⟨Nat.zero_le _, Nat.zero_le _⟩ (fun H locs hP hS => ?_)
                      have hP : va_P D vwCl ((wM h cI cZ lagV deadV mannerV settingV leastOfV mostOfV keptV planeOfV momentOfV stripOfV lateV isOverV r1.1 r1.2.1 r1.2.2.1 r1.2.2.2.1 r1.2.2.2.2.1 r1.2.2.2.2.2.1 r1.2.2.2.2.2.2.1 r1.2.2.2.2.2.2.2.1 r1.2.2.2.2.2.2.2.2 agreesV agreeSetV missedV bestAV bestBV bestAgreesV bestMissedV)) H := hP
                      cases hf
                      exact hret hP hS dX4_many_136
                    · have hf := zif_neg hf c20
                      by_cases c23 : zE p1 10
                      · have hf := zif_pos hf c23
                        refine z_tabIn C0 c23 137 dX4_many_7 (by decide +kernel) (by decide +kernel) rfl (by decide) ?_
                        refine z_aload_n C0 dX4_many_137 rfl (lv_at hl 0 rfl) ?_
                        obtain ⟨r24, hc25, hf⟩ := zbind hf
                        refine z_callFi (rest := []) C0 hP (zD hD rfl) hS (zmX4_tracks l D cI cZ h _ lagV deadV mannerV settingV leastOfV mostOfV keptV planeOfV momentOfV stripOfV lateV isOverV r1.1 r1.2.1 r1.2.2.1 r1.2.2.2.1 r1.2.2.2.2.1 r1.2.2.2.2.2.1 r1.2.2.2.2.2.2.1 r1.2.2.2.2.2.2.2.1 r1.2.2.2.2.2.2.2.2 agreesV agreeSetV missedV bestAV bestBV bestAgreesV bestMissedV r24 hc25) (zkX4_191 ⟨by decide, by decide⟩ C0.2.2.2.2.1) 4 rfl rfl rfl rfl hl.1 (Nat.le_of_ble_eq_true rfl) dX4_many_138 ⟨Nat.zero_le _, Nat.zero_le _⟩ (fun H locs hP hS => ?_)
                        have hP : va_P D vwCl ((wM h cI cZ lagV deadV mannerV settingV leastOfV mostOfV keptV planeOfV momentOfV stripOfV lateV isOverV r1.1 r1.2.1 r1.2.2.1 r1.2.2.2.1 r1.2.2.2.2.1 r1.2.2.2.2.2.1 r1.2.2.2.2.2.2.1 r1.2.2.2.2.2.2.2.1 r1.2.2.2.2.2.2.2.2 r24.2.1 r24.2.2.1 r24.2.2.2.1 r24.2.2.2.2.1 r24.2.2.2.2.2.1 r24.2.2.2.2.2.2.1 r24.2.2.2.2.2.2.2)) H := hP
                        cases hf
                        exact hret hP hS dX4_many_141
                      · have hf := zif_neg hf c23
                        by_cases c26 : zE p1 11
                        · have hf := zif_pos hf c26
                          refine z_tabIn C0 c26 142 dX4_many_7 (by decide +kernel) (by decide +kernel) rfl (by decide) ?_
                          refine z_aload_n C0 dX4_many_142 rfl (lv_at hl 0 rfl) ?_
                          obtain ⟨r27, hc28, hf⟩ := zbind hf
                          refine z_callFi (rest := []) C0 hP (zD hD rfl) hS (zmX4_horizon l D cI cZ h _ lagV deadV mannerV settingV leastOfV mostOfV keptV planeOfV momentOfV stripOfV lateV isOverV r1.1 r1.2.1 r1.2.2.1 r1.2.2.2.1 r1.2.2.2.2.1 r1.2.2.2.2.2.1 r1.2.2.2.2.2.2.1 r1.2.2.2.2.2.2.2.1 r1.2.2.2.2.2.2.2.2 agreesV agreeSetV missedV bestAV bestBV bestAgreesV bestMissedV r27 hc28) (zkX4_76 ⟨by decide, by decide⟩ C0.2.2.2.2.1) 4 rfl rfl rfl rfl hl.1 (Nat.le_of_ble_eq_true rfl) dX4_many_143 ⟨Nat.zero_le _, Nat.zero_le _⟩ (fun H locs hP hS => ?_)
                          have hP : va_P D vwCl ((wM h cI cZ lagV deadV mannerV settingV leastOfV mostOfV keptV planeOfV momentOfV stripOfV lateV isOverV r1.1 r1.2.1 r1.2.2.1 r1.2.2.2.1 r1.2.2.2.2.1 r1.2.2.2.2.2.1 r1.2.2.2.2.2.2.1 r1.2.2.2.2.2.2.2.1 r1.2.2.2.2.2.2.2.2 agreesV agreeSetV missedV bestAV bestBV bestAgreesV bestMissedV)) H := hP
                          refine z_sipush C0 dX4_many_146 (by decide +kernel) ?_
                          refine z_iadd C0 dX4_many_149 ?_
                          cases hf
                          exact hret hP hS dX4_many_150
                        · have hf := zif_neg hf c26
                          by_cases c29 : zE p1 12
                          · have hf := zif_pos hf c29
                            refine z_tabIn C0 c29 151 dX4_many_7 (by decide +kernel) (by decide +kernel) rfl (by decide) ?_
                            refine z_aload_n C0 dX4_many_151 rfl (lv_at hl 0 rfl) ?_
                            obtain ⟨r30, hc31, hf⟩ := zbind hf
                            refine z_callFi (rest := []) C0 hP (zD hD rfl) hS (zmX4_edge l D cI cZ h _ lagV deadV mannerV settingV leastOfV mostOfV keptV planeOfV momentOfV stripOfV lateV isOverV r1.1 r1.2.1 r1.2.2.1 r1.2.2.2.1 r1.2.2.2.2.1 r1.2.2.2.2.2.1 r1.2.2.2.2.2.2.1 r1.2.2.2.2.2.2.2.1 r1.2.2.2.2.2.2.2.2 agreesV agreeSetV missedV bestAV bestBV bestAgreesV bestMissedV r30 hc31) (zkX4_107 ⟨by decide, by decide⟩ C0.2.2.2.2.1) 4 rfl rfl rfl rfl hl.1 (Nat.le_of_ble_eq_true rfl) dX4_many_152 ⟨Nat.zero_le _, Nat.zero_le _⟩ (fun H locs hP hS => ?_)
                            have hP : va_P D vwCl ((wM h cI cZ lagV deadV mannerV settingV leastOfV mostOfV keptV planeOfV momentOfV stripOfV lateV isOverV r1.1 r1.2.1 r1.2.2.1 r1.2.2.2.1 r1.2.2.2.2.1 r1.2.2.2.2.2.1 r1.2.2.2.2.2.2.1 r1.2.2.2.2.2.2.2.1 r1.2.2.2.2.2.2.2.2 agreesV agreeSetV missedV bestAV bestBV bestAgreesV bestMissedV)) H := hP
                            refine z_sipush C0 dX4_many_155 (by decide +kernel) ?_
                            refine z_iadd C0 dX4_many_158 ?_
                            cases hf
                            exact hret hP hS dX4_many_159
                          · have hf := zif_neg hf c29
                            refine z_tabOut C0 160 dX4_many_7 (zsw 12 (fun k hk => by rcases (show k = 0 ∨ k = 1 ∨ k = 2 ∨ k = 3 ∨ k = 4 ∨ k = 5 ∨ k = 6 ∨ k = 7 ∨ k = 8 ∨ k = 9 ∨ k = 10 ∨ k = 11 ∨ k = 12 by omega) with rfl | rfl | rfl | rfl | rfl | rfl | rfl | rfl | rfl | rfl | rfl | rfl | rfl <;> assumption)) (by decide) ?_
                            refine z_bipush C0 dX4_many_160 (by decide +kernel) ?_
                            cases hf
                            exact hret hP hS dX4_many_162
