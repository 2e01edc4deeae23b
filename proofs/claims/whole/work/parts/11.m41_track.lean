set_option maxHeartbeats 4000000 in
set_option maxRecDepth 100000 in
theorem zmX4_track (l : Launch) (D : va_G) (cI cZ : ClassId) (h : Nat → Nat) (sz : Nat) (lagV : (Nat → Int)) (deadV : (Nat → Int)) (mannerV : (Nat → Int)) (settingV : (Nat → Int)) (leastOfV : (Nat → Int)) (mostOfV : (Nat → Int)) (keptV : Int) (planeOfV : (Nat → Int)) (momentOfV : (Nat → Int)) (stripOfV : (Nat → Int)) (lateV : Int) (isOverV : Int) (isLiveV : (Nat → Int)) (endOfV : (Nat → Int)) (knownV : Int) (timeOfV : (Nat → Int)) (pulseOfV : (Nat → Int)) (groupOfV : (Nat → Int)) (groupsV : Int) (shutV : Int) (firstOfV : (Nat → Int)) (agreesV : Int) (agreeSetV : Int) (missedV : Int) (bestAV : Int) (bestBV : Int) (bestAgreesV : Int) (bestMissedV : Int) (p1 : Int) (p2 : Int) (o : Int × (Nat → Int) × (Nat → Int) × Int × (Nat → Int) × (Nat → Int) × (Nat → Int) × Int × Int × (Nat → Int) × Int × Int × Int × Int × Int × Int × Int) (hf : fX4_track (zk_M lagV deadV mannerV settingV leastOfV mostOfV keptV planeOfV momentOfV stripOfV lateV isOverV isLiveV endOfV knownV timeOfV pulseOfV groupOfV groupsV shutV firstOfV agreesV agreeSetV missedV bestAV bestBV bestAgreesV bestMissedV) p1 p2 = some o) : Met l yX4_track (zW yX4_track cX4_track 3 (some .int)) rmX4_track (va_Pc [.ref (h 0), .int (zI p1), .int (zI p2)] (zPre D cI cZ ((wM h cI cZ lagV deadV mannerV settingV leastOfV mostOfV keptV planeOfV momentOfV stripOfV lateV isOverV isLiveV endOfV knownV timeOfV pulseOfV groupOfV groupsV shutV firstOfV agreesV agreeSetV missedV bestAV bestBV bestAgreesV bestMissedV)) sz)) (va_Qi (fun r' (_ : Unit) => r' = zI o.1) (fun _ t => va_P D vwCl ((wM h cI cZ lagV deadV mannerV settingV leastOfV mostOfV keptV planeOfV momentOfV stripOfV lateV isOverV o.2.1 o.2.2.1 o.2.2.2.1 o.2.2.2.2.1 o.2.2.2.2.2.1 o.2.2.2.2.2.2.1 o.2.2.2.2.2.2.2.1 o.2.2.2.2.2.2.2.2.1 o.2.2.2.2.2.2.2.2.2.1 o.2.2.2.2.2.2.2.2.2.2.1 o.2.2.2.2.2.2.2.2.2.2.2.1 o.2.2.2.2.2.2.2.2.2.2.2.2.1 o.2.2.2.2.2.2.2.2.2.2.2.2.2.1 o.2.2.2.2.2.2.2.2.2.2.2.2.2.2.1 o.2.2.2.2.2.2.2.2.2.2.2.2.2.2.2.1 o.2.2.2.2.2.2.2.2.2.2.2.2.2.2.2.2)) t.heap) (va_A ((wM h cI cZ lagV deadV mannerV settingV leastOfV mostOfV keptV planeOfV momentOfV stripOfV lateV isOverV isLiveV endOfV knownV timeOfV pulseOfV groupOfV groupsV shutV firstOfV agreesV agreeSetV missedV bestAV bestBV bestAgreesV bestMissedV)) sz)) 0 0 (va_A ((wM h cI cZ lagV deadV mannerV settingV leastOfV mostOfV keptV planeOfV momentOfV stripOfV lateV isOverV isLiveV endOfV knownV timeOfV pulseOfV groupOfV groupsV shutV firstOfV agreesV agreeSetV missedV bestAV bestBV bestAgreesV bestMissedV)) sz) := by
  unfold fX4_track at hf
  refine z_enter_i (own := RX4) (by decide +kernel) rfl (Nat.le_of_ble_eq_true rfl) ?_
  intro p e s m args below meth c A Q C0 hP hD hS hret ls hl
  have hl : lv_has ls 3 [(0, .ref (h 0)), (1, .int (zI p1)), (2, .int (zI p2))] := hl
  refine z_aload_n C0 dX4_track_0 rfl (lv_at hl 0 rfl) ?_
  refine z_iload_n C0 dX4_track_1 rfl (lv_at hl 1 rfl) ?_
  obtain ⟨r1, hc2, hf⟩ := zbind hf
  refine z_callFi (rest := []) C0 hP (zD hD rfl) hS (zmX4_isGroup l D cI cZ h _ lagV deadV mannerV settingV leastOfV mostOfV keptV planeOfV momentOfV stripOfV lateV isOverV isLiveV endOfV knownV timeOfV pulseOfV groupOfV groupsV shutV firstOfV agreesV agreeSetV missedV bestAV bestBV bestAgreesV bestMissedV p1 r1 hc2) (zkX4_123 ⟨by decide, by decide⟩ C0.2.2.2.2.1) 4 rfl rfl rfl rfl hl.1 (Nat.le_of_ble_eq_true rfl) dX4_track_2 ⟨Nat.zero_le _, Nat.zero_le _⟩ (fun H locs hP hS => ?_)
  have hP : va_P D vwCl ((wM h cI cZ lagV deadV mannerV settingV leastOfV mostOfV keptV planeOfV momentOfV stripOfV lateV isOverV r1.2.1 r1.2.2.1 r1.2.2.2.1 r1.2.2.2.2.1 r1.2.2.2.2.2.1 r1.2.2.2.2.2.2.1 r1.2.2.2.2.2.2.2.1 r1.2.2.2.2.2.2.2.2.1 r1.2.2.2.2.2.2.2.2.2 agreesV agreeSetV missedV bestAV bestBV bestAgreesV bestMissedV)) H := hP
  refine z_ifne C0 10 dX4_track_5 (by decide) (fun c15 => ?_) (fun c15 => ?_)
  · have hf := zif_neg hf c15
    refine z_iload_n C0 dX4_track_10 rfl (lv_at hl 2 rfl) ?_
    refine z_iconst C0 dX4_track_11 ?_
    refine z_iconst C0 dX4_track_12 ?_
    obtain ⟨r3, hc4, hf⟩ := zbind hf
    refine z_callSi (rest := []) C0 hP (zD hD rfl) hS [] rfl (zmX4_within l D cI cZ _ p2 0 4 r3 hc4) (zkX4_56 ⟨by decide, by decide⟩ C0.2.2.2.2.1) rfl rfl rfl hl.1 (Nat.le_of_ble_eq_true rfl) dX4_track_13 ⟨Nat.zero_le _, Nat.zero_le _⟩ rfl (Nat.le_of_ble_eq_true rfl) (fun H locs hP hS => ?_)
    have hP : va_P D vwCl ((wM h cI cZ lagV deadV mannerV settingV leastOfV mostOfV keptV planeOfV momentOfV stripOfV lateV isOverV r1.2.1 r1.2.2.1 r1.2.2.2.1 r1.2.2.2.2.1 r1.2.2.2.2.2.1 r1.2.2.2.2.2.2.1 r1.2.2.2.2.2.2.2.1 r1.2.2.2.2.2.2.2.2.1 r1.2.2.2.2.2.2.2.2.2 agreesV agreeSetV missedV bestAV bestBV bestAgreesV bestMissedV)) H := hP
    refine z_ifne C0 22 dX4_track_16 (by decide) (fun c14 => ?_) (fun c14 => ?_)
    · have hf := zif_neg hf c14
      refine z_aload_n C0 dX4_track_22 rfl (lv_at hl 0 rfl) ?_
      refine z_iload_n C0 dX4_track_23 rfl (lv_at hl 1 rfl) ?_
      obtain ⟨r5, hc6, hf⟩ := zbind hf
      refine z_callFi (rest := []) C0 hP (zD hD rfl) hS (zmX4_findTrack l D cI cZ h _ lagV deadV mannerV settingV leastOfV mostOfV keptV planeOfV momentOfV stripOfV lateV isOverV r1.2.1 r1.2.2.1 r1.2.2.2.1 r1.2.2.2.2.1 r1.2.2.2.2.2.1 r1.2.2.2.2.2.2.1 r1.2.2.2.2.2.2.2.1 r1.2.2.2.2.2.2.2.2.1 r1.2.2.2.2.2.2.2.2.2 agreesV agreeSetV missedV bestAV bestBV bestAgreesV bestMissedV p1 r5 hc6) (zkX4_185 ⟨by decide, by decide⟩ C0.2.2.2.2.1) 4 rfl rfl rfl rfl hl.1 (Nat.le_of_ble_eq_true rfl) dX4_track_24 ⟨Nat.zero_le _, Nat.zero_le _⟩ (fun H locs hP hS => ?_)
      have hP : va_P D vwCl ((wM h cI cZ lagV deadV mannerV settingV leastOfV mostOfV keptV planeOfV momentOfV stripOfV lateV isOverV r1.2.1 r1.2.2.1 r1.2.2.2.1 r1.2.2.2.2.1 r1.2.2.2.2.2.1 r1.2.2.2.2.2.2.1 r1.2.2.2.2.2.2.2.1 r1.2.2.2.2.2.2.2.2.1 r1.2.2.2.2.2.2.2.2.2 r5.2.1 r5.2.2.1 r5.2.2.2.1 r5.2.2.2.2.1 r5.2.2.2.2.2.1 r5.2.2.2.2.2.2.1 r5.2.2.2.2.2.2.2)) H := hP
      refine z_ifne C0 33 dX4_track_27 (by decide) (fun c13 => ?_) (fun c13 => ?_)
      · have hf := zif_neg hf c13
        refine z_aload_n C0 dX4_track_33 rfl (lv_at hl 0 rfl) ?_
        refine z_iload_n C0 dX4_track_34 rfl (lv_at hl 1 rfl) ?_
        refine z_aload_n C0 dX4_track_35 rfl (lv_at hl 0 rfl) ?_
        refine zgX4_182 C0 hP 0 rfl (.int (zI r5.2.2.2.2.1)) rfl dX4_track_36 ?_
        refine z_aload_n C0 dX4_track_39 rfl (lv_at hl 0 rfl) ?_
        refine zgX4_172 C0 hP 0 rfl (.int (zI r5.2.2.2.2.2.1)) rfl dX4_track_40 ?_
        obtain ⟨r7, hc8, hf⟩ := zbind hf
        refine z_callFv (rest := []) C0 hP (zD hD rfl) hS (zmX4_tries l D cI cZ h _ lagV deadV mannerV settingV leastOfV mostOfV keptV planeOfV momentOfV stripOfV lateV isOverV r1.2.1 r1.2.2.1 r1.2.2.2.1 r1.2.2.2.2.1 r1.2.2.2.2.2.1 r1.2.2.2.2.2.2.1 r1.2.2.2.2.2.2.2.1 r1.2.2.2.2.2.2.2.2.1 r1.2.2.2.2.2.2.2.2.2 r5.2.1 r5.2.2.1 r5.2.2.2.1 r5.2.2.2.2.1 r5.2.2.2.2.2.1 r5.2.2.2.2.2.2.1 r5.2.2.2.2.2.2.2 p1 r5.2.2.2.2.1 r5.2.2.2.2.2.1 r7 hc8) (zkX4_175 ⟨by decide, by decide⟩ C0.2.2.2.2.1) 4 rfl rfl rfl rfl hl.1 (Nat.le_of_ble_eq_true rfl) dX4_track_43 ⟨Nat.zero_le _, Nat.zero_le _⟩ (fun H locs hP hS => ?_)
        have hP : va_P D vwCl ((wM h cI cZ lagV deadV mannerV settingV leastOfV mostOfV keptV planeOfV momentOfV stripOfV lateV isOverV r1.2.1 r1.2.2.1 r1.2.2.2.1 r1.2.2.2.2.1 r1.2.2.2.2.2.1 r1.2.2.2.2.2.2.1 r1.2.2.2.2.2.2.2.1 r1.2.2.2.2.2.2.2.2.1 r1.2.2.2.2.2.2.2.2.2 r7.1 r7.2.1 r7.2.2 r5.2.2.2.2.1 r5.2.2.2.2.2.1 r5.2.2.2.2.2.2.1 r5.2.2.2.2.2.2.2)) H := hP
        refine z_iload_n C0 dX4_track_46 rfl (lv_at hl 2 rfl) ?_
        by_cases c9 : zE p2 0
        · have hf := zif_pos hf c9
          refine z_tabIn C0 c9 76 dX4_track_47 (by decide +kernel) (by decide +kernel) rfl (by decide) ?_
          refine z_aload_n C0 dX4_track_76 rfl (lv_at hl 0 rfl) ?_
          refine zgX4_182 C0 hP 0 rfl (.int (zI r5.2.2.2.2.1)) rfl dX4_track_77 ?_
          cases hf
          exact hret hP hS dX4_track_80
        · have hf := zif_neg hf c9
          by_cases c10 : zE p2 1
          · have hf := zif_pos hf c10
            refine z_tabIn C0 c10 81 dX4_track_47 (by decide +kernel) (by decide +kernel) rfl (by decide) ?_
            refine z_aload_n C0 dX4_track_81 rfl (lv_at hl 0 rfl) ?_
            refine zgX4_172 C0 hP 0 rfl (.int (zI r5.2.2.2.2.2.1)) rfl dX4_track_82 ?_
            refine z_bipush C0 dX4_track_85 (by decide +kernel) ?_
            refine z_iadd C0 dX4_track_87 ?_
            cases hf
            exact hret hP hS dX4_track_88
          · have hf := zif_neg hf c10
            by_cases c11 : zE p2 2
            · have hf := zif_pos hf c11
              refine z_tabIn C0 c11 89 dX4_track_47 (by decide +kernel) (by decide +kernel) rfl (by decide) ?_
              refine z_aload_n C0 dX4_track_89 rfl (lv_at hl 0 rfl) ?_
              refine zgX4_154 C0 hP 0 rfl (.int (zI r7.1)) rfl dX4_track_90 ?_
              cases hf
              exact hret hP hS dX4_track_93
            · have hf := zif_neg hf c11
              by_cases c12 : zE p2 3
              · have hf := zif_pos hf c12
                refine z_tabIn C0 c12 94 dX4_track_47 (by decide +kernel) (by decide +kernel) rfl (by decide) ?_
                refine z_aload_n C0 dX4_track_94 rfl (lv_at hl 0 rfl) ?_
                refine zgX4_157 C0 hP 0 rfl (.int (zI r7.2.1)) rfl dX4_track_95 ?_
                cases hf
                exact hret hP hS dX4_track_98
              · have hf := zif_neg hf c12
                refine z_tabOut C0 99 dX4_track_47 (zsw 3 (fun k hk => by rcases (show k = 0 ∨ k = 1 ∨ k = 2 ∨ k = 3 by omega) with rfl | rfl | rfl | rfl <;> assumption)) (by decide) ?_
                refine z_aload_n C0 dX4_track_99 rfl (lv_at hl 0 rfl) ?_
                refine zgX4_160 C0 hP 0 rfl (.int (zI r7.2.2)) rfl dX4_track_100 ?_
                cases hf
                exact hret hP hS dX4_track_103
      · have hf := zif_pos hf c13
        refine z_bipush C0 dX4_track_30 (by decide +kernel) ?_
        cases hf
        exact hret hP hS dX4_track_32
    · have hf := zif_pos hf c14
      refine z_bipush C0 dX4_track_19 (by decide +kernel) ?_
      cases hf
      exact hret hP hS dX4_track_21
  · have hf := zif_pos hf c15
    refine z_iconst C0 dX4_track_8 ?_
    cases hf
    exact hret hP hS dX4_track_9
