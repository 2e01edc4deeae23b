set_option maxHeartbeats 4000000 in
set_option maxRecDepth 100000 in
theorem zmX4_ofPlane (l : Launch) (D : va_G) (cI cZ : ClassId) (h : Nat → Nat) (sz : Nat) (lagV : (Nat → Int)) (deadV : (Nat → Int)) (mannerV : (Nat → Int)) (settingV : (Nat → Int)) (leastOfV : (Nat → Int)) (mostOfV : (Nat → Int)) (keptV : Int) (planeOfV : (Nat → Int)) (momentOfV : (Nat → Int)) (stripOfV : (Nat → Int)) (lateV : Int) (isOverV : Int) (isLiveV : (Nat → Int)) (endOfV : (Nat → Int)) (knownV : Int) (timeOfV : (Nat → Int)) (pulseOfV : (Nat → Int)) (groupOfV : (Nat → Int)) (groupsV : Int) (shutV : Int) (firstOfV : (Nat → Int)) (agreesV : Int) (agreeSetV : Int) (missedV : Int) (bestAV : Int) (bestBV : Int) (bestAgreesV : Int) (bestMissedV : Int) (p1 : Int) (p2 : Int) (o : Int × (Nat → Int) × (Nat → Int)) (hf : fX4_ofPlane (zk_M lagV deadV mannerV settingV leastOfV mostOfV keptV planeOfV momentOfV stripOfV lateV isOverV isLiveV endOfV knownV timeOfV pulseOfV groupOfV groupsV shutV firstOfV agreesV agreeSetV missedV bestAV bestBV bestAgreesV bestMissedV) p1 p2 = some o) : Met l yX4_ofPlane (zW yX4_ofPlane cX4_ofPlane 3 (some .int)) rmX4_ofPlane (va_Pc [.ref (h 0), .int (zI p1), .int (zI p2)] (zPre D cI cZ ((wM h cI cZ lagV deadV mannerV settingV leastOfV mostOfV keptV planeOfV momentOfV stripOfV lateV isOverV isLiveV endOfV knownV timeOfV pulseOfV groupOfV groupsV shutV firstOfV agreesV agreeSetV missedV bestAV bestBV bestAgreesV bestMissedV)) sz)) (va_Qi (fun r' (_ : Unit) => r' = zI o.1) (fun _ t => va_P D vwCl ((wM h cI cZ lagV deadV mannerV settingV leastOfV mostOfV keptV planeOfV momentOfV stripOfV lateV isOverV o.2.1 o.2.2 knownV timeOfV pulseOfV groupOfV groupsV shutV firstOfV agreesV agreeSetV missedV bestAV bestBV bestAgreesV bestMissedV)) t.heap) (va_A ((wM h cI cZ lagV deadV mannerV settingV leastOfV mostOfV keptV planeOfV momentOfV stripOfV lateV isOverV isLiveV endOfV knownV timeOfV pulseOfV groupOfV groupsV shutV firstOfV agreesV agreeSetV missedV bestAV bestBV bestAgreesV bestMissedV)) sz)) 0 0 (va_A ((wM h cI cZ lagV deadV mannerV settingV leastOfV mostOfV keptV planeOfV momentOfV stripOfV lateV isOverV isLiveV endOfV knownV timeOfV pulseOfV groupOfV groupsV shutV firstOfV agreesV agreeSetV missedV bestAV bestBV bestAgreesV bestMissedV)) sz) := by
  unfold fX4_ofPlane at hf
  refine z_enter_i (own := RX4) (by decide +kernel) rfl (Nat.le_of_ble_eq_true rfl) ?_
  intro p e s m args below meth c A Q C0 hP hD hS hret ls hl
  have hl : lv_has ls 3 [(0, .ref (h 0)), (1, .int (zI p1)), (2, .int (zI p2))] := hl
  refine z_iload_n C0 dX4_ofPlane_0 rfl (lv_at hl 1 rfl) ?_
  obtain ⟨r1, hc2, hf⟩ := zbind hf
  refine z_callSi (rest := []) C0 hP (zD hD rfl) hS [] rfl (zmX4_isPlane l D cI cZ _ p1 r1 hc2) (zkX4_68 ⟨by decide, by decide⟩ C0.2.2.2.2.1) rfl rfl rfl hl.1 (Nat.le_of_ble_eq_true rfl) dX4_ofPlane_1 ⟨Nat.zero_le _, Nat.zero_le _⟩ rfl (Nat.le_of_ble_eq_true rfl) (fun H locs hP hS => ?_)
  have hP : va_P D vwCl ((wM h cI cZ lagV deadV mannerV settingV leastOfV mostOfV keptV planeOfV momentOfV stripOfV lateV isOverV isLiveV endOfV knownV timeOfV pulseOfV groupOfV groupsV shutV firstOfV agreesV agreeSetV missedV bestAV bestBV bestAgreesV bestMissedV)) H := hP
  refine z_ifne C0 9 dX4_ofPlane_4 (by decide) (fun c18 => ?_) (fun c18 => ?_)
  · have hf := zif_neg hf c18
    refine z_iload_n C0 dX4_ofPlane_9 rfl (lv_at hl 2 rfl) ?_
    by_cases c3 : zE p2 0
    · have hf := zif_pos hf c3
      refine z_tabIn C0 c3 48 dX4_ofPlane_10 (by decide +kernel) (by decide +kernel) rfl (by decide) ?_
      refine z_aload_n C0 dX4_ofPlane_48 rfl (lv_at hl 0 rfl) ?_
      refine zgX4_7 C0 hP 0 rfl (.ref (h 1)) rfl dX4_ofPlane_49 ?_
      refine z_iload_n C0 dX4_ofPlane_52 rfl (lv_at hl 1 rfl) ?_
      obtain ⟨g4, hf⟩ := zg_some hf
      refine z_iald C0 hP 1 rfl (Nat.le_of_ble_eq_true rfl) g4 dX4_ofPlane_53 ?_
      cases hf
      exact hret hP hS dX4_ofPlane_54
    · have hf := zif_neg hf c3
      by_cases c5 : zE p2 1
      · have hf := zif_pos hf c5
        refine z_tabIn C0 c5 55 dX4_ofPlane_10 (by decide +kernel) (by decide +kernel) rfl (by decide) ?_
        refine z_aload_n C0 dX4_ofPlane_55 rfl (lv_at hl 0 rfl) ?_
        refine zgX4_13 C0 hP 0 rfl (.ref (h 2)) rfl dX4_ofPlane_56 ?_
        refine z_iload_n C0 dX4_ofPlane_59 rfl (lv_at hl 1 rfl) ?_
        obtain ⟨g6, hf⟩ := zg_some hf
        refine z_iald C0 hP 2 rfl (Nat.le_of_ble_eq_true rfl) g6 dX4_ofPlane_60 ?_
        cases hf
        exact hret hP hS dX4_ofPlane_61
      · have hf := zif_neg hf c5
        by_cases c7 : zE p2 2
        · have hf := zif_pos hf c7
          refine z_tabIn C0 c7 62 dX4_ofPlane_10 (by decide +kernel) (by decide +kernel) rfl (by decide) ?_
          refine z_aload_n C0 dX4_ofPlane_62 rfl (lv_at hl 0 rfl) ?_
          refine zgX4_16 C0 hP 0 rfl (.ref (h 3)) rfl dX4_ofPlane_63 ?_
          refine z_iload_n C0 dX4_ofPlane_66 rfl (lv_at hl 1 rfl) ?_
          obtain ⟨g8, hf⟩ := zg_some hf
          refine z_iald C0 hP 3 rfl (Nat.le_of_ble_eq_true rfl) g8 dX4_ofPlane_67 ?_
          cases hf
          exact hret hP hS dX4_ofPlane_68
        · have hf := zif_neg hf c7
          by_cases c9 : zE p2 3
          · have hf := zif_pos hf c9
            refine z_tabIn C0 c9 69 dX4_ofPlane_10 (by decide +kernel) (by decide +kernel) rfl (by decide) ?_
            refine z_aload_n C0 dX4_ofPlane_69 rfl (lv_at hl 0 rfl) ?_
            refine z_iload_n C0 dX4_ofPlane_70 rfl (lv_at hl 1 rfl) ?_
            obtain ⟨r10, hc11, hf⟩ := zbind hf
            refine z_callFi (rest := []) C0 hP (zD hD rfl) hS (zmX4_keptOf l D cI cZ h _ lagV deadV mannerV settingV leastOfV mostOfV keptV planeOfV momentOfV stripOfV lateV isOverV isLiveV endOfV knownV timeOfV pulseOfV groupOfV groupsV shutV firstOfV agreesV agreeSetV missedV bestAV bestBV bestAgreesV bestMissedV p1 r10 hc11) (zkX4_93 ⟨by decide, by decide⟩ C0.2.2.2.2.1) 4 rfl rfl rfl rfl hl.1 (Nat.le_of_ble_eq_true rfl) dX4_ofPlane_71 ⟨Nat.zero_le _, Nat.zero_le _⟩ (fun H locs hP hS => ?_)
            have hP : va_P D vwCl ((wM h cI cZ lagV deadV mannerV settingV leastOfV mostOfV keptV planeOfV momentOfV stripOfV lateV isOverV isLiveV endOfV knownV timeOfV pulseOfV groupOfV groupsV shutV firstOfV agreesV agreeSetV missedV bestAV bestBV bestAgreesV bestMissedV)) H := hP
            cases hf
            exact hret hP hS dX4_ofPlane_74
          · have hf := zif_neg hf c9
            by_cases c12 : zE p2 4
            · have hf := zif_pos hf c12
              refine z_tabIn C0 c12 75 dX4_ofPlane_10 (by decide +kernel) (by decide +kernel) rfl (by decide) ?_
              refine z_aload_n C0 dX4_ofPlane_75 rfl (lv_at hl 0 rfl) ?_
              refine z_iload_n C0 dX4_ofPlane_76 rfl (lv_at hl 1 rfl) ?_
              refine z_iconst C0 dX4_ofPlane_77 ?_
              obtain ⟨r13, hc14, hf⟩ := zbind hf
              refine z_callFi (rest := []) C0 hP (zD hD rfl) hS (zmX4_manyLive l D cI cZ h _ lagV deadV mannerV settingV leastOfV mostOfV keptV planeOfV momentOfV stripOfV lateV isOverV isLiveV endOfV knownV timeOfV pulseOfV groupOfV groupsV shutV firstOfV agreesV agreeSetV missedV bestAV bestBV bestAgreesV bestMissedV p1 1 r13 hc14) (zkX4_97 ⟨by decide, by decide⟩ C0.2.2.2.2.1) 4 rfl rfl rfl rfl hl.1 (Nat.le_of_ble_eq_true rfl) dX4_ofPlane_78 ⟨Nat.zero_le _, Nat.zero_le _⟩ (fun H locs hP hS => ?_)
              have hP : va_P D vwCl ((wM h cI cZ lagV deadV mannerV settingV leastOfV mostOfV keptV planeOfV momentOfV stripOfV lateV isOverV r13.2.1 r13.2.2 knownV timeOfV pulseOfV groupOfV groupsV shutV firstOfV agreesV agreeSetV missedV bestAV bestBV bestAgreesV bestMissedV)) H := hP
              cases hf
              exact hret hP hS dX4_ofPlane_81
            · have hf := zif_neg hf c12
              by_cases c15 : zE p2 5
              · have hf := zif_pos hf c15
                refine z_tabIn C0 c15 82 dX4_ofPlane_10 (by decide +kernel) (by decide +kernel) rfl (by decide) ?_
                refine z_aload_n C0 dX4_ofPlane_82 rfl (lv_at hl 0 rfl) ?_
                refine z_iload_n C0 dX4_ofPlane_83 rfl (lv_at hl 1 rfl) ?_
                refine z_iconst C0 dX4_ofPlane_84 ?_
                obtain ⟨r16, hc17, hf⟩ := zbind hf
                refine z_callFi (rest := []) C0 hP (zD hD rfl) hS (zmX4_manyLive l D cI cZ h _ lagV deadV mannerV settingV leastOfV mostOfV keptV planeOfV momentOfV stripOfV lateV isOverV isLiveV endOfV knownV timeOfV pulseOfV groupOfV groupsV shutV firstOfV agreesV agreeSetV missedV bestAV bestBV bestAgreesV bestMissedV p1 0 r16 hc17) (zkX4_97 ⟨by decide, by decide⟩ C0.2.2.2.2.1) 4 rfl rfl rfl rfl hl.1 (Nat.le_of_ble_eq_true rfl) dX4_ofPlane_85 ⟨Nat.zero_le _, Nat.zero_le _⟩ (fun H locs hP hS => ?_)
                have hP : va_P D vwCl ((wM h cI cZ lagV deadV mannerV settingV leastOfV mostOfV keptV planeOfV momentOfV stripOfV lateV isOverV r16.2.1 r16.2.2 knownV timeOfV pulseOfV groupOfV groupsV shutV firstOfV agreesV agreeSetV missedV bestAV bestBV bestAgreesV bestMissedV)) H := hP
                cases hf
                exact hret hP hS dX4_ofPlane_88
              · have hf := zif_neg hf c15
                refine z_tabOut C0 89 dX4_ofPlane_10 (zsw 5 (fun k hk => by rcases (show k = 0 ∨ k = 1 ∨ k = 2 ∨ k = 3 ∨ k = 4 ∨ k = 5 by omega) with rfl | rfl | rfl | rfl | rfl | rfl <;> assumption)) (by decide) ?_
                refine z_bipush C0 dX4_ofPlane_89 (by decide +kernel) ?_
                cases hf
                exact hret hP hS dX4_ofPlane_91
  · have hf := zif_pos hf c18
    refine z_iconst C0 dX4_ofPlane_7 ?_
    cases hf
    exact hret hP hS dX4_ofPlane_8
