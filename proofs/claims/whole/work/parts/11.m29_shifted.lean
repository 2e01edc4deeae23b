set_option maxHeartbeats 4000000 in
set_option maxRecDepth 100000 in
theorem zmX4_shifted (l : Launch) (D : va_G) (cI cZ : ClassId) (h : Nat → Nat) (sz : Nat) (lagV : (Nat → Int)) (deadV : (Nat → Int)) (mannerV : (Nat → Int)) (settingV : (Nat → Int)) (leastOfV : (Nat → Int)) (mostOfV : (Nat → Int)) (keptV : Int) (planeOfV : (Nat → Int)) (momentOfV : (Nat → Int)) (stripOfV : (Nat → Int)) (lateV : Int) (isOverV : Int) (isLiveV : (Nat → Int)) (endOfV : (Nat → Int)) (knownV : Int) (timeOfV : (Nat → Int)) (pulseOfV : (Nat → Int)) (groupOfV : (Nat → Int)) (groupsV : Int) (shutV : Int) (firstOfV : (Nat → Int)) (agreesV : Int) (agreeSetV : Int) (missedV : Int) (bestAV : Int) (bestBV : Int) (bestAgreesV : Int) (bestMissedV : Int) (p1 : Int) (p2 : Int) (o : Int × (Nat → Int) × (Nat → Int) × Int × (Nat → Int) × (Nat → Int) × (Nat → Int) × Int × Int × (Nat → Int)) (hf : fX4_shifted (zk_M lagV deadV mannerV settingV leastOfV mostOfV keptV planeOfV momentOfV stripOfV lateV isOverV isLiveV endOfV knownV timeOfV pulseOfV groupOfV groupsV shutV firstOfV agreesV agreeSetV missedV bestAV bestBV bestAgreesV bestMissedV) p1 p2 = some o) : Met l yX4_shifted (zW yX4_shifted cX4_shifted 3 (some .int)) rmX4_shifted (va_Pc [.ref (h 0), .int (zI p1), .int (zI p2)] (zPre D cI cZ ((wM h cI cZ lagV deadV mannerV settingV leastOfV mostOfV keptV planeOfV momentOfV stripOfV lateV isOverV isLiveV endOfV knownV timeOfV pulseOfV groupOfV groupsV shutV firstOfV agreesV agreeSetV missedV bestAV bestBV bestAgreesV bestMissedV)) sz)) (va_Qi (fun r' (_ : Unit) => r' = zI o.1) (fun _ t => va_P D vwCl ((wM h cI cZ lagV deadV mannerV settingV leastOfV mostOfV keptV planeOfV momentOfV stripOfV lateV isOverV o.2.1 o.2.2.1 o.2.2.2.1 o.2.2.2.2.1 o.2.2.2.2.2.1 o.2.2.2.2.2.2.1 o.2.2.2.2.2.2.2.1 o.2.2.2.2.2.2.2.2.1 o.2.2.2.2.2.2.2.2.2 agreesV agreeSetV missedV bestAV bestBV bestAgreesV bestMissedV)) t.heap) (va_A ((wM h cI cZ lagV deadV mannerV settingV leastOfV mostOfV keptV planeOfV momentOfV stripOfV lateV isOverV isLiveV endOfV knownV timeOfV pulseOfV groupOfV groupsV shutV firstOfV agreesV agreeSetV missedV bestAV bestBV bestAgreesV bestMissedV)) sz)) 0 0 (va_A ((wM h cI cZ lagV deadV mannerV settingV leastOfV mostOfV keptV planeOfV momentOfV stripOfV lateV isOverV isLiveV endOfV knownV timeOfV pulseOfV groupOfV groupsV shutV firstOfV agreesV agreeSetV missedV bestAV bestBV bestAgreesV bestMissedV)) sz) := by
  unfold fX4_shifted at hf
  refine z_enter_i (own := RX4) (by decide +kernel) rfl (Nat.le_of_ble_eq_true rfl) ?_
  intro p e s m args below meth c A Q C0 hP hD hS hret ls hl
  have hl : lv_has ls 3 [(0, .ref (h 0)), (1, .int (zI p1)), (2, .int (zI p2))] := hl
  refine z_iload_n C0 dX4_shifted_0 rfl (lv_at hl 1 rfl) ?_
  refine z_iconst C0 dX4_shifted_1 ?_
  refine z_bipush C0 dX4_shifted_2 (by decide +kernel) ?_
  obtain ⟨r1, hc2, hf⟩ := zbind hf
  refine z_callSi (rest := []) C0 hP (zD hD rfl) hS [] rfl (zmX4_within l D cI cZ _ p1 0 63 r1 hc2) (zkX4_56 ⟨by decide, by decide⟩ C0.2.2.2.2.1) rfl rfl rfl hl.1 (Nat.le_of_ble_eq_true rfl) dX4_shifted_4 ⟨Nat.zero_le _, Nat.zero_le _⟩ rfl (Nat.le_of_ble_eq_true rfl) (fun H locs hP hS => ?_)
  have hP : va_P D vwCl ((wM h cI cZ lagV deadV mannerV settingV leastOfV mostOfV keptV planeOfV momentOfV stripOfV lateV isOverV isLiveV endOfV knownV timeOfV pulseOfV groupOfV groupsV shutV firstOfV agreesV agreeSetV missedV bestAV bestBV bestAgreesV bestMissedV)) H := hP
  refine z_ifeq C0 21 dX4_shifted_7 (by decide) (fun c11 => ?_) (fun c11 => ?_)
  · have hf := zif_pos hf c11
    refine z_bipush C0 dX4_shifted_21 (by decide +kernel) ?_
    cases hf
    exact hret hP hS dX4_shifted_23
  · have hf := zif_neg hf c11
    refine z_iload_n C0 dX4_shifted_10 rfl (lv_at hl 2 rfl) ?_
    refine z_iconst C0 dX4_shifted_11 ?_
    refine z_sipush C0 dX4_shifted_12 (by decide +kernel) ?_
    obtain ⟨r3, hc4, hf⟩ := zbind hf
    refine z_callSi (rest := []) C0 hP (zD hD rfl) hS [] rfl (zmX4_within l D cI cZ _ p2 0 500 r3 hc4) (zkX4_56 ⟨by decide, by decide⟩ C0.2.2.2.2.1) rfl rfl rfl hl.1 (Nat.le_of_ble_eq_true rfl) dX4_shifted_15 ⟨Nat.zero_le _, Nat.zero_le _⟩ rfl (Nat.le_of_ble_eq_true rfl) (fun H locs hP hS => ?_)
    have hP : va_P D vwCl ((wM h cI cZ lagV deadV mannerV settingV leastOfV mostOfV keptV planeOfV momentOfV stripOfV lateV isOverV isLiveV endOfV knownV timeOfV pulseOfV groupOfV groupsV shutV firstOfV agreesV agreeSetV missedV bestAV bestBV bestAgreesV bestMissedV)) H := hP
    refine z_ifne C0 24 dX4_shifted_18 (by decide) (fun c10 => ?_) (fun c10 => ?_)
    · have hf := zif_neg hf c10
      refine z_aload_n C0 dX4_shifted_24 rfl (lv_at hl 0 rfl) ?_
      refine zgX4_64 C0 hP 0 rfl (.int (zI isOverV)) rfl dX4_shifted_25 ?_
      refine z_ifne C0 34 dX4_shifted_28 (by decide) (fun c9 => ?_) (fun c9 => ?_)
      · have hf := zif_neg hf c9
        refine z_aload_n C0 dX4_shifted_34 rfl (lv_at hl 0 rfl) ?_
        refine z_iload_n C0 dX4_shifted_35 rfl (lv_at hl 1 rfl) ?_
        refine z_iload_n C0 dX4_shifted_36 rfl (lv_at hl 2 rfl) ?_
        obtain ⟨r5, hc6, hf⟩ := zbind hf
        refine z_callFv (rest := []) C0 hP (zD hD rfl) hS (zmX4_findGroups l D cI cZ h _ lagV deadV mannerV settingV leastOfV mostOfV keptV planeOfV momentOfV stripOfV lateV isOverV isLiveV endOfV knownV timeOfV pulseOfV groupOfV groupsV shutV firstOfV agreesV agreeSetV missedV bestAV bestBV bestAgreesV bestMissedV p1 p2 r5 hc6) (zkX4_120 ⟨by decide, by decide⟩ C0.2.2.2.2.1) 4 rfl rfl rfl rfl hl.1 (Nat.le_of_ble_eq_true rfl) dX4_shifted_37 ⟨Nat.zero_le _, Nat.zero_le _⟩ (fun H locs hP hS => ?_)
        have hP : va_P D vwCl ((wM h cI cZ lagV deadV mannerV settingV leastOfV mostOfV keptV planeOfV momentOfV stripOfV lateV isOverV r5.1 r5.2.1 r5.2.2.1 r5.2.2.2.1 r5.2.2.2.2.1 r5.2.2.2.2.2.1 r5.2.2.2.2.2.2.1 r5.2.2.2.2.2.2.2.1 r5.2.2.2.2.2.2.2.2 agreesV agreeSetV missedV bestAV bestBV bestAgreesV bestMissedV)) H := hP
        refine z_aload_n C0 dX4_shifted_40 rfl (lv_at hl 0 rfl) ?_
        refine z_aload_n C0 dX4_shifted_41 rfl (lv_at hl 0 rfl) ?_
        refine zgX4_114 C0 hP 0 rfl (.int (zI r5.2.2.2.2.2.2.1)) rfl dX4_shifted_42 ?_
        obtain ⟨r7, hc8, hf⟩ := zbind hf
        refine z_callFi (rest := []) C0 hP (zD hD rfl) hS (zmX4_coincidences l D cI cZ h _ lagV deadV mannerV settingV leastOfV mostOfV keptV planeOfV momentOfV stripOfV lateV isOverV r5.1 r5.2.1 r5.2.2.1 r5.2.2.2.1 r5.2.2.2.2.1 r5.2.2.2.2.2.1 r5.2.2.2.2.2.2.1 r5.2.2.2.2.2.2.2.1 r5.2.2.2.2.2.2.2.2 agreesV agreeSetV missedV bestAV bestBV bestAgreesV bestMissedV r5.2.2.2.2.2.2.1 r7 hc8) (zkX4_139 ⟨by decide, by decide⟩ C0.2.2.2.2.1) 4 rfl rfl rfl rfl hl.1 (Nat.le_of_ble_eq_true rfl) dX4_shifted_45 ⟨Nat.zero_le _, Nat.zero_le _⟩ (fun H locs hP hS => ?_)
        have hP : va_P D vwCl ((wM h cI cZ lagV deadV mannerV settingV leastOfV mostOfV keptV planeOfV momentOfV stripOfV lateV isOverV r5.1 r5.2.1 r5.2.2.1 r5.2.2.2.1 r5.2.2.2.2.1 r5.2.2.2.2.2.1 r5.2.2.2.2.2.2.1 r5.2.2.2.2.2.2.2.1 r5.2.2.2.2.2.2.2.2 agreesV agreeSetV missedV bestAV bestBV bestAgreesV bestMissedV)) H := hP
        cases hf
        exact hret hP hS dX4_shifted_48
      · have hf := zif_pos hf c9
        refine z_bipush C0 dX4_shifted_31 (by decide +kernel) ?_
        cases hf
        exact hret hP hS dX4_shifted_33
    · have hf := zif_pos hf c10
      refine z_bipush C0 dX4_shifted_21 (by decide +kernel) ?_
      cases hf
      exact hret hP hS dX4_shifted_23
