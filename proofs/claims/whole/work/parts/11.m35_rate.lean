set_option maxHeartbeats 4000000 in
set_option maxRecDepth 100000 in
theorem zmX4_rate (l : Launch) (D : va_G) (cI cZ : ClassId) (h : Nat → Nat) (sz : Nat) (lagV : (Nat → Int)) (deadV : (Nat → Int)) (mannerV : (Nat → Int)) (settingV : (Nat → Int)) (leastOfV : (Nat → Int)) (mostOfV : (Nat → Int)) (keptV : Int) (planeOfV : (Nat → Int)) (momentOfV : (Nat → Int)) (stripOfV : (Nat → Int)) (lateV : Int) (isOverV : Int) (isLiveV : (Nat → Int)) (endOfV : (Nat → Int)) (knownV : Int) (timeOfV : (Nat → Int)) (pulseOfV : (Nat → Int)) (groupOfV : (Nat → Int)) (groupsV : Int) (shutV : Int) (firstOfV : (Nat → Int)) (agreesV : Int) (agreeSetV : Int) (missedV : Int) (bestAV : Int) (bestBV : Int) (bestAgreesV : Int) (bestMissedV : Int) (p1 : Int) (p2 : Int) (o : Int × (Nat → Int) × (Nat → Int)) (hf : fX4_rate (zk_M lagV deadV mannerV settingV leastOfV mostOfV keptV planeOfV momentOfV stripOfV lateV isOverV isLiveV endOfV knownV timeOfV pulseOfV groupOfV groupsV shutV firstOfV agreesV agreeSetV missedV bestAV bestBV bestAgreesV bestMissedV) p1 p2 = some o) : Met l yX4_rate (zW yX4_rate cX4_rate 3 (some .long)) rmX4_rate (va_Pc [.ref (h 0), .int (zI p1), .int (zI p2)] (zPre D cI cZ ((wM h cI cZ lagV deadV mannerV settingV leastOfV mostOfV keptV planeOfV momentOfV stripOfV lateV isOverV isLiveV endOfV knownV timeOfV pulseOfV groupOfV groupsV shutV firstOfV agreesV agreeSetV missedV bestAV bestBV bestAgreesV bestMissedV)) sz)) (va_Ql (fun r' (_ : Unit) => r' = zL o.1) (fun _ t => va_P D vwCl ((wM h cI cZ lagV deadV mannerV settingV leastOfV mostOfV keptV planeOfV momentOfV stripOfV lateV isOverV o.2.1 o.2.2 knownV timeOfV pulseOfV groupOfV groupsV shutV firstOfV agreesV agreeSetV missedV bestAV bestBV bestAgreesV bestMissedV)) t.heap) (va_A ((wM h cI cZ lagV deadV mannerV settingV leastOfV mostOfV keptV planeOfV momentOfV stripOfV lateV isOverV isLiveV endOfV knownV timeOfV pulseOfV groupOfV groupsV shutV firstOfV agreesV agreeSetV missedV bestAV bestBV bestAgreesV bestMissedV)) sz)) 0 0 (va_A ((wM h cI cZ lagV deadV mannerV settingV leastOfV mostOfV keptV planeOfV momentOfV stripOfV lateV isOverV isLiveV endOfV knownV timeOfV pulseOfV groupOfV groupsV shutV firstOfV agreesV agreeSetV missedV bestAV bestBV bestAgreesV bestMissedV)) sz) := by
  unfold fX4_rate at hf
  refine z_enter_l (own := RX4) (by decide +kernel) rfl (Nat.le_of_ble_eq_true rfl) ?_
  intro p e s m args below meth c A Q C0 hP hD hS hret ls hl
  have hl : lv_has ls 3 [(0, .ref (h 0)), (1, .int (zI p1)), (2, .int (zI p2))] := hl
  refine z_iload_n C0 dX4_rate_0 rfl (lv_at hl 1 rfl) ?_
  obtain ⟨r1, hc2, hf⟩ := zbind hf
  refine z_callSi (rest := []) C0 hP (zD hD rfl) hS [] rfl (zmX4_isPlane l D cI cZ _ p1 r1 hc2) (zkX4_68 ⟨by decide, by decide⟩ C0.2.2.2.2.1) rfl rfl rfl hl.1 (Nat.le_of_ble_eq_true rfl) dX4_rate_1 ⟨Nat.zero_le _, Nat.zero_le _⟩ rfl (Nat.le_of_ble_eq_true rfl) (fun H locs hP hS => ?_)
  have hP : va_P D vwCl ((wM h cI cZ lagV deadV mannerV settingV leastOfV mostOfV keptV planeOfV momentOfV stripOfV lateV isOverV isLiveV endOfV knownV timeOfV pulseOfV groupOfV groupsV shutV firstOfV agreesV agreeSetV missedV bestAV bestBV bestAgreesV bestMissedV)) H := hP
  refine z_ifeq C0 31 dX4_rate_4 (by decide) (fun c16 => ?_) (fun c16 => ?_)
  · have hf := zif_pos hf c16
    refine z_ldc2 C0 zw342 dX4_rate_31 ?_
    cases hf
    exact hret hP hS dX4_rate_34
  · have hf := zif_neg hf c16
    refine z_iload_n C0 dX4_rate_7 rfl (lv_at hl 2 rfl) ?_
    refine z_iconst C0 dX4_rate_8 ?_
    refine z_iconst C0 dX4_rate_9 ?_
    obtain ⟨r3, hc4, hf⟩ := zbind hf
    refine z_callSi (rest := []) C0 hP (zD hD rfl) hS [] rfl (zmX4_within l D cI cZ _ p2 0 1 r3 hc4) (zkX4_56 ⟨by decide, by decide⟩ C0.2.2.2.2.1) rfl rfl rfl hl.1 (Nat.le_of_ble_eq_true rfl) dX4_rate_10 ⟨Nat.zero_le _, Nat.zero_le _⟩ rfl (Nat.le_of_ble_eq_true rfl) (fun H locs hP hS => ?_)
    have hP : va_P D vwCl ((wM h cI cZ lagV deadV mannerV settingV leastOfV mostOfV keptV planeOfV momentOfV stripOfV lateV isOverV isLiveV endOfV knownV timeOfV pulseOfV groupOfV groupsV shutV firstOfV agreesV agreeSetV missedV bestAV bestBV bestAgreesV bestMissedV)) H := hP
    refine z_ifeq C0 31 dX4_rate_13 (by decide) (fun c15 => ?_) (fun c15 => ?_)
    · have hf := zif_pos hf c15
      refine z_ldc2 C0 zw342 dX4_rate_31 ?_
      cases hf
      exact hret hP hS dX4_rate_34
    · have hf := zif_neg hf c15
      refine z_aload_n C0 dX4_rate_16 rfl (lv_at hl 0 rfl) ?_
      refine zgX4_64 C0 hP 0 rfl (.int (zI isOverV)) rfl dX4_rate_17 ?_
      refine z_ifeq C0 31 dX4_rate_20 (by decide) (fun c14 => ?_) (fun c14 => ?_)
      · have hf := zif_pos hf c14
        refine z_ldc2 C0 zw342 dX4_rate_31 ?_
        cases hf
        exact hret hP hS dX4_rate_34
      · have hf := zif_neg hf c14
        refine z_aload_n C0 dX4_rate_23 rfl (lv_at hl 0 rfl) ?_
        refine z_iload_n C0 dX4_rate_24 rfl (lv_at hl 1 rfl) ?_
        obtain ⟨r5, hc6, hf⟩ := zbind hf
        refine z_callFi (rest := []) C0 hP (zD hD rfl) hS (zmX4_liveTime l D cI cZ h _ lagV deadV mannerV settingV leastOfV mostOfV keptV planeOfV momentOfV stripOfV lateV isOverV isLiveV endOfV knownV timeOfV pulseOfV groupOfV groupsV shutV firstOfV agreesV agreeSetV missedV bestAV bestBV bestAgreesV bestMissedV p1 r5 hc6) (zkX4_145 ⟨by decide, by decide⟩ C0.2.2.2.2.1) 4 rfl rfl rfl rfl hl.1 (Nat.le_of_ble_eq_true rfl) dX4_rate_25 ⟨Nat.zero_le _, Nat.zero_le _⟩ (fun H locs hP hS => ?_)
        have hP : va_P D vwCl ((wM h cI cZ lagV deadV mannerV settingV leastOfV mostOfV keptV planeOfV momentOfV stripOfV lateV isOverV r5.2.1 r5.2.2 knownV timeOfV pulseOfV groupOfV groupsV shutV firstOfV agreesV agreeSetV missedV bestAV bestBV bestAgreesV bestMissedV)) H := hP
        refine z_ifne C0 35 dX4_rate_28 (by decide) (fun c13 => ?_) (fun c13 => ?_)
        · have hf := zif_neg hf c13
          refine z_aload_n C0 dX4_rate_35 rfl (lv_at hl 0 rfl) ?_
          refine z_iload_n C0 dX4_rate_36 rfl (lv_at hl 1 rfl) ?_
          refine z_iconst C0 dX4_rate_37 ?_
          obtain ⟨r7, hc8, hf⟩ := zbind hf
          refine z_callFi (rest := []) C0 hP (zD hD rfl) hS (zmX4_manyLive l D cI cZ h _ lagV deadV mannerV settingV leastOfV mostOfV keptV planeOfV momentOfV stripOfV lateV isOverV r5.2.1 r5.2.2 knownV timeOfV pulseOfV groupOfV groupsV shutV firstOfV agreesV agreeSetV missedV bestAV bestBV bestAgreesV bestMissedV p1 1 r7 hc8) (zkX4_97 ⟨by decide, by decide⟩ C0.2.2.2.2.1) 4 rfl rfl rfl rfl hl.1 (Nat.le_of_ble_eq_true rfl) dX4_rate_38 ⟨Nat.zero_le _, Nat.zero_le _⟩ (fun H locs hP hS => ?_)
          have hP : va_P D vwCl ((wM h cI cZ lagV deadV mannerV settingV leastOfV mostOfV keptV planeOfV momentOfV stripOfV lateV isOverV r7.2.1 r7.2.2 knownV timeOfV pulseOfV groupOfV groupsV shutV firstOfV agreesV agreeSetV missedV bestAV bestBV bestAgreesV bestMissedV)) H := hP
          refine z_i2l C0 dX4_rate_41 ?_
          refine z_aload_n C0 dX4_rate_42 rfl (lv_at hl 0 rfl) ?_
          refine z_iload_n C0 dX4_rate_43 rfl (lv_at hl 1 rfl) ?_
          obtain ⟨r9, hc10, hf⟩ := zbind hf
          refine z_callFi (rest := [.long (zL (zi2l r7.1))]) C0 hP (zD hD rfl) hS (zmX4_liveTime l D cI cZ h _ lagV deadV mannerV settingV leastOfV mostOfV keptV planeOfV momentOfV stripOfV lateV isOverV r7.2.1 r7.2.2 knownV timeOfV pulseOfV groupOfV groupsV shutV firstOfV agreesV agreeSetV missedV bestAV bestBV bestAgreesV bestMissedV p1 r9 hc10) (zkX4_145 ⟨by decide, by decide⟩ C0.2.2.2.2.1) 4 rfl rfl rfl rfl hl.1 (Nat.le_of_ble_eq_true rfl) dX4_rate_44 ⟨Nat.zero_le _, Nat.zero_le _⟩ (fun H locs hP hS => ?_)
          have hP : va_P D vwCl ((wM h cI cZ lagV deadV mannerV settingV leastOfV mostOfV keptV planeOfV momentOfV stripOfV lateV isOverV r9.2.1 r9.2.2 knownV timeOfV pulseOfV groupOfV groupsV shutV firstOfV agreesV agreeSetV missedV bestAV bestBV bestAgreesV bestMissedV)) H := hP
          refine z_i2l C0 dX4_rate_47 ?_
          refine z_iload_n C0 dX4_rate_48 rfl (lv_at hl 2 rfl) ?_
          obtain ⟨r11, hc12, hf⟩ := zbind hf
          refine z_callSl (rest := []) C0 hP (zD hD rfl) hS [] rfl (zmX4_inLeastTerms l D cI cZ _ (zi2l r7.1) (zi2l r9.1) p2 r11 hc12) (zkX4_150 ⟨by decide, by decide⟩ C0.2.2.2.2.1) rfl rfl rfl hl.1 (Nat.le_of_ble_eq_true rfl) dX4_rate_49 ⟨Nat.zero_le _, Nat.zero_le _⟩ rfl (Nat.le_of_ble_eq_true rfl) (fun H locs hP hS => ?_)
          have hP : va_P D vwCl ((wM h cI cZ lagV deadV mannerV settingV leastOfV mostOfV keptV planeOfV momentOfV stripOfV lateV isOverV r9.2.1 r9.2.2 knownV timeOfV pulseOfV groupOfV groupsV shutV firstOfV agreesV agreeSetV missedV bestAV bestBV bestAgreesV bestMissedV)) H := hP
          cases hf
          exact hret hP hS dX4_rate_52
        · have hf := zif_pos hf c13
          refine z_ldc2 C0 zw342 dX4_rate_31 ?_
          cases hf
          exact hret hP hS dX4_rate_34
