set_option maxHeartbeats 4000000 in
set_option maxRecDepth 100000 in
theorem zmX4_end (l : Launch) (D : va_G) (cI cZ : ClassId) (h : Nat → Nat) (sz : Nat) (lagV : (Nat → Int)) (deadV : (Nat → Int)) (mannerV : (Nat → Int)) (settingV : (Nat → Int)) (leastOfV : (Nat → Int)) (mostOfV : (Nat → Int)) (keptV : Int) (planeOfV : (Nat → Int)) (momentOfV : (Nat → Int)) (stripOfV : (Nat → Int)) (lateV : Int) (isOverV : Int) (isLiveV : (Nat → Int)) (endOfV : (Nat → Int)) (knownV : Int) (timeOfV : (Nat → Int)) (pulseOfV : (Nat → Int)) (groupOfV : (Nat → Int)) (groupsV : Int) (shutV : Int) (firstOfV : (Nat → Int)) (agreesV : Int) (agreeSetV : Int) (missedV : Int) (bestAV : Int) (bestBV : Int) (bestAgreesV : Int) (bestMissedV : Int)  (o : Int × Int) (hf : fX4_end (zk_M lagV deadV mannerV settingV leastOfV mostOfV keptV planeOfV momentOfV stripOfV lateV isOverV isLiveV endOfV knownV timeOfV pulseOfV groupOfV groupsV shutV firstOfV agreesV agreeSetV missedV bestAV bestBV bestAgreesV bestMissedV) = some o) : Met l yX4_end (zW yX4_end cX4_end 2 (some .int)) rmX4_end (va_Pc [.ref (h 0)] (zPre D cI cZ ((wM h cI cZ lagV deadV mannerV settingV leastOfV mostOfV keptV planeOfV momentOfV stripOfV lateV isOverV isLiveV endOfV knownV timeOfV pulseOfV groupOfV groupsV shutV firstOfV agreesV agreeSetV missedV bestAV bestBV bestAgreesV bestMissedV)) sz)) (va_Qi (fun r' (_ : Unit) => r' = zI o.1) (fun _ t => va_P D vwCl ((wM h cI cZ lagV deadV mannerV settingV leastOfV mostOfV keptV planeOfV momentOfV stripOfV lateV o.2 isLiveV endOfV knownV timeOfV pulseOfV groupOfV groupsV shutV firstOfV agreesV agreeSetV missedV bestAV bestBV bestAgreesV bestMissedV)) t.heap) (va_A ((wM h cI cZ lagV deadV mannerV settingV leastOfV mostOfV keptV planeOfV momentOfV stripOfV lateV isOverV isLiveV endOfV knownV timeOfV pulseOfV groupOfV groupsV shutV firstOfV agreesV agreeSetV missedV bestAV bestBV bestAgreesV bestMissedV)) sz)) 0 0 (va_A ((wM h cI cZ lagV deadV mannerV settingV leastOfV mostOfV keptV planeOfV momentOfV stripOfV lateV isOverV isLiveV endOfV knownV timeOfV pulseOfV groupOfV groupsV shutV firstOfV agreesV agreeSetV missedV bestAV bestBV bestAgreesV bestMissedV)) sz) := by
  unfold fX4_end at hf
  refine z_enter_i (own := RX4) (by decide +kernel) rfl (Nat.le_of_ble_eq_true rfl) ?_
  intro p e s m args below meth c A Q C0 hP hD hS hret ls hl
  have hl : lv_has ls 2 [(0, .ref (h 0))] := hl
  refine z_aload_n C0 dX4_end_0 rfl (lv_at hl 0 rfl) ?_
  refine zgX4_64 C0 hP 0 rfl (.int (zI isOverV)) rfl dX4_end_1 ?_
  refine z_ifeq C0 10 dX4_end_4 (by decide) (fun c5 => ?_) (fun c5 => ?_)
  · have hf := zif_pos hf c5
    refine z_aload_n C0 dX4_end_10 rfl (lv_at hl 0 rfl) ?_
    obtain ⟨r1, hc2, hf⟩ := zbind hf
    refine z_callFi (rest := []) C0 hP (zD hD rfl) hS (zmX4_settled l D cI cZ h _ lagV deadV mannerV settingV leastOfV mostOfV keptV planeOfV momentOfV stripOfV lateV isOverV isLiveV endOfV knownV timeOfV pulseOfV groupOfV groupsV shutV firstOfV agreesV agreeSetV missedV bestAV bestBV bestAgreesV bestMissedV r1 hc2) (zkX4_87 ⟨by decide, by decide⟩ C0.2.2.2.2.1) 4 rfl rfl rfl rfl hl.1 (Nat.le_of_ble_eq_true rfl) dX4_end_11 ⟨Nat.zero_le _, Nat.zero_le _⟩ (fun H locs hP hS => ?_)
    have hP : va_P D vwCl ((wM h cI cZ lagV deadV mannerV settingV leastOfV mostOfV keptV planeOfV momentOfV stripOfV lateV isOverV isLiveV endOfV knownV timeOfV pulseOfV groupOfV groupsV shutV firstOfV agreesV agreeSetV missedV bestAV bestBV bestAgreesV bestMissedV)) H := hP
    refine z_istore_n C0 [(1, .int (zI r1)), (0, .ref (h 0))] dX4_end_14 rfl hl (by decide) rfl (fun ls hl => ?_)
    refine z_aload_n C0 dX4_end_15 rfl (lv_at hl 1 rfl) ?_
    refine z_iconst C0 dX4_end_16 ?_
    refine zpX4_64 C0 hP (zD hD rfl) hS 0 rfl (Or.inr rfl) (Nat.le_of_ble_eq_true rfl) dX4_end_17 (fun H locs hP hS => ?_)
    have hP : va_P D vwCl ((wM h cI cZ lagV deadV mannerV settingV leastOfV mostOfV keptV planeOfV momentOfV stripOfV lateV 1 isLiveV endOfV knownV timeOfV pulseOfV groupOfV groupsV shutV firstOfV agreesV agreeSetV missedV bestAV bestBV bestAgreesV bestMissedV)) H := hP
    refine z_aload_n C0 dX4_end_20 rfl (lv_at hl 1 rfl) ?_
    obtain ⟨r3, hc4, hf⟩ := zbind hf
    refine z_callFi (rest := []) C0 hP (zD hD rfl) hS (zmX4_settled l D cI cZ h _ lagV deadV mannerV settingV leastOfV mostOfV keptV planeOfV momentOfV stripOfV lateV 1 isLiveV endOfV knownV timeOfV pulseOfV groupOfV groupsV shutV firstOfV agreesV agreeSetV missedV bestAV bestBV bestAgreesV bestMissedV r3 hc4) (zkX4_87 ⟨by decide, by decide⟩ C0.2.2.2.2.1) 4 rfl rfl rfl rfl hl.1 (Nat.le_of_ble_eq_true rfl) dX4_end_21 ⟨Nat.zero_le _, Nat.zero_le _⟩ (fun H locs hP hS => ?_)
    have hP : va_P D vwCl ((wM h cI cZ lagV deadV mannerV settingV leastOfV mostOfV keptV planeOfV momentOfV stripOfV lateV 1 isLiveV endOfV knownV timeOfV pulseOfV groupOfV groupsV shutV firstOfV agreesV agreeSetV missedV bestAV bestBV bestAgreesV bestMissedV)) H := hP
    refine z_iload_n C0 dX4_end_24 rfl (lv_at hl 0 rfl) ?_
    refine z_isub C0 dX4_end_25 ?_
    cases hf
    exact hret hP hS dX4_end_26
  · have hf := zif_neg hf c5
    refine z_bipush C0 dX4_end_7 (by decide +kernel) ?_
    cases hf
    exact hret hP hS dX4_end_9
