set_option maxHeartbeats 4000000 in
set_option maxRecDepth 100000 in
theorem zmX4_isGroup (l : Launch) (D : va_G) (cI cZ : ClassId) (h : Nat → Nat) (sz : Nat) (lagV : (Nat → Int)) (deadV : (Nat → Int)) (mannerV : (Nat → Int)) (settingV : (Nat → Int)) (leastOfV : (Nat → Int)) (mostOfV : (Nat → Int)) (keptV : Int) (planeOfV : (Nat → Int)) (momentOfV : (Nat → Int)) (stripOfV : (Nat → Int)) (lateV : Int) (isOverV : Int) (isLiveV : (Nat → Int)) (endOfV : (Nat → Int)) (knownV : Int) (timeOfV : (Nat → Int)) (pulseOfV : (Nat → Int)) (groupOfV : (Nat → Int)) (groupsV : Int) (shutV : Int) (firstOfV : (Nat → Int)) (agreesV : Int) (agreeSetV : Int) (missedV : Int) (bestAV : Int) (bestBV : Int) (bestAgreesV : Int) (bestMissedV : Int) (p1 : Int) (o : Int × (Nat → Int) × (Nat → Int) × Int × (Nat → Int) × (Nat → Int) × (Nat → Int) × Int × Int × (Nat → Int)) (hf : fX4_isGroup (zk_M lagV deadV mannerV settingV leastOfV mostOfV keptV planeOfV momentOfV stripOfV lateV isOverV isLiveV endOfV knownV timeOfV pulseOfV groupOfV groupsV shutV firstOfV agreesV agreeSetV missedV bestAV bestBV bestAgreesV bestMissedV) p1 = some o) : Met l yX4_isGroup (zW yX4_isGroup cX4_isGroup 2 (some .boolean)) rmX4_isGroup (va_Pc [.ref (h 0), .int (zI p1)] (zPre D cI cZ ((wM h cI cZ lagV deadV mannerV settingV leastOfV mostOfV keptV planeOfV momentOfV stripOfV lateV isOverV isLiveV endOfV knownV timeOfV pulseOfV groupOfV groupsV shutV firstOfV agreesV agreeSetV missedV bestAV bestBV bestAgreesV bestMissedV)) sz)) (va_Qi (fun r' (_ : Unit) => r' = zI o.1) (fun _ t => va_P D vwCl ((wM h cI cZ lagV deadV mannerV settingV leastOfV mostOfV keptV planeOfV momentOfV stripOfV lateV isOverV o.2.1 o.2.2.1 o.2.2.2.1 o.2.2.2.2.1 o.2.2.2.2.2.1 o.2.2.2.2.2.2.1 o.2.2.2.2.2.2.2.1 o.2.2.2.2.2.2.2.2.1 o.2.2.2.2.2.2.2.2.2 agreesV agreeSetV missedV bestAV bestBV bestAgreesV bestMissedV)) t.heap) (va_A ((wM h cI cZ lagV deadV mannerV settingV leastOfV mostOfV keptV planeOfV momentOfV stripOfV lateV isOverV isLiveV endOfV knownV timeOfV pulseOfV groupOfV groupsV shutV firstOfV agreesV agreeSetV missedV bestAV bestBV bestAgreesV bestMissedV)) sz)) 0 0 (va_A ((wM h cI cZ lagV deadV mannerV settingV leastOfV mostOfV keptV planeOfV momentOfV stripOfV lateV isOverV isLiveV endOfV knownV timeOfV pulseOfV groupOfV groupsV shutV firstOfV agreesV agreeSetV missedV bestAV bestBV bestAgreesV bestMissedV)) sz) := by
  unfold fX4_isGroup at hf
  refine z_enter_z (own := RX4) (by decide +kernel) rfl (Nat.le_of_ble_eq_true rfl) ?_
  intro p e s m args below meth c A Q C0 hP hD hS hret ls hl
  have hl : lv_has ls 2 [(0, .ref (h 0)), (1, .int (zI p1))] := hl
  refine z_aload_n C0 dX4_isGroup_0 rfl (lv_at hl 0 rfl) ?_
  refine z_iconst C0 dX4_isGroup_1 ?_
  refine z_iconst C0 dX4_isGroup_2 ?_
  obtain ⟨r1, hc2, hf⟩ := zbind hf
  refine z_callFv (rest := []) C0 hP (zD hD rfl) hS (zmX4_findGroups l D cI cZ h _ lagV deadV mannerV settingV leastOfV mostOfV keptV planeOfV momentOfV stripOfV lateV isOverV isLiveV endOfV knownV timeOfV pulseOfV groupOfV groupsV shutV firstOfV agreesV agreeSetV missedV bestAV bestBV bestAgreesV bestMissedV 0 0 r1 hc2) (zkX4_120 ⟨by decide, by decide⟩ C0.2.2.2.2.1) 4 rfl rfl rfl rfl hl.1 (Nat.le_of_ble_eq_true rfl) dX4_isGroup_3 ⟨Nat.zero_le _, Nat.zero_le _⟩ (fun H locs hP hS => ?_)
  have hP : va_P D vwCl ((wM h cI cZ lagV deadV mannerV settingV leastOfV mostOfV keptV planeOfV momentOfV stripOfV lateV isOverV r1.1 r1.2.1 r1.2.2.1 r1.2.2.2.1 r1.2.2.2.2.1 r1.2.2.2.2.2.1 r1.2.2.2.2.2.2.1 r1.2.2.2.2.2.2.2.1 r1.2.2.2.2.2.2.2.2 agreesV agreeSetV missedV bestAV bestBV bestAgreesV bestMissedV)) H := hP
  refine z_iload_n C0 dX4_isGroup_6 rfl (lv_at hl 1 rfl) ?_
  refine z_iconst C0 dX4_isGroup_7 ?_
  refine z_aload_n C0 dX4_isGroup_8 rfl (lv_at hl 0 rfl) ?_
  refine zgX4_117 C0 hP 0 rfl (.int (zI r1.2.2.2.2.2.2.2.1)) rfl dX4_isGroup_9 ?_
  refine z_iconst C0 dX4_isGroup_12 ?_
  refine z_isub C0 dX4_isGroup_13 ?_
  obtain ⟨r3, hc4, hf⟩ := zbind hf
  refine z_callSi (rest := []) C0 hP (zD hD rfl) hS [] rfl (zmX4_within l D cI cZ _ p1 0 (r1.2.2.2.2.2.2.2.1 - 1) r3 hc4) (zkX4_56 ⟨by decide, by decide⟩ C0.2.2.2.2.1) rfl rfl rfl hl.1 (Nat.le_of_ble_eq_true rfl) dX4_isGroup_14 ⟨Nat.zero_le _, Nat.zero_le _⟩ rfl (Nat.le_of_ble_eq_true rfl) (fun H locs hP hS => ?_)
  have hP : va_P D vwCl ((wM h cI cZ lagV deadV mannerV settingV leastOfV mostOfV keptV planeOfV momentOfV stripOfV lateV isOverV r1.1 r1.2.1 r1.2.2.1 r1.2.2.2.1 r1.2.2.2.2.1 r1.2.2.2.2.2.1 r1.2.2.2.2.2.2.1 r1.2.2.2.2.2.2.2.1 r1.2.2.2.2.2.2.2.2 agreesV agreeSetV missedV bestAV bestBV bestAgreesV bestMissedV)) H := hP
  obtain ⟨g5, hf⟩ := zg_some hf
  cases hf
  exact hret g5 hP hS dX4_isGroup_17
