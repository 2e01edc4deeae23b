set_option maxHeartbeats 4000000 in
set_option maxRecDepth 100000 in
theorem zmX4_isBegun (l : Launch) (D : va_G) (cI cZ : ClassId) (h : Nat → Nat) (sz : Nat) (lagV : (Nat → Int)) (deadV : (Nat → Int)) (mannerV : (Nat → Int)) (settingV : (Nat → Int)) (leastOfV : (Nat → Int)) (mostOfV : (Nat → Int)) (keptV : Int) (planeOfV : (Nat → Int)) (momentOfV : (Nat → Int)) (stripOfV : (Nat → Int)) (lateV : Int) (isOverV : Int) (isLiveV : (Nat → Int)) (endOfV : (Nat → Int)) (knownV : Int) (timeOfV : (Nat → Int)) (pulseOfV : (Nat → Int)) (groupOfV : (Nat → Int)) (groupsV : Int) (shutV : Int) (firstOfV : (Nat → Int)) (agreesV : Int) (agreeSetV : Int) (missedV : Int) (bestAV : Int) (bestBV : Int) (bestAgreesV : Int) (bestMissedV : Int)  (o : Int) (hf : fX4_isBegun (zk_M lagV deadV mannerV settingV leastOfV mostOfV keptV planeOfV momentOfV stripOfV lateV isOverV isLiveV endOfV knownV timeOfV pulseOfV groupOfV groupsV shutV firstOfV agreesV agreeSetV missedV bestAV bestBV bestAgreesV bestMissedV) = some o) : Met l yX4_isBegun (zW yX4_isBegun cX4_isBegun 1 (some .boolean)) rmX4_isBegun (va_Pc [.ref (h 0)] (zPre D cI cZ ((wM h cI cZ lagV deadV mannerV settingV leastOfV mostOfV keptV planeOfV momentOfV stripOfV lateV isOverV isLiveV endOfV knownV timeOfV pulseOfV groupOfV groupsV shutV firstOfV agreesV agreeSetV missedV bestAV bestBV bestAgreesV bestMissedV)) sz)) (va_Qi (fun r' (_ : Unit) => r' = zI o) (fun _ t => va_P D vwCl ((wM h cI cZ lagV deadV mannerV settingV leastOfV mostOfV keptV planeOfV momentOfV stripOfV lateV isOverV isLiveV endOfV knownV timeOfV pulseOfV groupOfV groupsV shutV firstOfV agreesV agreeSetV missedV bestAV bestBV bestAgreesV bestMissedV)) t.heap) (va_A ((wM h cI cZ lagV deadV mannerV settingV leastOfV mostOfV keptV planeOfV momentOfV stripOfV lateV isOverV isLiveV endOfV knownV timeOfV pulseOfV groupOfV groupsV shutV firstOfV agreesV agreeSetV missedV bestAV bestBV bestAgreesV bestMissedV)) sz)) 0 0 (va_A ((wM h cI cZ lagV deadV mannerV settingV leastOfV mostOfV keptV planeOfV momentOfV stripOfV lateV isOverV isLiveV endOfV knownV timeOfV pulseOfV groupOfV groupsV shutV firstOfV agreesV agreeSetV missedV bestAV bestBV bestAgreesV bestMissedV)) sz) := by
  unfold fX4_isBegun at hf
  refine z_enter_z (own := RX4) (by decide +kernel) rfl (Nat.le_of_ble_eq_true rfl) ?_
  intro p e s m args below meth c A Q C0 hP hD hS hret ls hl
  have hl : lv_has ls 1 [(0, .ref (h 0))] := hl
  refine z_aload_n C0 dX4_isBegun_0 rfl (lv_at hl 0 rfl) ?_
  refine zgX4_60 C0 hP 0 rfl (.int (zI keptV)) rfl dX4_isBegun_1 ?_
  refine z_ifgt C0 14 dX4_isBegun_4 (by decide) (fun c2 => ?_) (fun c2 => ?_)
  · have hf := zif_pos hf c2
    refine z_iconst C0 dX4_isBegun_14 ?_
    refine z_goto C0 19 dX4_isBegun_15 (by decide) ?_
    cases hf
    exact hret (Or.inr rfl) hP hS dX4_isBegun_19
  · have hf := zif_neg hf c2
    refine z_aload_n C0 dX4_isBegun_7 rfl (lv_at hl 0 rfl) ?_
    refine zgX4_64 C0 hP 0 rfl (.int (zI isOverV)) rfl dX4_isBegun_8 ?_
    refine z_ifeq C0 18 dX4_isBegun_11 (by decide) (fun c1 => ?_) (fun c1 => ?_)
    · have hf := zif_pos hf c1
      refine z_iconst C0 dX4_isBegun_18 ?_
      cases hf
      exact hret (Or.inl rfl) hP hS dX4_isBegun_19
    · have hf := zif_neg hf c1
      refine z_iconst C0 dX4_isBegun_14 ?_
      refine z_goto C0 19 dX4_isBegun_15 (by decide) ?_
      cases hf
      exact hret (Or.inr rfl) hP hS dX4_isBegun_19
