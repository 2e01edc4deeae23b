set_option maxHeartbeats 4000000 in
set_option maxRecDepth 100000 in
theorem zmX4_span (l : Launch) (D : va_G) (cI cZ : ClassId) (h : Nat → Nat) (sz : Nat) (lagV : (Nat → Int)) (deadV : (Nat → Int)) (mannerV : (Nat → Int)) (settingV : (Nat → Int)) (leastOfV : (Nat → Int)) (mostOfV : (Nat → Int)) (keptV : Int) (planeOfV : (Nat → Int)) (momentOfV : (Nat → Int)) (stripOfV : (Nat → Int)) (lateV : Int) (isOverV : Int) (isLiveV : (Nat → Int)) (endOfV : (Nat → Int)) (knownV : Int) (timeOfV : (Nat → Int)) (pulseOfV : (Nat → Int)) (groupOfV : (Nat → Int)) (groupsV : Int) (shutV : Int) (firstOfV : (Nat → Int)) (agreesV : Int) (agreeSetV : Int) (missedV : Int) (bestAV : Int) (bestBV : Int) (bestAgreesV : Int) (bestMissedV : Int)  (o : Int) (hf : fX4_span (zk_M lagV deadV mannerV settingV leastOfV mostOfV keptV planeOfV momentOfV stripOfV lateV isOverV isLiveV endOfV knownV timeOfV pulseOfV groupOfV groupsV shutV firstOfV agreesV agreeSetV missedV bestAV bestBV bestAgreesV bestMissedV) = some o) : Met l yX4_span (zW yX4_span cX4_span 1 (some .int)) rmX4_span (va_Pc [.ref (h 0)] (zPre D cI cZ ((wM h cI cZ lagV deadV mannerV settingV leastOfV mostOfV keptV planeOfV momentOfV stripOfV lateV isOverV isLiveV endOfV knownV timeOfV pulseOfV groupOfV groupsV shutV firstOfV agreesV agreeSetV missedV bestAV bestBV bestAgreesV bestMissedV)) sz)) (va_Qi (fun r' (_ : Unit) => r' = zI o) (fun _ t => va_P D vwCl ((wM h cI cZ lagV deadV mannerV settingV leastOfV mostOfV keptV planeOfV momentOfV stripOfV lateV isOverV isLiveV endOfV knownV timeOfV pulseOfV groupOfV groupsV shutV firstOfV agreesV agreeSetV missedV bestAV bestBV bestAgreesV bestMissedV)) t.heap) (va_A ((wM h cI cZ lagV deadV mannerV settingV leastOfV mostOfV keptV planeOfV momentOfV stripOfV lateV isOverV isLiveV endOfV knownV timeOfV pulseOfV groupOfV groupsV shutV firstOfV agreesV agreeSetV missedV bestAV bestBV bestAgreesV bestMissedV)) sz)) 0 0 (va_A ((wM h cI cZ lagV deadV mannerV settingV leastOfV mostOfV keptV planeOfV momentOfV stripOfV lateV isOverV isLiveV endOfV knownV timeOfV pulseOfV groupOfV groupsV shutV firstOfV agreesV agreeSetV missedV bestAV bestBV bestAgreesV bestMissedV)) sz) := by
  unfold fX4_span at hf
  refine z_enter_i (own := RX4) (by decide +kernel) rfl (Nat.le_of_ble_eq_true rfl) ?_
  intro p e s m args below meth c A Q C0 hP hD hS hret ls hl
  have hl : lv_has ls 1 [(0, .ref (h 0))] := hl
  refine z_aload_n C0 dX4_span_0 rfl (lv_at hl 0 rfl) ?_
  refine zgX4_60 C0 hP 0 rfl (.int (zI keptV)) rfl dX4_span_1 ?_
  refine z_ifne C0 11 dX4_span_4 (by decide) (fun c2 => ?_) (fun c2 => ?_)
  · have hf := zif_neg hf c2
    refine z_aload_n C0 dX4_span_11 rfl (lv_at hl 0 rfl) ?_
    refine zgX4_31 C0 hP 0 rfl (.ref (h 8)) rfl dX4_span_12 ?_
    refine z_aload_n C0 dX4_span_15 rfl (lv_at hl 0 rfl) ?_
    refine zgX4_60 C0 hP 0 rfl (.int (zI keptV)) rfl dX4_span_16 ?_
    refine z_iconst C0 dX4_span_19 ?_
    refine z_isub C0 dX4_span_20 ?_
    obtain ⟨g1, hf⟩ := zg_some hf
    refine z_iald C0 hP 8 rfl (Nat.le_of_ble_eq_true rfl) g1 dX4_span_21 ?_
    refine z_iconst C0 dX4_span_22 ?_
    refine z_iadd C0 dX4_span_23 ?_
    cases hf
    exact hret hP hS dX4_span_24
  · have hf := zif_pos hf c2
    refine z_iconst C0 dX4_span_7 ?_
    refine z_goto C0 24 dX4_span_8 (by decide) ?_
    cases hf
    exact hret hP hS dX4_span_24
