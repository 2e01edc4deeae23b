set_option maxHeartbeats 4000000 in
set_option maxRecDepth 100000 in
theorem zmX4_horizon (l : Launch) (D : va_G) (cI cZ : ClassId) (h : Nat → Nat) (sz : Nat) (lagV : (Nat → Int)) (deadV : (Nat → Int)) (mannerV : (Nat → Int)) (settingV : (Nat → Int)) (leastOfV : (Nat → Int)) (mostOfV : (Nat → Int)) (keptV : Int) (planeOfV : (Nat → Int)) (momentOfV : (Nat → Int)) (stripOfV : (Nat → Int)) (lateV : Int) (isOverV : Int) (isLiveV : (Nat → Int)) (endOfV : (Nat → Int)) (knownV : Int) (timeOfV : (Nat → Int)) (pulseOfV : (Nat → Int)) (groupOfV : (Nat → Int)) (groupsV : Int) (shutV : Int) (firstOfV : (Nat → Int)) (agreesV : Int) (agreeSetV : Int) (missedV : Int) (bestAV : Int) (bestBV : Int) (bestAgreesV : Int) (bestMissedV : Int)  (o : Int) (hf : fX4_horizon (zk_M lagV deadV mannerV settingV leastOfV mostOfV keptV planeOfV momentOfV stripOfV lateV isOverV isLiveV endOfV knownV timeOfV pulseOfV groupOfV groupsV shutV firstOfV agreesV agreeSetV missedV bestAV bestBV bestAgreesV bestMissedV) = some o) : Met l yX4_horizon (zW yX4_horizon cX4_horizon 1 (some .int)) rmX4_horizon (va_Pc [.ref (h 0)] (zPre D cI cZ ((wM h cI cZ lagV deadV mannerV settingV leastOfV mostOfV keptV planeOfV momentOfV stripOfV lateV isOverV isLiveV endOfV knownV timeOfV pulseOfV groupOfV groupsV shutV firstOfV agreesV agreeSetV missedV bestAV bestBV bestAgreesV bestMissedV)) sz)) (va_Qi (fun r' (_ : Unit) => r' = zI o) (fun _ t => va_P D vwCl ((wM h cI cZ lagV deadV mannerV settingV leastOfV mostOfV keptV planeOfV momentOfV stripOfV lateV isOverV isLiveV endOfV knownV timeOfV pulseOfV groupOfV groupsV shutV firstOfV agreesV agreeSetV missedV bestAV bestBV bestAgreesV bestMissedV)) t.heap) (va_A ((wM h cI cZ lagV deadV mannerV settingV leastOfV mostOfV keptV planeOfV momentOfV stripOfV lateV isOverV isLiveV endOfV knownV timeOfV pulseOfV groupOfV groupsV shutV firstOfV agreesV agreeSetV missedV bestAV bestBV bestAgreesV bestMissedV)) sz)) 0 0 (va_A ((wM h cI cZ lagV deadV mannerV settingV leastOfV mostOfV keptV planeOfV momentOfV stripOfV lateV isOverV isLiveV endOfV knownV timeOfV pulseOfV groupOfV groupsV shutV firstOfV agreesV agreeSetV missedV bestAV bestBV bestAgreesV bestMissedV)) sz) := by
  unfold fX4_horizon at hf
  refine z_enter_i (own := RX4) (by decide +kernel) rfl (Nat.le_of_ble_eq_true rfl) ?_
  intro p e s m args below meth c A Q C0 hP hD hS hret ls hl
  have hl : lv_has ls 1 [(0, .ref (h 0))] := hl
  refine z_aload_n C0 dX4_horizon_0 rfl (lv_at hl 0 rfl) ?_
  refine zgX4_64 C0 hP 0 rfl (.int (zI isOverV)) rfl dX4_horizon_1 ?_
  refine z_ifeq C0 13 dX4_horizon_4 (by decide) (fun c4 => ?_) (fun c4 => ?_)
  · have hf := zif_pos hf c4
    refine z_aload_n C0 dX4_horizon_13 rfl (lv_at hl 0 rfl) ?_
    refine zgX4_60 C0 hP 0 rfl (.int (zI keptV)) rfl dX4_horizon_14 ?_
    refine z_ifne C0 26 dX4_horizon_17 (by decide) (fun c3 => ?_) (fun c3 => ?_)
    · have hf := zif_neg hf c3
      refine z_aload_n C0 dX4_horizon_26 rfl (lv_at hl 0 rfl) ?_
      refine zgX4_31 C0 hP 0 rfl (.ref (h 8)) rfl dX4_horizon_27 ?_
      refine z_aload_n C0 dX4_horizon_30 rfl (lv_at hl 0 rfl) ?_
      refine zgX4_60 C0 hP 0 rfl (.int (zI keptV)) rfl dX4_horizon_31 ?_
      refine z_iconst C0 dX4_horizon_34 ?_
      refine z_isub C0 dX4_horizon_35 ?_
      obtain ⟨g1, hf⟩ := zg_some hf
      refine z_iald C0 hP 8 rfl (Nat.le_of_ble_eq_true rfl) g1 dX4_horizon_36 ?_
      refine z_aload_n C0 dX4_horizon_37 rfl (lv_at hl 0 rfl) ?_
      refine zgX4_19 C0 hP 0 rfl (.ref (h 4)) rfl dX4_horizon_38 ?_
      refine z_iconst C0 dX4_horizon_41 ?_
      obtain ⟨g2, hf⟩ := zg_some hf
      refine z_iald C0 hP 4 rfl (Nat.le_of_ble_eq_true rfl) g2 dX4_horizon_42 ?_
      refine z_isub C0 dX4_horizon_43 ?_
      cases hf
      exact hret hP hS dX4_horizon_44
    · have hf := zif_pos hf c3
      refine z_sipush C0 dX4_horizon_20 (by decide +kernel) ?_
      refine z_goto C0 44 dX4_horizon_23 (by decide) ?_
      cases hf
      exact hret hP hS dX4_horizon_44
  · have hf := zif_neg hf c4
    refine z_sipush C0 dX4_horizon_7 (by decide +kernel) ?_
    refine z_goto C0 44 dX4_horizon_10 (by decide) ?_
    cases hf
    exact hret hP hS dX4_horizon_44
