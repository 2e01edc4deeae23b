set_option maxHeartbeats 4000000 in
set_option maxRecDepth 100000 in
theorem zmX4_tune (l : Launch) (D : va_G) (cI cZ : ClassId) (h : Nat → Nat) (sz : Nat) (lagV : (Nat → Int)) (deadV : (Nat → Int)) (mannerV : (Nat → Int)) (settingV : (Nat → Int)) (leastOfV : (Nat → Int)) (mostOfV : (Nat → Int)) (keptV : Int) (planeOfV : (Nat → Int)) (momentOfV : (Nat → Int)) (stripOfV : (Nat → Int)) (lateV : Int) (isOverV : Int) (isLiveV : (Nat → Int)) (endOfV : (Nat → Int)) (knownV : Int) (timeOfV : (Nat → Int)) (pulseOfV : (Nat → Int)) (groupOfV : (Nat → Int)) (groupsV : Int) (shutV : Int) (firstOfV : (Nat → Int)) (agreesV : Int) (agreeSetV : Int) (missedV : Int) (bestAV : Int) (bestBV : Int) (bestAgreesV : Int) (bestMissedV : Int) (p1 : Int) (p2 : Int) (o : Int × (Nat → Int)) (hf : fX4_tune (zk_M lagV deadV mannerV settingV leastOfV mostOfV keptV planeOfV momentOfV stripOfV lateV isOverV isLiveV endOfV knownV timeOfV pulseOfV groupOfV groupsV shutV firstOfV agreesV agreeSetV missedV bestAV bestBV bestAgreesV bestMissedV) p1 p2 = some o) : Met l yX4_tune (zW yX4_tune cX4_tune 4 (some .int)) rmX4_tune (va_Pc [.ref (h 0), .int (zI p1), .int (zI p2)] (zPre D cI cZ ((wM h cI cZ lagV deadV mannerV settingV leastOfV mostOfV keptV planeOfV momentOfV stripOfV lateV isOverV isLiveV endOfV knownV timeOfV pulseOfV groupOfV groupsV shutV firstOfV agreesV agreeSetV missedV bestAV bestBV bestAgreesV bestMissedV)) sz)) (va_Qi (fun r' (_ : Unit) => r' = zI o.1) (fun _ t => va_P D vwCl ((wM h cI cZ lagV deadV mannerV o.2 leastOfV mostOfV keptV planeOfV momentOfV stripOfV lateV isOverV isLiveV endOfV knownV timeOfV pulseOfV groupOfV groupsV shutV firstOfV agreesV agreeSetV missedV bestAV bestBV bestAgreesV bestMissedV)) t.heap) (va_A ((wM h cI cZ lagV deadV mannerV settingV leastOfV mostOfV keptV planeOfV momentOfV stripOfV lateV isOverV isLiveV endOfV knownV timeOfV pulseOfV groupOfV groupsV shutV firstOfV agreesV agreeSetV missedV bestAV bestBV bestAgreesV bestMissedV)) sz)) 0 0 (va_A ((wM h cI cZ lagV deadV mannerV settingV leastOfV mostOfV keptV planeOfV momentOfV stripOfV lateV isOverV isLiveV endOfV knownV timeOfV pulseOfV groupOfV groupsV shutV firstOfV agreesV agreeSetV missedV bestAV bestBV bestAgreesV bestMissedV)) sz) := by
  unfold fX4_tune at hf
  refine z_enter_i (own := RX4) (by decide +kernel) rfl (Nat.le_of_ble_eq_true rfl) ?_
  intro p e s m args below meth c A Q C0 hP hD hS hret ls hl
  have hl : lv_has ls 4 [(0, .ref (h 0)), (1, .int (zI p1)), (2, .int (zI p2))] := hl
  refine z_iload_n C0 dX4_tune_0 rfl (lv_at hl 1 rfl) ?_
  refine z_iconst C0 dX4_tune_1 ?_
  refine z_iconst C0 dX4_tune_2 ?_
  obtain ⟨r1, hc2, hf⟩ := zbind hf
  refine z_callSi (rest := []) C0 hP (zD hD rfl) hS [] rfl (zmX4_within l D cI cZ _ p1 0 3 r1 hc2) (zkX4_56 ⟨by decide, by decide⟩ C0.2.2.2.2.1) rfl rfl rfl hl.1 (Nat.le_of_ble_eq_true rfl) dX4_tune_3 ⟨Nat.zero_le _, Nat.zero_le _⟩ rfl (Nat.le_of_ble_eq_true rfl) (fun H locs hP hS => ?_)
  have hP : va_P D vwCl ((wM h cI cZ lagV deadV mannerV settingV leastOfV mostOfV keptV planeOfV momentOfV stripOfV lateV isOverV isLiveV endOfV knownV timeOfV pulseOfV groupOfV groupsV shutV firstOfV agreesV agreeSetV missedV bestAV bestBV bestAgreesV bestMissedV)) H := hP
  refine z_ifeq C0 28 dX4_tune_6 (by decide) (fun c14 => ?_) (fun c14 => ?_)
  · have hf := zif_pos hf c14
    refine z_bipush C0 dX4_tune_28 (by decide +kernel) ?_
    cases hf
    exact hret hP hS dX4_tune_30
  · have hf := zif_neg hf c14
    refine z_iload_n C0 dX4_tune_9 rfl (lv_at hl 2 rfl) ?_
    refine z_aload_n C0 dX4_tune_10 rfl (lv_at hl 0 rfl) ?_
    refine zgX4_22 C0 hP 0 rfl (.ref (h 5)) rfl dX4_tune_11 ?_
    refine z_iload_n C0 dX4_tune_14 rfl (lv_at hl 1 rfl) ?_
    obtain ⟨g3, hf⟩ := zg_some hf
    refine z_iald C0 hP 5 rfl (Nat.le_of_ble_eq_true rfl) g3 dX4_tune_15 ?_
    refine z_aload_n C0 dX4_tune_16 rfl (lv_at hl 0 rfl) ?_
    refine zgX4_25 C0 hP 0 rfl (.ref (h 6)) rfl dX4_tune_17 ?_
    refine z_iload_n C0 dX4_tune_20 rfl (lv_at hl 1 rfl) ?_
    obtain ⟨g4, hf⟩ := zg_some hf
    refine z_iald C0 hP 6 rfl (Nat.le_of_ble_eq_true rfl) g4 dX4_tune_21 ?_
    obtain ⟨r5, hc6, hf⟩ := zbind hf
    refine z_callSi (rest := []) C0 hP (zD hD rfl) hS [] rfl (zmX4_within l D cI cZ _ p2 (leastOfV (Int.toNat p1)) (mostOfV (Int.toNat p1)) r5 hc6) (zkX4_56 ⟨by decide, by decide⟩ C0.2.2.2.2.1) rfl rfl rfl hl.1 (Nat.le_of_ble_eq_true rfl) dX4_tune_22 ⟨Nat.zero_le _, Nat.zero_le _⟩ rfl (Nat.le_of_ble_eq_true rfl) (fun H locs hP hS => ?_)
    have hP : va_P D vwCl ((wM h cI cZ lagV deadV mannerV settingV leastOfV mostOfV keptV planeOfV momentOfV stripOfV lateV isOverV isLiveV endOfV knownV timeOfV pulseOfV groupOfV groupsV shutV firstOfV agreesV agreeSetV missedV bestAV bestBV bestAgreesV bestMissedV)) H := hP
    refine z_ifne C0 31 dX4_tune_25 (by decide) (fun c13 => ?_) (fun c13 => ?_)
    · have hf := zif_neg hf c13
      refine z_aload_n C0 dX4_tune_31 rfl (lv_at hl 0 rfl) ?_
      obtain ⟨r7, hc8, hf⟩ := zbind hf
      refine z_callFi (rest := []) C0 hP (zD hD rfl) hS (zmX4_isBegun l D cI cZ h _ lagV deadV mannerV settingV leastOfV mostOfV keptV planeOfV momentOfV stripOfV lateV isOverV isLiveV endOfV knownV timeOfV pulseOfV groupOfV groupsV shutV firstOfV agreesV agreeSetV missedV bestAV bestBV bestAgreesV bestMissedV r7 hc8) (zkX4_72 ⟨by decide, by decide⟩ C0.2.2.2.2.1) 4 rfl rfl rfl rfl hl.1 (Nat.le_of_ble_eq_true rfl) dX4_tune_32 ⟨Nat.zero_le _, Nat.zero_le _⟩ (fun H locs hP hS => ?_)
      have hP : va_P D vwCl ((wM h cI cZ lagV deadV mannerV settingV leastOfV mostOfV keptV planeOfV momentOfV stripOfV lateV isOverV isLiveV endOfV knownV timeOfV pulseOfV groupOfV groupsV shutV firstOfV agreesV agreeSetV missedV bestAV bestBV bestAgreesV bestMissedV)) H := hP
      refine z_ifeq C0 41 dX4_tune_35 (by decide) (fun c12 => ?_) (fun c12 => ?_)
      · have hf := zif_pos hf c12
        refine z_aload_n C0 dX4_tune_41 rfl (lv_at hl 0 rfl) ?_
        refine zgX4_19 C0 hP 0 rfl (.ref (h 4)) rfl dX4_tune_42 ?_
        refine z_iload_n C0 dX4_tune_45 rfl (lv_at hl 1 rfl) ?_
        obtain ⟨g9, hf⟩ := zg_some hf
        refine z_iald C0 hP 4 rfl (Nat.le_of_ble_eq_true rfl) g9 dX4_tune_46 ?_
        obtain ⟨v10, hv10, hf⟩ := zl_some hf
        refine z_name hv10 ?_
        refine z_istore_n C0 [(3, .int (zI v10)), (0, .ref (h 0)), (1, .int (zI p1)), (2, .int (zI p2))] dX4_tune_47 rfl hl (by decide) rfl (fun ls hl => ?_)
        refine z_aload_n C0 dX4_tune_48 rfl (lv_at hl 1 rfl) ?_
        refine zgX4_19 C0 hP 0 rfl (.ref (h 4)) rfl dX4_tune_49 ?_
        refine z_iload_n C0 dX4_tune_52 rfl (lv_at hl 2 rfl) ?_
        refine z_iload_n C0 dX4_tune_53 rfl (lv_at hl 3 rfl) ?_
        obtain ⟨g11, hf⟩ := zg_some hf
        refine z_iast C0 hP (zD hD rfl) hS 4 rfl (Nat.le_of_ble_eq_true rfl) g11 dX4_tune_54 (fun H locs hP hS => ?_)
        have hP : va_P D vwCl ((wM h cI cZ lagV deadV mannerV (zu settingV p1 p2) leastOfV mostOfV keptV planeOfV momentOfV stripOfV lateV isOverV isLiveV endOfV knownV timeOfV pulseOfV groupOfV groupsV shutV firstOfV agreesV agreeSetV missedV bestAV bestBV bestAgreesV bestMissedV)) H := hP
        refine z_iload_n C0 dX4_tune_55 rfl (lv_at hl 0 rfl) ?_
        cases hf
        exact hret hP hS dX4_tune_56
      · have hf := zif_neg hf c12
        refine z_bipush C0 dX4_tune_38 (by decide +kernel) ?_
        cases hf
        exact hret hP hS dX4_tune_40
    · have hf := zif_pos hf c13
      refine z_bipush C0 dX4_tune_28 (by decide +kernel) ?_
      cases hf
      exact hret hP hS dX4_tune_30
