set_option maxHeartbeats 4000000 in
set_option maxRecDepth 100000 in
theorem zmX4_isAhead (l : Launch) (D : va_G) (cI cZ : ClassId) (h : Nat → Nat) (sz : Nat) (lagV : (Nat → Int)) (deadV : (Nat → Int)) (mannerV : (Nat → Int)) (settingV : (Nat → Int)) (leastOfV : (Nat → Int)) (mostOfV : (Nat → Int)) (keptV : Int) (planeOfV : (Nat → Int)) (momentOfV : (Nat → Int)) (stripOfV : (Nat → Int)) (lateV : Int) (isOverV : Int) (isLiveV : (Nat → Int)) (endOfV : (Nat → Int)) (knownV : Int) (timeOfV : (Nat → Int)) (pulseOfV : (Nat → Int)) (groupOfV : (Nat → Int)) (groupsV : Int) (shutV : Int) (firstOfV : (Nat → Int)) (agreesV : Int) (agreeSetV : Int) (missedV : Int) (bestAV : Int) (bestBV : Int) (bestAgreesV : Int) (bestMissedV : Int) (p1 : Int) (o : Int) (hf : fX4_isAhead (zk_M lagV deadV mannerV settingV leastOfV mostOfV keptV planeOfV momentOfV stripOfV lateV isOverV isLiveV endOfV knownV timeOfV pulseOfV groupOfV groupsV shutV firstOfV agreesV agreeSetV missedV bestAV bestBV bestAgreesV bestMissedV) p1 = some o) : Met l yX4_isAhead (zW yX4_isAhead cX4_isAhead 2 (some .boolean)) rmX4_isAhead (va_Pc [.ref (h 0), .int (zI p1)] (zPre D cI cZ ((wM h cI cZ lagV deadV mannerV settingV leastOfV mostOfV keptV planeOfV momentOfV stripOfV lateV isOverV isLiveV endOfV knownV timeOfV pulseOfV groupOfV groupsV shutV firstOfV agreesV agreeSetV missedV bestAV bestBV bestAgreesV bestMissedV)) sz)) (va_Qi (fun r' (_ : Unit) => r' = zI o) (fun _ t => va_P D vwCl ((wM h cI cZ lagV deadV mannerV settingV leastOfV mostOfV keptV planeOfV momentOfV stripOfV lateV isOverV isLiveV endOfV knownV timeOfV pulseOfV groupOfV groupsV shutV firstOfV agreesV agreeSetV missedV bestAV bestBV bestAgreesV bestMissedV)) t.heap) (va_A ((wM h cI cZ lagV deadV mannerV settingV leastOfV mostOfV keptV planeOfV momentOfV stripOfV lateV isOverV isLiveV endOfV knownV timeOfV pulseOfV groupOfV groupsV shutV firstOfV agreesV agreeSetV missedV bestAV bestBV bestAgreesV bestMissedV)) sz)) 0 0 (va_A ((wM h cI cZ lagV deadV mannerV settingV leastOfV mostOfV keptV planeOfV momentOfV stripOfV lateV isOverV isLiveV endOfV knownV timeOfV pulseOfV groupOfV groupsV shutV firstOfV agreesV agreeSetV missedV bestAV bestBV bestAgreesV bestMissedV)) sz) := by
  unfold fX4_isAhead at hf
  refine z_enter_z (own := RX4) (by decide +kernel) rfl (Nat.le_of_ble_eq_true rfl) ?_
  intro p e s m args below meth c A Q C0 hP hD hS hret ls hl
  have hl : lv_has ls 2 [(0, .ref (h 0)), (1, .int (zI p1))] := hl
  refine z_aload_n C0 dX4_isAhead_0 rfl (lv_at hl 0 rfl) ?_
  refine zgX4_154 C0 hP 0 rfl (.int (zI agreesV)) rfl dX4_isAhead_1 ?_
  refine z_aload_n C0 dX4_isAhead_4 rfl (lv_at hl 0 rfl) ?_
  refine zgX4_163 C0 hP 0 rfl (.int (zI bestAgreesV)) rfl dX4_isAhead_5 ?_
  refine z_icmpeq C0 28 dX4_isAhead_8 (by decide) (fun c15 => ?_) (fun c15 => ?_)
  · have hf := zif_pos hf c15
    refine z_aload_n C0 dX4_isAhead_28 rfl (lv_at hl 0 rfl) ?_
    refine zgX4_160 C0 hP 0 rfl (.int (zI missedV)) rfl dX4_isAhead_29 ?_
    refine z_aload_n C0 dX4_isAhead_32 rfl (lv_at hl 0 rfl) ?_
    refine zgX4_166 C0 hP 0 rfl (.int (zI bestMissedV)) rfl dX4_isAhead_33 ?_
    refine z_icmpeq C0 56 dX4_isAhead_36 (by decide) (fun c13 => ?_) (fun c13 => ?_)
    · have hf := zif_pos hf c13
      refine z_iload_n C0 dX4_isAhead_56 rfl (lv_at hl 1 rfl) ?_
      obtain ⟨r1, hc2, hf⟩ := zbind hf
      refine z_callSi (rest := []) C0 hP (zD hD rfl) hS [] rfl (zmX4_far l D cI cZ _ p1 r1 hc2) (zkX4_169 ⟨by decide, by decide⟩ C0.2.2.2.2.1) rfl rfl rfl hl.1 (Nat.le_of_ble_eq_true rfl) dX4_isAhead_57 ⟨Nat.zero_le _, Nat.zero_le _⟩ rfl (Nat.le_of_ble_eq_true rfl) (fun H locs hP hS => ?_)
      have hP : va_P D vwCl ((wM h cI cZ lagV deadV mannerV settingV leastOfV mostOfV keptV planeOfV momentOfV stripOfV lateV isOverV isLiveV endOfV knownV timeOfV pulseOfV groupOfV groupsV shutV firstOfV agreesV agreeSetV missedV bestAV bestBV bestAgreesV bestMissedV)) H := hP
      refine z_aload_n C0 dX4_isAhead_60 rfl (lv_at hl 0 rfl) ?_
      refine zgX4_172 C0 hP 0 rfl (.int (zI bestBV)) rfl dX4_isAhead_61 ?_
      obtain ⟨r3, hc4, hf⟩ := zbind hf
      refine z_callSi (rest := [.int (zI r1)]) C0 hP (zD hD rfl) hS [] rfl (zmX4_far l D cI cZ _ bestBV r3 hc4) (zkX4_169 ⟨by decide, by decide⟩ C0.2.2.2.2.1) rfl rfl rfl hl.1 (Nat.le_of_ble_eq_true rfl) dX4_isAhead_64 ⟨Nat.zero_le _, Nat.zero_le _⟩ rfl (Nat.le_of_ble_eq_true rfl) (fun H locs hP hS => ?_)
      have hP : va_P D vwCl ((wM h cI cZ lagV deadV mannerV settingV leastOfV mostOfV keptV planeOfV momentOfV stripOfV lateV isOverV isLiveV endOfV knownV timeOfV pulseOfV groupOfV groupsV shutV firstOfV agreesV agreeSetV missedV bestAV bestBV bestAgreesV bestMissedV)) H := hP
      refine z_icmpeq C0 92 dX4_isAhead_67 (by decide) (fun c11 => ?_) (fun c11 => ?_)
      · have hf := zif_pos hf c11
        refine z_iload_n C0 dX4_isAhead_92 rfl (lv_at hl 1 rfl) ?_
        refine z_aload_n C0 dX4_isAhead_93 rfl (lv_at hl 0 rfl) ?_
        refine zgX4_172 C0 hP 0 rfl (.int (zI bestBV)) rfl dX4_isAhead_94 ?_
        refine z_icmpge C0 104 dX4_isAhead_97 (by decide) (fun c5 => ?_) (fun c5 => ?_)
        · have hf := zif_pos hf c5
          refine z_iconst C0 dX4_isAhead_104 ?_
          cases hf
          exact hret (Or.inl rfl) hP hS dX4_isAhead_105
        · have hf := zif_neg hf c5
          refine z_iconst C0 dX4_isAhead_100 ?_
          refine z_goto C0 105 dX4_isAhead_101 (by decide) ?_
          cases hf
          exact hret (Or.inr rfl) hP hS dX4_isAhead_105
      · have hf := zif_neg hf c11
        refine z_iload_n C0 dX4_isAhead_70 rfl (lv_at hl 1 rfl) ?_
        obtain ⟨r6, hc7, hf⟩ := zbind hf
        refine z_callSi (rest := []) C0 hP (zD hD rfl) hS [] rfl (zmX4_far l D cI cZ _ p1 r6 hc7) (zkX4_169 ⟨by decide, by decide⟩ C0.2.2.2.2.1) rfl rfl rfl hl.1 (Nat.le_of_ble_eq_true rfl) dX4_isAhead_71 ⟨Nat.zero_le _, Nat.zero_le _⟩ rfl (Nat.le_of_ble_eq_true rfl) (fun H locs hP hS => ?_)
        have hP : va_P D vwCl ((wM h cI cZ lagV deadV mannerV settingV leastOfV mostOfV keptV planeOfV momentOfV stripOfV lateV isOverV isLiveV endOfV knownV timeOfV pulseOfV groupOfV groupsV shutV firstOfV agreesV agreeSetV missedV bestAV bestBV bestAgreesV bestMissedV)) H := hP
        refine z_aload_n C0 dX4_isAhead_74 rfl (lv_at hl 0 rfl) ?_
        refine zgX4_172 C0 hP 0 rfl (.int (zI bestBV)) rfl dX4_isAhead_75 ?_
        obtain ⟨r8, hc9, hf⟩ := zbind hf
        refine z_callSi (rest := [.int (zI r6)]) C0 hP (zD hD rfl) hS [] rfl (zmX4_far l D cI cZ _ bestBV r8 hc9) (zkX4_169 ⟨by decide, by decide⟩ C0.2.2.2.2.1) rfl rfl rfl hl.1 (Nat.le_of_ble_eq_true rfl) dX4_isAhead_78 ⟨Nat.zero_le _, Nat.zero_le _⟩ rfl (Nat.le_of_ble_eq_true rfl) (fun H locs hP hS => ?_)
        have hP : va_P D vwCl ((wM h cI cZ lagV deadV mannerV settingV leastOfV mostOfV keptV planeOfV momentOfV stripOfV lateV isOverV isLiveV endOfV knownV timeOfV pulseOfV groupOfV groupsV shutV firstOfV agreesV agreeSetV missedV bestAV bestBV bestAgreesV bestMissedV)) H := hP
        refine z_icmpge C0 88 dX4_isAhead_81 (by decide) (fun c10 => ?_) (fun c10 => ?_)
        · have hf := zif_pos hf c10
          refine z_iconst C0 dX4_isAhead_88 ?_
          refine z_goto C0 105 dX4_isAhead_89 (by decide) ?_
          cases hf
          exact hret (Or.inl rfl) hP hS dX4_isAhead_105
        · have hf := zif_neg hf c10
          refine z_iconst C0 dX4_isAhead_84 ?_
          refine z_goto C0 105 dX4_isAhead_85 (by decide) ?_
          cases hf
          exact hret (Or.inr rfl) hP hS dX4_isAhead_105
    · have hf := zif_neg hf c13
      refine z_aload_n C0 dX4_isAhead_39 rfl (lv_at hl 0 rfl) ?_
      refine zgX4_160 C0 hP 0 rfl (.int (zI missedV)) rfl dX4_isAhead_40 ?_
      refine z_aload_n C0 dX4_isAhead_43 rfl (lv_at hl 0 rfl) ?_
      refine zgX4_166 C0 hP 0 rfl (.int (zI bestMissedV)) rfl dX4_isAhead_44 ?_
      refine z_icmpge C0 54 dX4_isAhead_47 (by decide) (fun c12 => ?_) (fun c12 => ?_)
      · have hf := zif_pos hf c12
        refine z_iconst C0 dX4_isAhead_54 ?_
        cases hf
        exact hret (Or.inl rfl) hP hS dX4_isAhead_55
      · have hf := zif_neg hf c12
        refine z_iconst C0 dX4_isAhead_50 ?_
        refine z_goto C0 55 dX4_isAhead_51 (by decide) ?_
        cases hf
        exact hret (Or.inr rfl) hP hS dX4_isAhead_55
  · have hf := zif_neg hf c15
    refine z_aload_n C0 dX4_isAhead_11 rfl (lv_at hl 0 rfl) ?_
    refine zgX4_154 C0 hP 0 rfl (.int (zI agreesV)) rfl dX4_isAhead_12 ?_
    refine z_aload_n C0 dX4_isAhead_15 rfl (lv_at hl 0 rfl) ?_
    refine zgX4_163 C0 hP 0 rfl (.int (zI bestAgreesV)) rfl dX4_isAhead_16 ?_
    refine z_icmple C0 26 dX4_isAhead_19 (by decide) (fun c14 => ?_) (fun c14 => ?_)
    · have hf := zif_pos hf c14
      refine z_iconst C0 dX4_isAhead_26 ?_
      cases hf
      exact hret (Or.inl rfl) hP hS dX4_isAhead_27
    · have hf := zif_neg hf c14
      refine z_iconst C0 dX4_isAhead_22 ?_
      refine z_goto C0 27 dX4_isAhead_23 (by decide) ?_
      cases hf
      exact hret (Or.inr rfl) hP hS dX4_isAhead_27
