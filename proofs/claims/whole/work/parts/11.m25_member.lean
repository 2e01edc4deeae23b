set_option maxHeartbeats 4000000 in
set_option maxRecDepth 100000 in
theorem zmX4_member (l : Launch) (D : va_G) (cI cZ : ClassId) (h : Nat → Nat) (sz : Nat) (lagV : (Nat → Int)) (deadV : (Nat → Int)) (mannerV : (Nat → Int)) (settingV : (Nat → Int)) (leastOfV : (Nat → Int)) (mostOfV : (Nat → Int)) (keptV : Int) (planeOfV : (Nat → Int)) (momentOfV : (Nat → Int)) (stripOfV : (Nat → Int)) (lateV : Int) (isOverV : Int) (isLiveV : (Nat → Int)) (endOfV : (Nat → Int)) (knownV : Int) (timeOfV : (Nat → Int)) (pulseOfV : (Nat → Int)) (groupOfV : (Nat → Int)) (groupsV : Int) (shutV : Int) (firstOfV : (Nat → Int)) (agreesV : Int) (agreeSetV : Int) (missedV : Int) (bestAV : Int) (bestBV : Int) (bestAgreesV : Int) (bestMissedV : Int) (p1 : Int) (p2 : Int) (p3 : Int) (o : Int × (Nat → Int) × (Nat → Int) × Int × (Nat → Int) × (Nat → Int) × (Nat → Int) × Int × Int × (Nat → Int)) (hf : fX4_member (zk_M lagV deadV mannerV settingV leastOfV mostOfV keptV planeOfV momentOfV stripOfV lateV isOverV isLiveV endOfV knownV timeOfV pulseOfV groupOfV groupsV shutV firstOfV agreesV agreeSetV missedV bestAV bestBV bestAgreesV bestMissedV) p1 p2 p3 = some o) : Met l yX4_member (zW yX4_member cX4_member 5 (some .int)) rmX4_member (va_Pc [.ref (h 0), .int (zI p1), .int (zI p2), .int (zI p3)] (zPre D cI cZ ((wM h cI cZ lagV deadV mannerV settingV leastOfV mostOfV keptV planeOfV momentOfV stripOfV lateV isOverV isLiveV endOfV knownV timeOfV pulseOfV groupOfV groupsV shutV firstOfV agreesV agreeSetV missedV bestAV bestBV bestAgreesV bestMissedV)) sz)) (va_Qi (fun r' (_ : Unit) => r' = zI o.1) (fun _ t => va_P D vwCl ((wM h cI cZ lagV deadV mannerV settingV leastOfV mostOfV keptV planeOfV momentOfV stripOfV lateV isOverV o.2.1 o.2.2.1 o.2.2.2.1 o.2.2.2.2.1 o.2.2.2.2.2.1 o.2.2.2.2.2.2.1 o.2.2.2.2.2.2.2.1 o.2.2.2.2.2.2.2.2.1 o.2.2.2.2.2.2.2.2.2 agreesV agreeSetV missedV bestAV bestBV bestAgreesV bestMissedV)) t.heap) (va_A ((wM h cI cZ lagV deadV mannerV settingV leastOfV mostOfV keptV planeOfV momentOfV stripOfV lateV isOverV isLiveV endOfV knownV timeOfV pulseOfV groupOfV groupsV shutV firstOfV agreesV agreeSetV missedV bestAV bestBV bestAgreesV bestMissedV)) sz)) 0 0 (va_A ((wM h cI cZ lagV deadV mannerV settingV leastOfV mostOfV keptV planeOfV momentOfV stripOfV lateV isOverV isLiveV endOfV knownV timeOfV pulseOfV groupOfV groupsV shutV firstOfV agreesV agreeSetV missedV bestAV bestBV bestAgreesV bestMissedV)) sz) := by
  unfold fX4_member at hf
  refine z_enter_i (own := RX4) (by decide +kernel) rfl (Nat.le_of_ble_eq_true rfl) ?_
  intro p e s m args below meth c A Q C0 hP hD hS hret ls hl
  have hl : lv_has ls 5 [(0, .ref (h 0)), (1, .int (zI p1)), (2, .int (zI p2)), (3, .int (zI p3))] := hl
  refine z_aload_n C0 dX4_member_0 rfl (lv_at hl 0 rfl) ?_
  refine z_iload_n C0 dX4_member_1 rfl (lv_at hl 1 rfl) ?_
  obtain ⟨r1, hc2, hf⟩ := zbind hf
  refine z_callFi (rest := []) C0 hP (zD hD rfl) hS (zmX4_isGroup l D cI cZ h _ lagV deadV mannerV settingV leastOfV mostOfV keptV planeOfV momentOfV stripOfV lateV isOverV isLiveV endOfV knownV timeOfV pulseOfV groupOfV groupsV shutV firstOfV agreesV agreeSetV missedV bestAV bestBV bestAgreesV bestMissedV p1 r1 hc2) (zkX4_123 ⟨by decide, by decide⟩ C0.2.2.2.2.1) 4 rfl rfl rfl rfl hl.1 (Nat.le_of_ble_eq_true rfl) dX4_member_2 ⟨Nat.zero_le _, Nat.zero_le _⟩ (fun H locs hP hS => ?_)
  have hP : va_P D vwCl ((wM h cI cZ lagV deadV mannerV settingV leastOfV mostOfV keptV planeOfV momentOfV stripOfV lateV isOverV r1.2.1 r1.2.2.1 r1.2.2.2.1 r1.2.2.2.2.1 r1.2.2.2.2.2.1 r1.2.2.2.2.2.2.1 r1.2.2.2.2.2.2.2.1 r1.2.2.2.2.2.2.2.2.1 r1.2.2.2.2.2.2.2.2.2 agreesV agreeSetV missedV bestAV bestBV bestAgreesV bestMissedV)) H := hP
  refine z_ifeq C0 15 dX4_member_5 (by decide) (fun c17 => ?_) (fun c17 => ?_)
  · have hf := zif_pos hf c17
    refine z_iconst C0 dX4_member_15 ?_
    cases hf
    exact hret hP hS dX4_member_16
  · have hf := zif_neg hf c17
    refine z_iload_n C0 dX4_member_8 rfl (lv_at hl 2 rfl) ?_
    obtain ⟨r3, hc4, hf⟩ := zbind hf
    refine z_callSi (rest := []) C0 hP (zD hD rfl) hS [] rfl (zmX4_isPlane l D cI cZ _ p2 r3 hc4) (zkX4_68 ⟨by decide, by decide⟩ C0.2.2.2.2.1) rfl rfl rfl hl.1 (Nat.le_of_ble_eq_true rfl) dX4_member_9 ⟨Nat.zero_le _, Nat.zero_le _⟩ rfl (Nat.le_of_ble_eq_true rfl) (fun H locs hP hS => ?_)
    have hP : va_P D vwCl ((wM h cI cZ lagV deadV mannerV settingV leastOfV mostOfV keptV planeOfV momentOfV stripOfV lateV isOverV r1.2.1 r1.2.2.1 r1.2.2.2.1 r1.2.2.2.2.1 r1.2.2.2.2.2.1 r1.2.2.2.2.2.2.1 r1.2.2.2.2.2.2.2.1 r1.2.2.2.2.2.2.2.2.1 r1.2.2.2.2.2.2.2.2.2 agreesV agreeSetV missedV bestAV bestBV bestAgreesV bestMissedV)) H := hP
    refine z_ifne C0 17 dX4_member_12 (by decide) (fun c16 => ?_) (fun c16 => ?_)
    · have hf := zif_neg hf c16
      refine z_iload_n C0 dX4_member_17 rfl (lv_at hl 3 rfl) ?_
      refine z_iconst C0 dX4_member_18 ?_
      refine z_iconst C0 dX4_member_19 ?_
      obtain ⟨r5, hc6, hf⟩ := zbind hf
      refine z_callSi (rest := []) C0 hP (zD hD rfl) hS [] rfl (zmX4_within l D cI cZ _ p3 0 1 r5 hc6) (zkX4_56 ⟨by decide, by decide⟩ C0.2.2.2.2.1) rfl rfl rfl hl.1 (Nat.le_of_ble_eq_true rfl) dX4_member_20 ⟨Nat.zero_le _, Nat.zero_le _⟩ rfl (Nat.le_of_ble_eq_true rfl) (fun H locs hP hS => ?_)
      have hP : va_P D vwCl ((wM h cI cZ lagV deadV mannerV settingV leastOfV mostOfV keptV planeOfV momentOfV stripOfV lateV isOverV r1.2.1 r1.2.2.1 r1.2.2.2.1 r1.2.2.2.2.1 r1.2.2.2.2.2.1 r1.2.2.2.2.2.2.1 r1.2.2.2.2.2.2.2.1 r1.2.2.2.2.2.2.2.2.1 r1.2.2.2.2.2.2.2.2.2 agreesV agreeSetV missedV bestAV bestBV bestAgreesV bestMissedV)) H := hP
      refine z_ifne C0 29 dX4_member_23 (by decide) (fun c15 => ?_) (fun c15 => ?_)
      · have hf := zif_neg hf c15
        refine z_aload_n C0 dX4_member_29 rfl (lv_at hl 0 rfl) ?_
        refine z_iload_n C0 dX4_member_30 rfl (lv_at hl 1 rfl) ?_
        refine z_iload_n C0 dX4_member_31 rfl (lv_at hl 2 rfl) ?_
        obtain ⟨r7, hc8, hf⟩ := zbind hf
        refine z_callFi (rest := []) C0 hP (zD hD rfl) hS (zmX4_memberIn l D cI cZ h _ lagV deadV mannerV settingV leastOfV mostOfV keptV planeOfV momentOfV stripOfV lateV isOverV r1.2.1 r1.2.2.1 r1.2.2.2.1 r1.2.2.2.2.1 r1.2.2.2.2.2.1 r1.2.2.2.2.2.2.1 r1.2.2.2.2.2.2.2.1 r1.2.2.2.2.2.2.2.2.1 r1.2.2.2.2.2.2.2.2.2 agreesV agreeSetV missedV bestAV bestBV bestAgreesV bestMissedV p1 p2 r7 hc8) (zkX4_135 ⟨by decide, by decide⟩ C0.2.2.2.2.1) 4 rfl rfl rfl rfl hl.1 (Nat.le_of_ble_eq_true rfl) dX4_member_32 ⟨Nat.zero_le _, Nat.zero_le _⟩ (fun H locs hP hS => ?_)
        have hP : va_P D vwCl ((wM h cI cZ lagV deadV mannerV settingV leastOfV mostOfV keptV planeOfV momentOfV stripOfV lateV isOverV r1.2.1 r1.2.2.1 r1.2.2.2.1 r1.2.2.2.2.1 r1.2.2.2.2.2.1 r1.2.2.2.2.2.2.1 r1.2.2.2.2.2.2.2.1 r1.2.2.2.2.2.2.2.2.1 r1.2.2.2.2.2.2.2.2.2 agreesV agreeSetV missedV bestAV bestBV bestAgreesV bestMissedV)) H := hP
        refine z_istore C0 [(4, .int (zI r7)), (0, .ref (h 0)), (1, .int (zI p1)), (2, .int (zI p2)), (3, .int (zI p3))] dX4_member_35 hl (by decide) rfl (fun ls hl => ?_)
        refine z_iload C0 dX4_member_37 (lv_at hl 0 rfl) ?_
        refine z_bipush C0 dX4_member_39 (by decide +kernel) ?_
        refine z_icmpne C0 49 dX4_member_41 (by decide) (fun c14 => ?_) (fun c14 => ?_)
        · have hf := zif_neg hf c14
          refine z_iload_n C0 dX4_member_49 rfl (lv_at hl 4 rfl) ?_
          refine z_ifne C0 68 dX4_member_50 (by decide) (fun c13 => ?_) (fun c13 => ?_)
          · have hf := zif_neg hf c13
            refine z_aload_n C0 dX4_member_68 rfl (lv_at hl 1 rfl) ?_
            refine zgX4_34 C0 hP 0 rfl (.ref (h 9)) rfl dX4_member_69 ?_
            refine z_aload_n C0 dX4_member_72 rfl (lv_at hl 1 rfl) ?_
            refine zgX4_47 C0 hP 0 rfl (.ref (h 13)) rfl dX4_member_73 ?_
            refine z_iload C0 dX4_member_76 (lv_at hl 0 rfl) ?_
            obtain ⟨g9, hf⟩ := zg_some hf
            refine z_iald C0 hP 13 rfl (Nat.le_of_ble_eq_true rfl) g9 dX4_member_78 ?_
            obtain ⟨g10, hf⟩ := zg_some hf
            refine z_iald C0 hP 9 rfl (Nat.le_of_ble_eq_true rfl) g10 dX4_member_79 ?_
            cases hf
            exact hret hP hS dX4_member_80
          · have hf := zif_pos hf c13
            refine z_aload_n C0 dX4_member_53 rfl (lv_at hl 1 rfl) ?_
            refine zgX4_31 C0 hP 0 rfl (.ref (h 8)) rfl dX4_member_54 ?_
            refine z_aload_n C0 dX4_member_57 rfl (lv_at hl 1 rfl) ?_
            refine zgX4_47 C0 hP 0 rfl (.ref (h 13)) rfl dX4_member_58 ?_
            refine z_iload C0 dX4_member_61 (lv_at hl 0 rfl) ?_
            obtain ⟨g11, hf⟩ := zg_some hf
            refine z_iald C0 hP 13 rfl (Nat.le_of_ble_eq_true rfl) g11 dX4_member_63 ?_
            obtain ⟨g12, hf⟩ := zg_some hf
            refine z_iald C0 hP 8 rfl (Nat.le_of_ble_eq_true rfl) g12 dX4_member_64 ?_
            refine z_goto C0 80 dX4_member_65 (by decide) ?_
            cases hf
            exact hret hP hS dX4_member_80
        · have hf := zif_pos hf c14
          refine z_bipush C0 dX4_member_44 (by decide +kernel) ?_
          refine z_goto C0 80 dX4_member_46 (by decide) ?_
          cases hf
          exact hret hP hS dX4_member_80
      · have hf := zif_pos hf c15
        refine z_bipush C0 dX4_member_26 (by decide +kernel) ?_
        cases hf
        exact hret hP hS dX4_member_28
    · have hf := zif_pos hf c16
      refine z_iconst C0 dX4_member_15 ?_
      cases hf
      exact hret hP hS dX4_member_16
