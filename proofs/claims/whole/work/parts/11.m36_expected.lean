set_option maxHeartbeats 4000000 in
set_option maxRecDepth 100000 in
theorem zmX4_expected (l : Launch) (D : va_G) (cI cZ : ClassId) (h : Nat → Nat) (sz : Nat) (lagV : (Nat → Int)) (deadV : (Nat → Int)) (mannerV : (Nat → Int)) (settingV : (Nat → Int)) (leastOfV : (Nat → Int)) (mostOfV : (Nat → Int)) (keptV : Int) (planeOfV : (Nat → Int)) (momentOfV : (Nat → Int)) (stripOfV : (Nat → Int)) (lateV : Int) (isOverV : Int) (isLiveV : (Nat → Int)) (endOfV : (Nat → Int)) (knownV : Int) (timeOfV : (Nat → Int)) (pulseOfV : (Nat → Int)) (groupOfV : (Nat → Int)) (groupsV : Int) (shutV : Int) (firstOfV : (Nat → Int)) (agreesV : Int) (agreeSetV : Int) (missedV : Int) (bestAV : Int) (bestBV : Int) (bestAgreesV : Int) (bestMissedV : Int) (p1 : Int) (p2 : Int) (p3 : Int) (o : Int × (Nat → Int) × (Nat → Int)) (hf : fX4_expected (zk_M lagV deadV mannerV settingV leastOfV mostOfV keptV planeOfV momentOfV stripOfV lateV isOverV isLiveV endOfV knownV timeOfV pulseOfV groupOfV groupsV shutV firstOfV agreesV agreeSetV missedV bestAV bestBV bestAgreesV bestMissedV) p1 p2 p3 = some o) : Met l yX4_expected (zW yX4_expected cX4_expected 6 (some .long)) rmX4_expected (va_Pc [.ref (h 0), .int (zI p1), .int (zI p2), .int (zI p3)] (zPre D cI cZ ((wM h cI cZ lagV deadV mannerV settingV leastOfV mostOfV keptV planeOfV momentOfV stripOfV lateV isOverV isLiveV endOfV knownV timeOfV pulseOfV groupOfV groupsV shutV firstOfV agreesV agreeSetV missedV bestAV bestBV bestAgreesV bestMissedV)) sz)) (va_Ql (fun r' (_ : Unit) => r' = zL o.1) (fun _ t => va_P D vwCl ((wM h cI cZ lagV deadV mannerV settingV leastOfV mostOfV keptV planeOfV momentOfV stripOfV lateV isOverV o.2.1 o.2.2 knownV timeOfV pulseOfV groupOfV groupsV shutV firstOfV agreesV agreeSetV missedV bestAV bestBV bestAgreesV bestMissedV)) t.heap) (va_A ((wM h cI cZ lagV deadV mannerV settingV leastOfV mostOfV keptV planeOfV momentOfV stripOfV lateV isOverV isLiveV endOfV knownV timeOfV pulseOfV groupOfV groupsV shutV firstOfV agreesV agreeSetV missedV bestAV bestBV bestAgreesV bestMissedV)) sz)) 0 0 (va_A ((wM h cI cZ lagV deadV mannerV settingV leastOfV mostOfV keptV planeOfV momentOfV stripOfV lateV isOverV isLiveV endOfV knownV timeOfV pulseOfV groupOfV groupsV shutV firstOfV agreesV agreeSetV missedV bestAV bestBV bestAgreesV bestMissedV)) sz) := by
  unfold fX4_expected at hf
  refine z_enter_l (own := RX4) (by decide +kernel) rfl (Nat.le_of_ble_eq_true rfl) ?_
  intro p e s m args below meth c A Q C0 hP hD hS hret ls hl
  have hl : lv_has ls 6 [(0, .ref (h 0)), (1, .int (zI p1)), (2, .int (zI p2)), (3, .int (zI p3))] := hl
  refine z_iload_n C0 dX4_expected_0 rfl (lv_at hl 1 rfl) ?_
  obtain ⟨r1, hc2, hf⟩ := zbind hf
  refine z_callSi (rest := []) C0 hP (zD hD rfl) hS [] rfl (zmX4_isPlane l D cI cZ _ p1 r1 hc2) (zkX4_68 ⟨by decide, by decide⟩ C0.2.2.2.2.1) rfl rfl rfl hl.1 (Nat.le_of_ble_eq_true rfl) dX4_expected_1 ⟨Nat.zero_le _, Nat.zero_le _⟩ rfl (Nat.le_of_ble_eq_true rfl) (fun H locs hP hS => ?_)
  have hP : va_P D vwCl ((wM h cI cZ lagV deadV mannerV settingV leastOfV mostOfV keptV planeOfV momentOfV stripOfV lateV isOverV isLiveV endOfV knownV timeOfV pulseOfV groupOfV groupsV shutV firstOfV agreesV agreeSetV missedV bestAV bestBV bestAgreesV bestMissedV)) H := hP
  refine z_ifeq C0 42 dX4_expected_4 (by decide) (fun c24 => ?_) (fun c24 => ?_)
  · have hf := zif_pos hf c24
    refine z_ldc2 C0 zw342 dX4_expected_42 ?_
    cases hf
    exact hret hP hS dX4_expected_45
  · have hf := zif_neg hf c24
    refine z_iload_n C0 dX4_expected_7 rfl (lv_at hl 2 rfl) ?_
    obtain ⟨r3, hc4, hf⟩ := zbind hf
    refine z_callSi (rest := []) C0 hP (zD hD rfl) hS [] rfl (zmX4_isPlane l D cI cZ _ p2 r3 hc4) (zkX4_68 ⟨by decide, by decide⟩ C0.2.2.2.2.1) rfl rfl rfl hl.1 (Nat.le_of_ble_eq_true rfl) dX4_expected_8 ⟨Nat.zero_le _, Nat.zero_le _⟩ rfl (Nat.le_of_ble_eq_true rfl) (fun H locs hP hS => ?_)
    have hP : va_P D vwCl ((wM h cI cZ lagV deadV mannerV settingV leastOfV mostOfV keptV planeOfV momentOfV stripOfV lateV isOverV isLiveV endOfV knownV timeOfV pulseOfV groupOfV groupsV shutV firstOfV agreesV agreeSetV missedV bestAV bestBV bestAgreesV bestMissedV)) H := hP
    refine z_ifeq C0 42 dX4_expected_11 (by decide) (fun c23 => ?_) (fun c23 => ?_)
    · have hf := zif_pos hf c23
      refine z_ldc2 C0 zw342 dX4_expected_42 ?_
      cases hf
      exact hret hP hS dX4_expected_45
    · have hf := zif_neg hf c23
      refine z_iload_n C0 dX4_expected_14 rfl (lv_at hl 3 rfl) ?_
      refine z_iconst C0 dX4_expected_15 ?_
      refine z_iconst C0 dX4_expected_16 ?_
      obtain ⟨r5, hc6, hf⟩ := zbind hf
      refine z_callSi (rest := []) C0 hP (zD hD rfl) hS [] rfl (zmX4_within l D cI cZ _ p3 0 1 r5 hc6) (zkX4_56 ⟨by decide, by decide⟩ C0.2.2.2.2.1) rfl rfl rfl hl.1 (Nat.le_of_ble_eq_true rfl) dX4_expected_17 ⟨Nat.zero_le _, Nat.zero_le _⟩ rfl (Nat.le_of_ble_eq_true rfl) (fun H locs hP hS => ?_)
      have hP : va_P D vwCl ((wM h cI cZ lagV deadV mannerV settingV leastOfV mostOfV keptV planeOfV momentOfV stripOfV lateV isOverV isLiveV endOfV knownV timeOfV pulseOfV groupOfV groupsV shutV firstOfV agreesV agreeSetV missedV bestAV bestBV bestAgreesV bestMissedV)) H := hP
      refine z_ifeq C0 42 dX4_expected_20 (by decide) (fun c22 => ?_) (fun c22 => ?_)
      · have hf := zif_pos hf c22
        refine z_ldc2 C0 zw342 dX4_expected_42 ?_
        cases hf
        exact hret hP hS dX4_expected_45
      · have hf := zif_neg hf c22
        refine z_iload_n C0 dX4_expected_23 rfl (lv_at hl 1 rfl) ?_
        refine z_iload_n C0 dX4_expected_24 rfl (lv_at hl 2 rfl) ?_
        refine z_icmpeq C0 42 dX4_expected_25 (by decide) (fun c21 => ?_) (fun c21 => ?_)
        · have hf := zif_pos hf c21
          refine z_ldc2 C0 zw342 dX4_expected_42 ?_
          cases hf
          exact hret hP hS dX4_expected_45
        · have hf := zif_neg hf c21
          refine z_aload_n C0 dX4_expected_28 rfl (lv_at hl 0 rfl) ?_
          refine zgX4_64 C0 hP 0 rfl (.int (zI isOverV)) rfl dX4_expected_29 ?_
          refine z_ifeq C0 42 dX4_expected_32 (by decide) (fun c20 => ?_) (fun c20 => ?_)
          · have hf := zif_pos hf c20
            refine z_ldc2 C0 zw342 dX4_expected_42 ?_
            cases hf
            exact hret hP hS dX4_expected_45
          · have hf := zif_neg hf c20
            refine z_aload_n C0 dX4_expected_35 rfl (lv_at hl 0 rfl) ?_
            obtain ⟨r7, hc8, hf⟩ := zbind hf
            refine z_callFi (rest := []) C0 hP (zD hD rfl) hS (zmX4_span l D cI cZ h _ lagV deadV mannerV settingV leastOfV mostOfV keptV planeOfV momentOfV stripOfV lateV isOverV isLiveV endOfV knownV timeOfV pulseOfV groupOfV groupsV shutV firstOfV agreesV agreeSetV missedV bestAV bestBV bestAgreesV bestMissedV r7 hc8) (zkX4_142 ⟨by decide, by decide⟩ C0.2.2.2.2.1) 4 rfl rfl rfl rfl hl.1 (Nat.le_of_ble_eq_true rfl) dX4_expected_36 ⟨Nat.zero_le _, Nat.zero_le _⟩ (fun H locs hP hS => ?_)
            have hP : va_P D vwCl ((wM h cI cZ lagV deadV mannerV settingV leastOfV mostOfV keptV planeOfV momentOfV stripOfV lateV isOverV isLiveV endOfV knownV timeOfV pulseOfV groupOfV groupsV shutV firstOfV agreesV agreeSetV missedV bestAV bestBV bestAgreesV bestMissedV)) H := hP
            refine z_ifne C0 46 dX4_expected_39 (by decide) (fun c19 => ?_) (fun c19 => ?_)
            · have hf := zif_neg hf c19
              refine z_aload_n C0 dX4_expected_46 rfl (lv_at hl 0 rfl) ?_
              refine z_iload_n C0 dX4_expected_47 rfl (lv_at hl 1 rfl) ?_
              refine z_iconst C0 dX4_expected_48 ?_
              obtain ⟨r9, hc10, hf⟩ := zbind hf
              refine z_callFi (rest := []) C0 hP (zD hD rfl) hS (zmX4_manyLive l D cI cZ h _ lagV deadV mannerV settingV leastOfV mostOfV keptV planeOfV momentOfV stripOfV lateV isOverV isLiveV endOfV knownV timeOfV pulseOfV groupOfV groupsV shutV firstOfV agreesV agreeSetV missedV bestAV bestBV bestAgreesV bestMissedV p1 1 r9 hc10) (zkX4_97 ⟨by decide, by decide⟩ C0.2.2.2.2.1) 4 rfl rfl rfl rfl hl.1 (Nat.le_of_ble_eq_true rfl) dX4_expected_49 ⟨Nat.zero_le _, Nat.zero_le _⟩ (fun H locs hP hS => ?_)
              have hP : va_P D vwCl ((wM h cI cZ lagV deadV mannerV settingV leastOfV mostOfV keptV planeOfV momentOfV stripOfV lateV isOverV r9.2.1 r9.2.2 knownV timeOfV pulseOfV groupOfV groupsV shutV firstOfV agreesV agreeSetV missedV bestAV bestBV bestAgreesV bestMissedV)) H := hP
              refine z_i2l C0 dX4_expected_52 ?_
              refine z_aload_n C0 dX4_expected_53 rfl (lv_at hl 0 rfl) ?_
              refine z_iload_n C0 dX4_expected_54 rfl (lv_at hl 2 rfl) ?_
              refine z_iconst C0 dX4_expected_55 ?_
              obtain ⟨r11, hc12, hf⟩ := zbind hf
              refine z_callFi (rest := [.long (zL (zi2l r9.1))]) C0 hP (zD hD rfl) hS (zmX4_manyLive l D cI cZ h _ lagV deadV mannerV settingV leastOfV mostOfV keptV planeOfV momentOfV stripOfV lateV isOverV r9.2.1 r9.2.2 knownV timeOfV pulseOfV groupOfV groupsV shutV firstOfV agreesV agreeSetV missedV bestAV bestBV bestAgreesV bestMissedV p2 1 r11 hc12) (zkX4_97 ⟨by decide, by decide⟩ C0.2.2.2.2.1) 4 rfl rfl rfl rfl hl.1 (Nat.le_of_ble_eq_true rfl) dX4_expected_56 ⟨Nat.zero_le _, Nat.zero_le _⟩ (fun H locs hP hS => ?_)
              have hP : va_P D vwCl ((wM h cI cZ lagV deadV mannerV settingV leastOfV mostOfV keptV planeOfV momentOfV stripOfV lateV isOverV r11.2.1 r11.2.2 knownV timeOfV pulseOfV groupOfV groupsV shutV firstOfV agreesV agreeSetV missedV bestAV bestBV bestAgreesV bestMissedV)) H := hP
              refine z_i2l C0 dX4_expected_59 ?_
              refine z_lmul C0 dX4_expected_60 ?_
              obtain ⟨v13, hv13, hf⟩ := zl_some hf
              refine z_nameL hv13 ?_
              refine z_lstore C0 [(4, .long (zL v13)), (0, .ref (h 0)), (1, .int (zI p1)), (2, .int (zI p2)), (3, .int (zI p3))] dX4_expected_61 hl (by decide) rfl (fun ls hl => ?_)
              refine z_lload C0 dX4_expected_63 (lv_at hl 0 rfl) ?_
              refine z_iconst C0 dX4_expected_65 ?_
              refine z_aload_n C0 dX4_expected_66 rfl (lv_at hl 1 rfl) ?_
              refine zgX4_19 C0 hP 0 rfl (.ref (h 4)) rfl dX4_expected_67 ?_
              refine z_iconst C0 dX4_expected_70 ?_
              obtain ⟨g14, hf⟩ := zg_some hf
              refine z_iald C0 hP 4 rfl (Nat.le_of_ble_eq_true rfl) g14 dX4_expected_71 ?_
              refine z_imul C0 dX4_expected_72 ?_
              refine z_iconst C0 dX4_expected_73 ?_
              refine z_iadd C0 dX4_expected_74 ?_
              refine z_i2l C0 dX4_expected_75 ?_
              refine z_lmul C0 dX4_expected_76 ?_
              refine z_aload_n C0 dX4_expected_77 rfl (lv_at hl 1 rfl) ?_
              obtain ⟨r15, hc16, hf⟩ := zbind hf
              refine z_callFi (rest := [.long (zL (v13 * (zi2l ((2 * (settingV (Int.toNat 1))) + 1))))]) C0 hP (zD hD rfl) hS (zmX4_span l D cI cZ h _ lagV deadV mannerV settingV leastOfV mostOfV keptV planeOfV momentOfV stripOfV lateV isOverV r11.2.1 r11.2.2 knownV timeOfV pulseOfV groupOfV groupsV shutV firstOfV agreesV agreeSetV missedV bestAV bestBV bestAgreesV bestMissedV r15 hc16) (zkX4_142 ⟨by decide, by decide⟩ C0.2.2.2.2.1) 4 rfl rfl rfl rfl hl.1 (Nat.le_of_ble_eq_true rfl) dX4_expected_78 ⟨Nat.zero_le _, Nat.zero_le _⟩ (fun H locs hP hS => ?_)
              have hP : va_P D vwCl ((wM h cI cZ lagV deadV mannerV settingV leastOfV mostOfV keptV planeOfV momentOfV stripOfV lateV isOverV r11.2.1 r11.2.2 knownV timeOfV pulseOfV groupOfV groupsV shutV firstOfV agreesV agreeSetV missedV bestAV bestBV bestAgreesV bestMissedV)) H := hP
              refine z_i2l C0 dX4_expected_81 ?_
              refine z_iload_n C0 dX4_expected_82 rfl (lv_at hl 4 rfl) ?_
              obtain ⟨r17, hc18, hf⟩ := zbind hf
              refine z_callSl (rest := []) C0 hP (zD hD rfl) hS [] rfl (zmX4_inLeastTerms l D cI cZ _ (v13 * (zi2l ((2 * (settingV (Int.toNat 1))) + 1))) (zi2l r15) p3 r17 hc18) (zkX4_150 ⟨by decide, by decide⟩ C0.2.2.2.2.1) rfl rfl rfl hl.1 (Nat.le_of_ble_eq_true rfl) dX4_expected_83 ⟨Nat.zero_le _, Nat.zero_le _⟩ rfl (Nat.le_of_ble_eq_true rfl) (fun H locs hP hS => ?_)
              have hP : va_P D vwCl ((wM h cI cZ lagV deadV mannerV settingV leastOfV mostOfV keptV planeOfV momentOfV stripOfV lateV isOverV r11.2.1 r11.2.2 knownV timeOfV pulseOfV groupOfV groupsV shutV firstOfV agreesV agreeSetV missedV bestAV bestBV bestAgreesV bestMissedV)) H := hP
              cases hf
              exact hret hP hS dX4_expected_86
            · have hf := zif_pos hf c19
              refine z_ldc2 C0 zw342 dX4_expected_42 ?_
              cases hf
              exact hret hP hS dX4_expected_45
