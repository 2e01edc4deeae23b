set_option maxHeartbeats 4000000 in
set_option maxRecDepth 100000 in
theorem zmX4_group (l : Launch) (D : va_G) (cI cZ : ClassId) (h : Nat → Nat) (sz : Nat) (lagV : (Nat → Int)) (deadV : (Nat → Int)) (mannerV : (Nat → Int)) (settingV : (Nat → Int)) (leastOfV : (Nat → Int)) (mostOfV : (Nat → Int)) (keptV : Int) (planeOfV : (Nat → Int)) (momentOfV : (Nat → Int)) (stripOfV : (Nat → Int)) (lateV : Int) (isOverV : Int) (isLiveV : (Nat → Int)) (endOfV : (Nat → Int)) (knownV : Int) (timeOfV : (Nat → Int)) (pulseOfV : (Nat → Int)) (groupOfV : (Nat → Int)) (groupsV : Int) (shutV : Int) (firstOfV : (Nat → Int)) (agreesV : Int) (agreeSetV : Int) (missedV : Int) (bestAV : Int) (bestBV : Int) (bestAgreesV : Int) (bestMissedV : Int) (p1 : Int) (p2 : Int) (o : Int × (Nat → Int) × (Nat → Int) × Int × (Nat → Int) × (Nat → Int) × (Nat → Int) × Int × Int × (Nat → Int)) (hf : fX4_group (zk_M lagV deadV mannerV settingV leastOfV mostOfV keptV planeOfV momentOfV stripOfV lateV isOverV isLiveV endOfV knownV timeOfV pulseOfV groupOfV groupsV shutV firstOfV agreesV agreeSetV missedV bestAV bestBV bestAgreesV bestMissedV) p1 p2 = some o) : Met l yX4_group (zW yX4_group cX4_group 4 (some .int)) rmX4_group (va_Pc [.ref (h 0), .int (zI p1), .int (zI p2)] (zPre D cI cZ ((wM h cI cZ lagV deadV mannerV settingV leastOfV mostOfV keptV planeOfV momentOfV stripOfV lateV isOverV isLiveV endOfV knownV timeOfV pulseOfV groupOfV groupsV shutV firstOfV agreesV agreeSetV missedV bestAV bestBV bestAgreesV bestMissedV)) sz)) (va_Qi (fun r' (_ : Unit) => r' = zI o.1) (fun _ t => va_P D vwCl ((wM h cI cZ lagV deadV mannerV settingV leastOfV mostOfV keptV planeOfV momentOfV stripOfV lateV isOverV o.2.1 o.2.2.1 o.2.2.2.1 o.2.2.2.2.1 o.2.2.2.2.2.1 o.2.2.2.2.2.2.1 o.2.2.2.2.2.2.2.1 o.2.2.2.2.2.2.2.2.1 o.2.2.2.2.2.2.2.2.2 agreesV agreeSetV missedV bestAV bestBV bestAgreesV bestMissedV)) t.heap) (va_A ((wM h cI cZ lagV deadV mannerV settingV leastOfV mostOfV keptV planeOfV momentOfV stripOfV lateV isOverV isLiveV endOfV knownV timeOfV pulseOfV groupOfV groupsV shutV firstOfV agreesV agreeSetV missedV bestAV bestBV bestAgreesV bestMissedV)) sz)) 0 0 (va_A ((wM h cI cZ lagV deadV mannerV settingV leastOfV mostOfV keptV planeOfV momentOfV stripOfV lateV isOverV isLiveV endOfV knownV timeOfV pulseOfV groupOfV groupsV shutV firstOfV agreesV agreeSetV missedV bestAV bestBV bestAgreesV bestMissedV)) sz) := by
  unfold fX4_group at hf
  refine z_enter_i (own := RX4) (by decide +kernel) rfl (Nat.le_of_ble_eq_true rfl) ?_
  intro p e s m args below meth c A Q C0 hP hD hS hret ls hl
  have hl : lv_has ls 4 [(0, .ref (h 0)), (1, .int (zI p1)), (2, .int (zI p2))] := hl
  refine z_aload_n C0 dX4_group_0 rfl (lv_at hl 0 rfl) ?_
  refine z_iload_n C0 dX4_group_1 rfl (lv_at hl 1 rfl) ?_
  obtain ⟨r1, hc2, hf⟩ := zbind hf
  refine z_callFi (rest := []) C0 hP (zD hD rfl) hS (zmX4_isGroup l D cI cZ h _ lagV deadV mannerV settingV leastOfV mostOfV keptV planeOfV momentOfV stripOfV lateV isOverV isLiveV endOfV knownV timeOfV pulseOfV groupOfV groupsV shutV firstOfV agreesV agreeSetV missedV bestAV bestBV bestAgreesV bestMissedV p1 r1 hc2) (zkX4_123 ⟨by decide, by decide⟩ C0.2.2.2.2.1) 4 rfl rfl rfl rfl hl.1 (Nat.le_of_ble_eq_true rfl) dX4_group_2 ⟨Nat.zero_le _, Nat.zero_le _⟩ (fun H locs hP hS => ?_)
  have hP : va_P D vwCl ((wM h cI cZ lagV deadV mannerV settingV leastOfV mostOfV keptV planeOfV momentOfV stripOfV lateV isOverV r1.2.1 r1.2.2.1 r1.2.2.2.1 r1.2.2.2.2.1 r1.2.2.2.2.2.1 r1.2.2.2.2.2.2.1 r1.2.2.2.2.2.2.2.1 r1.2.2.2.2.2.2.2.2.1 r1.2.2.2.2.2.2.2.2.2 agreesV agreeSetV missedV bestAV bestBV bestAgreesV bestMissedV)) H := hP
  refine z_ifne C0 10 dX4_group_5 (by decide) (fun c25 => ?_) (fun c25 => ?_)
  · have hf := zif_neg hf c25
    refine z_aload_n C0 dX4_group_10 rfl (lv_at hl 0 rfl) ?_
    refine zgX4_53 C0 hP 0 rfl (.ref (h 15)) rfl dX4_group_11 ?_
    refine z_iload_n C0 dX4_group_14 rfl (lv_at hl 1 rfl) ?_
    obtain ⟨g3, hf⟩ := zg_some hf
    refine z_iald C0 hP 15 rfl (Nat.le_of_ble_eq_true rfl) g3 dX4_group_15 ?_
    obtain ⟨v4, hv4, hf⟩ := zl_some hf
    refine z_name hv4 ?_
    refine z_istore_n C0 [(3, .int (zI v4)), (0, .ref (h 0)), (1, .int (zI p1)), (2, .int (zI p2))] dX4_group_16 rfl hl (by decide) rfl (fun ls hl => ?_)
    refine z_iload_n C0 dX4_group_17 rfl (lv_at hl 3 rfl) ?_
    by_cases c5 : zE p2 0
    · have hf := zif_pos hf c5
      refine z_tabIn C0 c5 52 dX4_group_18 (by decide +kernel) (by decide +kernel) rfl (by decide) ?_
      refine z_aload_n C0 dX4_group_52 rfl (lv_at hl 1 rfl) ?_
      refine zgX4_44 C0 hP 0 rfl (.ref (h 12)) rfl dX4_group_53 ?_
      refine z_iload_n C0 dX4_group_56 rfl (lv_at hl 0 rfl) ?_
      obtain ⟨g6, hf⟩ := zg_some hf
      refine z_iald C0 hP 12 rfl (Nat.le_of_ble_eq_true rfl) g6 dX4_group_57 ?_
      refine z_bipush C0 dX4_group_58 (by decide +kernel) ?_
      refine z_iadd C0 dX4_group_60 ?_
      cases hf
      exact hret hP hS dX4_group_61
    · have hf := zif_neg hf c5
      by_cases c7 : zE p2 1
      · have hf := zif_pos hf c7
        refine z_tabIn C0 c7 62 dX4_group_18 (by decide +kernel) (by decide +kernel) rfl (by decide) ?_
        refine z_aload_n C0 dX4_group_62 rfl (lv_at hl 1 rfl) ?_
        refine z_iload_n C0 dX4_group_63 rfl (lv_at hl 2 rfl) ?_
        obtain ⟨r8, hc9, hf⟩ := zbind hf
        refine z_callFi (rest := []) C0 hP (zD hD rfl) hS (zmX4_setOf l D cI cZ h _ lagV deadV mannerV settingV leastOfV mostOfV keptV planeOfV momentOfV stripOfV lateV isOverV r1.2.1 r1.2.2.1 r1.2.2.2.1 r1.2.2.2.2.1 r1.2.2.2.2.2.1 r1.2.2.2.2.2.2.1 r1.2.2.2.2.2.2.2.1 r1.2.2.2.2.2.2.2.2.1 r1.2.2.2.2.2.2.2.2.2 agreesV agreeSetV missedV bestAV bestBV bestAgreesV bestMissedV p1 r8 hc9) (zkX4_126 ⟨by decide, by decide⟩ C0.2.2.2.2.1) 4 rfl rfl rfl rfl hl.1 (Nat.le_of_ble_eq_true rfl) dX4_group_64 ⟨Nat.zero_le _, Nat.zero_le _⟩ (fun H locs hP hS => ?_)
        have hP : va_P D vwCl ((wM h cI cZ lagV deadV mannerV settingV leastOfV mostOfV keptV planeOfV momentOfV stripOfV lateV isOverV r1.2.1 r1.2.2.1 r1.2.2.2.1 r1.2.2.2.2.1 r1.2.2.2.2.2.1 r1.2.2.2.2.2.2.1 r1.2.2.2.2.2.2.2.1 r1.2.2.2.2.2.2.2.2.1 r1.2.2.2.2.2.2.2.2.2 agreesV agreeSetV missedV bestAV bestBV bestAgreesV bestMissedV)) H := hP
        cases hf
        exact hret hP hS dX4_group_67
      · have hf := zif_neg hf c7
        by_cases c10 : zE p2 2
        · have hf := zif_pos hf c10
          refine z_tabIn C0 c10 68 dX4_group_18 (by decide +kernel) (by decide +kernel) rfl (by decide) ?_
          refine z_aload_n C0 dX4_group_68 rfl (lv_at hl 1 rfl) ?_
          refine z_iload_n C0 dX4_group_69 rfl (lv_at hl 2 rfl) ?_
          obtain ⟨r11, hc12, hf⟩ := zbind hf
          refine z_callFi (rest := []) C0 hP (zD hD rfl) hS (zmX4_manyIn l D cI cZ h _ lagV deadV mannerV settingV leastOfV mostOfV keptV planeOfV momentOfV stripOfV lateV isOverV r1.2.1 r1.2.2.1 r1.2.2.2.1 r1.2.2.2.2.1 r1.2.2.2.2.2.1 r1.2.2.2.2.2.2.1 r1.2.2.2.2.2.2.2.1 r1.2.2.2.2.2.2.2.2.1 r1.2.2.2.2.2.2.2.2.2 agreesV agreeSetV missedV bestAV bestBV bestAgreesV bestMissedV p1 r11 hc12) (zkX4_129 ⟨by decide, by decide⟩ C0.2.2.2.2.1) 4 rfl rfl rfl rfl hl.1 (Nat.le_of_ble_eq_true rfl) dX4_group_70 ⟨Nat.zero_le _, Nat.zero_le _⟩ (fun H locs hP hS => ?_)
          have hP : va_P D vwCl ((wM h cI cZ lagV deadV mannerV settingV leastOfV mostOfV keptV planeOfV momentOfV stripOfV lateV isOverV r1.2.1 r1.2.2.1 r1.2.2.2.1 r1.2.2.2.2.1 r1.2.2.2.2.2.1 r1.2.2.2.2.2.2.1 r1.2.2.2.2.2.2.2.1 r1.2.2.2.2.2.2.2.2.1 r1.2.2.2.2.2.2.2.2.2 agreesV agreeSetV missedV bestAV bestBV bestAgreesV bestMissedV)) H := hP
          cases hf
          exact hret hP hS dX4_group_73
        · have hf := zif_neg hf c10
          by_cases c13 : zE p2 3
          · have hf := zif_pos hf c13
            refine z_tabIn C0 c13 74 dX4_group_18 (by decide +kernel) (by decide +kernel) rfl (by decide) ?_
            refine z_aload_n C0 dX4_group_74 rfl (lv_at hl 1 rfl) ?_
            refine z_iload_n C0 dX4_group_75 rfl (lv_at hl 2 rfl) ?_
            obtain ⟨r14, hc15, hf⟩ := zbind hf
            refine z_callFi (rest := []) C0 hP (zD hD rfl) hS (zmX4_manyIn l D cI cZ h _ lagV deadV mannerV settingV leastOfV mostOfV keptV planeOfV momentOfV stripOfV lateV isOverV r1.2.1 r1.2.2.1 r1.2.2.2.1 r1.2.2.2.2.1 r1.2.2.2.2.2.1 r1.2.2.2.2.2.2.1 r1.2.2.2.2.2.2.2.1 r1.2.2.2.2.2.2.2.2.1 r1.2.2.2.2.2.2.2.2.2 agreesV agreeSetV missedV bestAV bestBV bestAgreesV bestMissedV p1 r14 hc15) (zkX4_129 ⟨by decide, by decide⟩ C0.2.2.2.2.1) 4 rfl rfl rfl rfl hl.1 (Nat.le_of_ble_eq_true rfl) dX4_group_76 ⟨Nat.zero_le _, Nat.zero_le _⟩ (fun H locs hP hS => ?_)
            have hP : va_P D vwCl ((wM h cI cZ lagV deadV mannerV settingV leastOfV mostOfV keptV planeOfV momentOfV stripOfV lateV isOverV r1.2.1 r1.2.2.1 r1.2.2.2.1 r1.2.2.2.2.1 r1.2.2.2.2.2.1 r1.2.2.2.2.2.2.1 r1.2.2.2.2.2.2.2.1 r1.2.2.2.2.2.2.2.2.1 r1.2.2.2.2.2.2.2.2.2 agreesV agreeSetV missedV bestAV bestBV bestAgreesV bestMissedV)) H := hP
            refine z_aload_n C0 dX4_group_79 rfl (lv_at hl 1 rfl) ?_
            refine z_iload_n C0 dX4_group_80 rfl (lv_at hl 2 rfl) ?_
            obtain ⟨r16, hc17, hf⟩ := zbind hf
            refine z_callFi (rest := [.int (zI r14)]) C0 hP (zD hD rfl) hS (zmX4_setOf l D cI cZ h _ lagV deadV mannerV settingV leastOfV mostOfV keptV planeOfV momentOfV stripOfV lateV isOverV r1.2.1 r1.2.2.1 r1.2.2.2.1 r1.2.2.2.2.1 r1.2.2.2.2.2.1 r1.2.2.2.2.2.2.1 r1.2.2.2.2.2.2.2.1 r1.2.2.2.2.2.2.2.2.1 r1.2.2.2.2.2.2.2.2.2 agreesV agreeSetV missedV bestAV bestBV bestAgreesV bestMissedV p1 r16 hc17) (zkX4_126 ⟨by decide, by decide⟩ C0.2.2.2.2.1) 4 rfl rfl rfl rfl hl.1 (Nat.le_of_ble_eq_true rfl) dX4_group_81 ⟨Nat.zero_le _, Nat.zero_le _⟩ (fun H locs hP hS => ?_)
            have hP : va_P D vwCl ((wM h cI cZ lagV deadV mannerV settingV leastOfV mostOfV keptV planeOfV momentOfV stripOfV lateV isOverV r1.2.1 r1.2.2.1 r1.2.2.2.1 r1.2.2.2.2.1 r1.2.2.2.2.2.1 r1.2.2.2.2.2.2.1 r1.2.2.2.2.2.2.2.1 r1.2.2.2.2.2.2.2.2.1 r1.2.2.2.2.2.2.2.2.2 agreesV agreeSetV missedV bestAV bestBV bestAgreesV bestMissedV)) H := hP
            obtain ⟨r18, hc19, hf⟩ := zbind hf
            refine z_callSi (rest := [.int (zI r14)]) C0 hP (zD hD rfl) hS [] rfl (zmX4_size l D cI cZ _ r16 r18 hc19) (zkX4_132 ⟨by decide, by decide⟩ C0.2.2.2.2.1) rfl rfl rfl hl.1 (Nat.le_of_ble_eq_true rfl) dX4_group_84 ⟨Nat.zero_le _, Nat.zero_le _⟩ rfl (Nat.le_of_ble_eq_true rfl) (fun H locs hP hS => ?_)
            have hP : va_P D vwCl ((wM h cI cZ lagV deadV mannerV settingV leastOfV mostOfV keptV planeOfV momentOfV stripOfV lateV isOverV r1.2.1 r1.2.2.1 r1.2.2.2.1 r1.2.2.2.2.1 r1.2.2.2.2.2.1 r1.2.2.2.2.2.2.1 r1.2.2.2.2.2.2.2.1 r1.2.2.2.2.2.2.2.2.1 r1.2.2.2.2.2.2.2.2.2 agreesV agreeSetV missedV bestAV bestBV bestAgreesV bestMissedV)) H := hP
            refine z_isub C0 dX4_group_87 ?_
            cases hf
            exact hret hP hS dX4_group_88
          · have hf := zif_neg hf c13
            by_cases c20 : zE p2 4
            · have hf := zif_pos hf c20
              refine z_tabIn C0 c20 89 dX4_group_18 (by decide +kernel) (by decide +kernel) rfl (by decide) ?_
              refine z_aload_n C0 dX4_group_89 rfl (lv_at hl 1 rfl) ?_
              refine zgX4_44 C0 hP 0 rfl (.ref (h 12)) rfl dX4_group_90 ?_
              refine z_iload_n C0 dX4_group_93 rfl (lv_at hl 0 rfl) ?_
              refine z_aload_n C0 dX4_group_94 rfl (lv_at hl 1 rfl) ?_
              refine z_iload_n C0 dX4_group_95 rfl (lv_at hl 2 rfl) ?_
              obtain ⟨r21, hc22, hf⟩ := zbind hf
              refine z_callFi (rest := [.int (zI v4), .ref (h 12)]) C0 hP (zD hD rfl) hS (zmX4_manyIn l D cI cZ h _ lagV deadV mannerV settingV leastOfV mostOfV keptV planeOfV momentOfV stripOfV lateV isOverV r1.2.1 r1.2.2.1 r1.2.2.2.1 r1.2.2.2.2.1 r1.2.2.2.2.2.1 r1.2.2.2.2.2.2.1 r1.2.2.2.2.2.2.2.1 r1.2.2.2.2.2.2.2.2.1 r1.2.2.2.2.2.2.2.2.2 agreesV agreeSetV missedV bestAV bestBV bestAgreesV bestMissedV p1 r21 hc22) (zkX4_129 ⟨by decide, by decide⟩ C0.2.2.2.2.1) 4 rfl rfl rfl rfl hl.1 (Nat.le_of_ble_eq_true rfl) dX4_group_96 ⟨Nat.zero_le _, Nat.zero_le _⟩ (fun H locs hP hS => ?_)
              have hP : va_P D vwCl ((wM h cI cZ lagV deadV mannerV settingV leastOfV mostOfV keptV planeOfV momentOfV stripOfV lateV isOverV r1.2.1 r1.2.2.1 r1.2.2.2.1 r1.2.2.2.2.1 r1.2.2.2.2.2.1 r1.2.2.2.2.2.2.1 r1.2.2.2.2.2.2.2.1 r1.2.2.2.2.2.2.2.2.1 r1.2.2.2.2.2.2.2.2.2 agreesV agreeSetV missedV bestAV bestBV bestAgreesV bestMissedV)) H := hP
              refine z_iadd C0 dX4_group_99 ?_
              refine z_iconst C0 dX4_group_100 ?_
              refine z_isub C0 dX4_group_101 ?_
              obtain ⟨g23, hf⟩ := zg_some hf
              refine z_iald C0 hP 12 rfl (Nat.le_of_ble_eq_true rfl) g23 dX4_group_102 ?_
              refine z_aload_n C0 dX4_group_103 rfl (lv_at hl 1 rfl) ?_
              refine zgX4_44 C0 hP 0 rfl (.ref (h 12)) rfl dX4_group_104 ?_
              refine z_iload_n C0 dX4_group_107 rfl (lv_at hl 0 rfl) ?_
              obtain ⟨g24, hf⟩ := zg_some hf
              refine z_iald C0 hP 12 rfl (Nat.le_of_ble_eq_true rfl) g24 dX4_group_108 ?_
              refine z_isub C0 dX4_group_109 ?_
              cases hf
              exact hret hP hS dX4_group_110
            · have hf := zif_neg hf c20
              refine z_tabOut C0 111 dX4_group_18 (zsw 4 (fun k hk => by rcases (show k = 0 ∨ k = 1 ∨ k = 2 ∨ k = 3 ∨ k = 4 by omega) with rfl | rfl | rfl | rfl | rfl <;> assumption)) (by decide) ?_
              refine z_bipush C0 dX4_group_111 (by decide +kernel) ?_
              cases hf
              exact hret hP hS dX4_group_113
  · have hf := zif_pos hf c25
    refine z_iconst C0 dX4_group_8 ?_
    cases hf
    exact hret hP hS dX4_group_9
