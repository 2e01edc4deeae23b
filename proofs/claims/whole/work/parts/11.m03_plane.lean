set_option maxHeartbeats 4000000 in
set_option maxRecDepth 100000 in
theorem zmX4_plane (l : Launch) (D : va_G) (cI cZ : ClassId) (h : Nat → Nat) (sz : Nat) (lagV : (Nat → Int)) (deadV : (Nat → Int)) (mannerV : (Nat → Int)) (settingV : (Nat → Int)) (leastOfV : (Nat → Int)) (mostOfV : (Nat → Int)) (keptV : Int) (planeOfV : (Nat → Int)) (momentOfV : (Nat → Int)) (stripOfV : (Nat → Int)) (lateV : Int) (isOverV : Int) (isLiveV : (Nat → Int)) (endOfV : (Nat → Int)) (knownV : Int) (timeOfV : (Nat → Int)) (pulseOfV : (Nat → Int)) (groupOfV : (Nat → Int)) (groupsV : Int) (shutV : Int) (firstOfV : (Nat → Int)) (agreesV : Int) (agreeSetV : Int) (missedV : Int) (bestAV : Int) (bestBV : Int) (bestAgreesV : Int) (bestMissedV : Int) (p1 : Int) (p2 : Int) (p3 : Int) (p4 : Int) (o : Int × (Nat → Int) × (Nat → Int) × (Nat → Int)) (hf : fX4_plane (zk_M lagV deadV mannerV settingV leastOfV mostOfV keptV planeOfV momentOfV stripOfV lateV isOverV isLiveV endOfV knownV timeOfV pulseOfV groupOfV groupsV shutV firstOfV agreesV agreeSetV missedV bestAV bestBV bestAgreesV bestMissedV) p1 p2 p3 p4 = some o) : Met l yX4_plane (zW yX4_plane cX4_plane 5 (some .int)) rmX4_plane (va_Pc [.ref (h 0), .int (zI p1), .int (zI p2), .int (zI p3), .int (zI p4)] (zPre D cI cZ ((wM h cI cZ lagV deadV mannerV settingV leastOfV mostOfV keptV planeOfV momentOfV stripOfV lateV isOverV isLiveV endOfV knownV timeOfV pulseOfV groupOfV groupsV shutV firstOfV agreesV agreeSetV missedV bestAV bestBV bestAgreesV bestMissedV)) sz)) (va_Qi (fun r' (_ : Unit) => r' = zI o.1) (fun _ t => va_P D vwCl ((wM h cI cZ o.2.1 o.2.2.1 o.2.2.2 settingV leastOfV mostOfV keptV planeOfV momentOfV stripOfV lateV isOverV isLiveV endOfV knownV timeOfV pulseOfV groupOfV groupsV shutV firstOfV agreesV agreeSetV missedV bestAV bestBV bestAgreesV bestMissedV)) t.heap) (va_A ((wM h cI cZ lagV deadV mannerV settingV leastOfV mostOfV keptV planeOfV momentOfV stripOfV lateV isOverV isLiveV endOfV knownV timeOfV pulseOfV groupOfV groupsV shutV firstOfV agreesV agreeSetV missedV bestAV bestBV bestAgreesV bestMissedV)) sz)) 0 0 (va_A ((wM h cI cZ lagV deadV mannerV settingV leastOfV mostOfV keptV planeOfV momentOfV stripOfV lateV isOverV isLiveV endOfV knownV timeOfV pulseOfV groupOfV groupsV shutV firstOfV agreesV agreeSetV missedV bestAV bestBV bestAgreesV bestMissedV)) sz) := by
  unfold fX4_plane at hf
  refine z_enter_i (own := RX4) (by decide +kernel) rfl (Nat.le_of_ble_eq_true rfl) ?_
  intro p e s m args below meth c A Q C0 hP hD hS hret ls hl
  have hl : lv_has ls 5 [(0, .ref (h 0)), (1, .int (zI p1)), (2, .int (zI p2)), (3, .int (zI p3)), (4, .int (zI p4))] := hl
  refine z_iload_n C0 dX4_plane_0 rfl (lv_at hl 1 rfl) ?_
  obtain ⟨r1, hc2, hf⟩ := zbind hf
  refine z_callSi (rest := []) C0 hP (zD hD rfl) hS [] rfl (zmX4_isPlane l D cI cZ _ p1 r1 hc2) (zkX4_68 ⟨by decide, by decide⟩ C0.2.2.2.2.1) rfl rfl rfl hl.1 (Nat.le_of_ble_eq_true rfl) dX4_plane_1 ⟨Nat.zero_le _, Nat.zero_le _⟩ rfl (Nat.le_of_ble_eq_true rfl) (fun H locs hP hS => ?_)
  have hP : va_P D vwCl ((wM h cI cZ lagV deadV mannerV settingV leastOfV mostOfV keptV planeOfV momentOfV stripOfV lateV isOverV isLiveV endOfV knownV timeOfV pulseOfV groupOfV groupsV shutV firstOfV agreesV agreeSetV missedV bestAV bestBV bestAgreesV bestMissedV)) H := hP
  refine z_ifne C0 9 dX4_plane_4 (by decide) (fun c18 => ?_) (fun c18 => ?_)
  · have hf := zif_neg hf c18
    refine z_iload_n C0 dX4_plane_9 rfl (lv_at hl 2 rfl) ?_
    refine z_iconst C0 dX4_plane_10 ?_
    refine z_bipush C0 dX4_plane_11 (by decide +kernel) ?_
    obtain ⟨r3, hc4, hf⟩ := zbind hf
    refine z_callSi (rest := []) C0 hP (zD hD rfl) hS [] rfl (zmX4_within l D cI cZ _ p2 0 30 r3 hc4) (zkX4_56 ⟨by decide, by decide⟩ C0.2.2.2.2.1) rfl rfl rfl hl.1 (Nat.le_of_ble_eq_true rfl) dX4_plane_13 ⟨Nat.zero_le _, Nat.zero_le _⟩ rfl (Nat.le_of_ble_eq_true rfl) (fun H locs hP hS => ?_)
    have hP : va_P D vwCl ((wM h cI cZ lagV deadV mannerV settingV leastOfV mostOfV keptV planeOfV momentOfV stripOfV lateV isOverV isLiveV endOfV knownV timeOfV pulseOfV groupOfV groupsV shutV firstOfV agreesV agreeSetV missedV bestAV bestBV bestAgreesV bestMissedV)) H := hP
    refine z_ifeq C0 39 dX4_plane_16 (by decide) (fun c17 => ?_) (fun c17 => ?_)
    · have hf := zif_pos hf c17
      refine z_bipush C0 dX4_plane_39 (by decide +kernel) ?_
      cases hf
      exact hret hP hS dX4_plane_41
    · have hf := zif_neg hf c17
      refine z_iload_n C0 dX4_plane_19 rfl (lv_at hl 3 rfl) ?_
      refine z_iconst C0 dX4_plane_20 ?_
      refine z_bipush C0 dX4_plane_21 (by decide +kernel) ?_
      obtain ⟨r5, hc6, hf⟩ := zbind hf
      refine z_callSi (rest := []) C0 hP (zD hD rfl) hS [] rfl (zmX4_within l D cI cZ _ p3 0 50 r5 hc6) (zkX4_56 ⟨by decide, by decide⟩ C0.2.2.2.2.1) rfl rfl rfl hl.1 (Nat.le_of_ble_eq_true rfl) dX4_plane_23 ⟨Nat.zero_le _, Nat.zero_le _⟩ rfl (Nat.le_of_ble_eq_true rfl) (fun H locs hP hS => ?_)
      have hP : va_P D vwCl ((wM h cI cZ lagV deadV mannerV settingV leastOfV mostOfV keptV planeOfV momentOfV stripOfV lateV isOverV isLiveV endOfV knownV timeOfV pulseOfV groupOfV groupsV shutV firstOfV agreesV agreeSetV missedV bestAV bestBV bestAgreesV bestMissedV)) H := hP
      refine z_ifeq C0 39 dX4_plane_26 (by decide) (fun c16 => ?_) (fun c16 => ?_)
      · have hf := zif_pos hf c16
        refine z_bipush C0 dX4_plane_39 (by decide +kernel) ?_
        cases hf
        exact hret hP hS dX4_plane_41
      · have hf := zif_neg hf c16
        refine z_iload C0 dX4_plane_29 (lv_at hl 4 rfl) ?_
        refine z_iconst C0 dX4_plane_31 ?_
        refine z_iconst C0 dX4_plane_32 ?_
        obtain ⟨r7, hc8, hf⟩ := zbind hf
        refine z_callSi (rest := []) C0 hP (zD hD rfl) hS [] rfl (zmX4_within l D cI cZ _ p4 0 1 r7 hc8) (zkX4_56 ⟨by decide, by decide⟩ C0.2.2.2.2.1) rfl rfl rfl hl.1 (Nat.le_of_ble_eq_true rfl) dX4_plane_33 ⟨Nat.zero_le _, Nat.zero_le _⟩ rfl (Nat.le_of_ble_eq_true rfl) (fun H locs hP hS => ?_)
        have hP : va_P D vwCl ((wM h cI cZ lagV deadV mannerV settingV leastOfV mostOfV keptV planeOfV momentOfV stripOfV lateV isOverV isLiveV endOfV knownV timeOfV pulseOfV groupOfV groupsV shutV firstOfV agreesV agreeSetV missedV bestAV bestBV bestAgreesV bestMissedV)) H := hP
        refine z_ifne C0 42 dX4_plane_36 (by decide) (fun c15 => ?_) (fun c15 => ?_)
        · have hf := zif_neg hf c15
          refine z_aload_n C0 dX4_plane_42 rfl (lv_at hl 0 rfl) ?_
          obtain ⟨r9, hc10, hf⟩ := zbind hf
          refine z_callFi (rest := []) C0 hP (zD hD rfl) hS (zmX4_isBegun l D cI cZ h _ lagV deadV mannerV settingV leastOfV mostOfV keptV planeOfV momentOfV stripOfV lateV isOverV isLiveV endOfV knownV timeOfV pulseOfV groupOfV groupsV shutV firstOfV agreesV agreeSetV missedV bestAV bestBV bestAgreesV bestMissedV r9 hc10) (zkX4_72 ⟨by decide, by decide⟩ C0.2.2.2.2.1) 4 rfl rfl rfl rfl hl.1 (Nat.le_of_ble_eq_true rfl) dX4_plane_43 ⟨Nat.zero_le _, Nat.zero_le _⟩ (fun H locs hP hS => ?_)
          have hP : va_P D vwCl ((wM h cI cZ lagV deadV mannerV settingV leastOfV mostOfV keptV planeOfV momentOfV stripOfV lateV isOverV isLiveV endOfV knownV timeOfV pulseOfV groupOfV groupsV shutV firstOfV agreesV agreeSetV missedV bestAV bestBV bestAgreesV bestMissedV)) H := hP
          refine z_ifeq C0 52 dX4_plane_46 (by decide) (fun c14 => ?_) (fun c14 => ?_)
          · have hf := zif_pos hf c14
            refine z_aload_n C0 dX4_plane_52 rfl (lv_at hl 0 rfl) ?_
            refine zgX4_7 C0 hP 0 rfl (.ref (h 1)) rfl dX4_plane_53 ?_
            refine z_iload_n C0 dX4_plane_56 rfl (lv_at hl 1 rfl) ?_
            refine z_iload_n C0 dX4_plane_57 rfl (lv_at hl 2 rfl) ?_
            obtain ⟨g11, hf⟩ := zg_some hf
            refine z_iast C0 hP (zD hD rfl) hS 1 rfl (Nat.le_of_ble_eq_true rfl) g11 dX4_plane_58 (fun H locs hP hS => ?_)
            have hP : va_P D vwCl ((wM h cI cZ (zu lagV p1 p2) deadV mannerV settingV leastOfV mostOfV keptV planeOfV momentOfV stripOfV lateV isOverV isLiveV endOfV knownV timeOfV pulseOfV groupOfV groupsV shutV firstOfV agreesV agreeSetV missedV bestAV bestBV bestAgreesV bestMissedV)) H := hP
            refine z_aload_n C0 dX4_plane_59 rfl (lv_at hl 0 rfl) ?_
            refine zgX4_13 C0 hP 0 rfl (.ref (h 2)) rfl dX4_plane_60 ?_
            refine z_iload_n C0 dX4_plane_63 rfl (lv_at hl 1 rfl) ?_
            refine z_iload_n C0 dX4_plane_64 rfl (lv_at hl 3 rfl) ?_
            obtain ⟨g12, hf⟩ := zg_some hf
            refine z_iast C0 hP (zD hD rfl) hS 2 rfl (Nat.le_of_ble_eq_true rfl) g12 dX4_plane_65 (fun H locs hP hS => ?_)
            have hP : va_P D vwCl ((wM h cI cZ (zu lagV p1 p2) (zu deadV p1 p3) mannerV settingV leastOfV mostOfV keptV planeOfV momentOfV stripOfV lateV isOverV isLiveV endOfV knownV timeOfV pulseOfV groupOfV groupsV shutV firstOfV agreesV agreeSetV missedV bestAV bestBV bestAgreesV bestMissedV)) H := hP
            refine z_aload_n C0 dX4_plane_66 rfl (lv_at hl 0 rfl) ?_
            refine zgX4_16 C0 hP 0 rfl (.ref (h 3)) rfl dX4_plane_67 ?_
            refine z_iload_n C0 dX4_plane_70 rfl (lv_at hl 1 rfl) ?_
            refine z_iload C0 dX4_plane_71 (lv_at hl 4 rfl) ?_
            obtain ⟨g13, hf⟩ := zg_some hf
            refine z_iast C0 hP (zD hD rfl) hS 3 rfl (Nat.le_of_ble_eq_true rfl) g13 dX4_plane_73 (fun H locs hP hS => ?_)
            have hP : va_P D vwCl ((wM h cI cZ (zu lagV p1 p2) (zu deadV p1 p3) (zu mannerV p1 p4) settingV leastOfV mostOfV keptV planeOfV momentOfV stripOfV lateV isOverV isLiveV endOfV knownV timeOfV pulseOfV groupOfV groupsV shutV firstOfV agreesV agreeSetV missedV bestAV bestBV bestAgreesV bestMissedV)) H := hP
            refine z_iconst C0 dX4_plane_74 ?_
            cases hf
            exact hret hP hS dX4_plane_75
          · have hf := zif_neg hf c14
            refine z_bipush C0 dX4_plane_49 (by decide +kernel) ?_
            cases hf
            exact hret hP hS dX4_plane_51
        · have hf := zif_pos hf c15
          refine z_bipush C0 dX4_plane_39 (by decide +kernel) ?_
          cases hf
          exact hret hP hS dX4_plane_41
  · have hf := zif_pos hf c18
    refine z_iconst C0 dX4_plane_7 ?_
    cases hf
    exact hret hP hS dX4_plane_8
