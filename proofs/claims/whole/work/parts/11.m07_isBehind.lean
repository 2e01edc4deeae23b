set_option maxHeartbeats 4000000 in
set_option maxRecDepth 100000 in
theorem zmX4_isBehind (l : Launch) (D : va_G) (cI cZ : ClassId) (h : Nat → Nat) (sz : Nat) (lagV : (Nat → Int)) (deadV : (Nat → Int)) (mannerV : (Nat → Int)) (settingV : (Nat → Int)) (leastOfV : (Nat → Int)) (mostOfV : (Nat → Int)) (keptV : Int) (planeOfV : (Nat → Int)) (momentOfV : (Nat → Int)) (stripOfV : (Nat → Int)) (lateV : Int) (isOverV : Int) (isLiveV : (Nat → Int)) (endOfV : (Nat → Int)) (knownV : Int) (timeOfV : (Nat → Int)) (pulseOfV : (Nat → Int)) (groupOfV : (Nat → Int)) (groupsV : Int) (shutV : Int) (firstOfV : (Nat → Int)) (agreesV : Int) (agreeSetV : Int) (missedV : Int) (bestAV : Int) (bestBV : Int) (bestAgreesV : Int) (bestMissedV : Int) (p1 : Int) (p2 : Int) (p3 : Int) (p4 : Int) (o : Int) (hf : fX4_isBehind (zk_M lagV deadV mannerV settingV leastOfV mostOfV keptV planeOfV momentOfV stripOfV lateV isOverV isLiveV endOfV knownV timeOfV pulseOfV groupOfV groupsV shutV firstOfV agreesV agreeSetV missedV bestAV bestBV bestAgreesV bestMissedV) p1 p2 p3 p4 = some o) : Met l yX4_isBehind (zW yX4_isBehind cX4_isBehind 5 (some .boolean)) rmX4_isBehind (va_Pc [.ref (h 0), .int (zI p1), .int (zI p2), .int (zI p3), .int (zI p4)] (zPre D cI cZ ((wM h cI cZ lagV deadV mannerV settingV leastOfV mostOfV keptV planeOfV momentOfV stripOfV lateV isOverV isLiveV endOfV knownV timeOfV pulseOfV groupOfV groupsV shutV firstOfV agreesV agreeSetV missedV bestAV bestBV bestAgreesV bestMissedV)) sz)) (va_Qi (fun r' (_ : Unit) => r' = zI o) (fun _ t => va_P D vwCl ((wM h cI cZ lagV deadV mannerV settingV leastOfV mostOfV keptV planeOfV momentOfV stripOfV lateV isOverV isLiveV endOfV knownV timeOfV pulseOfV groupOfV groupsV shutV firstOfV agreesV agreeSetV missedV bestAV bestBV bestAgreesV bestMissedV)) t.heap) (va_A ((wM h cI cZ lagV deadV mannerV settingV leastOfV mostOfV keptV planeOfV momentOfV stripOfV lateV isOverV isLiveV endOfV knownV timeOfV pulseOfV groupOfV groupsV shutV firstOfV agreesV agreeSetV missedV bestAV bestBV bestAgreesV bestMissedV)) sz)) 0 0 (va_A ((wM h cI cZ lagV deadV mannerV settingV leastOfV mostOfV keptV planeOfV momentOfV stripOfV lateV isOverV isLiveV endOfV knownV timeOfV pulseOfV groupOfV groupsV shutV firstOfV agreesV agreeSetV missedV bestAV bestBV bestAgreesV bestMissedV)) sz) := by
  unfold fX4_isBehind at hf
  refine z_enter_z (own := RX4) (by decide +kernel) rfl (Nat.le_of_ble_eq_true rfl) ?_
  intro p e s m args below meth c A Q C0 hP hD hS hret ls hl
  have hl : lv_has ls 5 [(0, .ref (h 0)), (1, .int (zI p1)), (2, .int (zI p2)), (3, .int (zI p3)), (4, .int (zI p4))] := hl
  refine z_aload_n C0 dX4_isBehind_0 rfl (lv_at hl 0 rfl) ?_
  refine zgX4_31 C0 hP 0 rfl (.ref (h 8)) rfl dX4_isBehind_1 ?_
  refine z_iload_n C0 dX4_isBehind_4 rfl (lv_at hl 1 rfl) ?_
  obtain ⟨g1, hf⟩ := zg_some hf
  refine z_iald C0 hP 8 rfl (Nat.le_of_ble_eq_true rfl) g1 dX4_isBehind_5 ?_
  refine z_iload_n C0 dX4_isBehind_6 rfl (lv_at hl 3 rfl) ?_
  refine z_icmpeq C0 26 dX4_isBehind_7 (by decide) (fun c10 => ?_) (fun c10 => ?_)
  · have hf := zif_pos hf c10
    refine z_aload_n C0 dX4_isBehind_26 rfl (lv_at hl 0 rfl) ?_
    refine zgX4_28 C0 hP 0 rfl (.ref (h 7)) rfl dX4_isBehind_27 ?_
    refine z_iload_n C0 dX4_isBehind_30 rfl (lv_at hl 1 rfl) ?_
    obtain ⟨g2, hf⟩ := zg_some hf
    refine z_iald C0 hP 7 rfl (Nat.le_of_ble_eq_true rfl) g2 dX4_isBehind_31 ?_
    refine z_iload_n C0 dX4_isBehind_32 rfl (lv_at hl 2 rfl) ?_
    refine z_icmpeq C0 54 dX4_isBehind_33 (by decide) (fun c7 => ?_) (fun c7 => ?_)
    · have hf := zif_pos hf c7
      refine z_aload_n C0 dX4_isBehind_54 rfl (lv_at hl 0 rfl) ?_
      refine zgX4_34 C0 hP 0 rfl (.ref (h 9)) rfl dX4_isBehind_55 ?_
      refine z_iload_n C0 dX4_isBehind_58 rfl (lv_at hl 1 rfl) ?_
      obtain ⟨g3, hf⟩ := zg_some hf
      refine z_iald C0 hP 9 rfl (Nat.le_of_ble_eq_true rfl) g3 dX4_isBehind_59 ?_
      refine z_iload C0 dX4_isBehind_60 (lv_at hl 4 rfl) ?_
      refine z_icmple C0 69 dX4_isBehind_62 (by decide) (fun c4 => ?_) (fun c4 => ?_)
      · have hf := zif_pos hf c4
        refine z_iconst C0 dX4_isBehind_69 ?_
        cases hf
        exact hret (Or.inl rfl) hP hS dX4_isBehind_70
      · have hf := zif_neg hf c4
        refine z_iconst C0 dX4_isBehind_65 ?_
        refine z_goto C0 70 dX4_isBehind_66 (by decide) ?_
        cases hf
        exact hret (Or.inr rfl) hP hS dX4_isBehind_70
    · have hf := zif_neg hf c7
      refine z_aload_n C0 dX4_isBehind_36 rfl (lv_at hl 0 rfl) ?_
      refine zgX4_28 C0 hP 0 rfl (.ref (h 7)) rfl dX4_isBehind_37 ?_
      refine z_iload_n C0 dX4_isBehind_40 rfl (lv_at hl 1 rfl) ?_
      obtain ⟨g5, hf⟩ := zg_some hf
      refine z_iald C0 hP 7 rfl (Nat.le_of_ble_eq_true rfl) g5 dX4_isBehind_41 ?_
      refine z_iload_n C0 dX4_isBehind_42 rfl (lv_at hl 2 rfl) ?_
      refine z_icmple C0 50 dX4_isBehind_43 (by decide) (fun c6 => ?_) (fun c6 => ?_)
      · have hf := zif_pos hf c6
        refine z_iconst C0 dX4_isBehind_50 ?_
        refine z_goto C0 70 dX4_isBehind_51 (by decide) ?_
        cases hf
        exact hret (Or.inl rfl) hP hS dX4_isBehind_70
      · have hf := zif_neg hf c6
        refine z_iconst C0 dX4_isBehind_46 ?_
        refine z_goto C0 70 dX4_isBehind_47 (by decide) ?_
        cases hf
        exact hret (Or.inr rfl) hP hS dX4_isBehind_70
  · have hf := zif_neg hf c10
    refine z_aload_n C0 dX4_isBehind_10 rfl (lv_at hl 0 rfl) ?_
    refine zgX4_31 C0 hP 0 rfl (.ref (h 8)) rfl dX4_isBehind_11 ?_
    refine z_iload_n C0 dX4_isBehind_14 rfl (lv_at hl 1 rfl) ?_
    obtain ⟨g8, hf⟩ := zg_some hf
    refine z_iald C0 hP 8 rfl (Nat.le_of_ble_eq_true rfl) g8 dX4_isBehind_15 ?_
    refine z_iload_n C0 dX4_isBehind_16 rfl (lv_at hl 3 rfl) ?_
    refine z_icmple C0 24 dX4_isBehind_17 (by decide) (fun c9 => ?_) (fun c9 => ?_)
    · have hf := zif_pos hf c9
      refine z_iconst C0 dX4_isBehind_24 ?_
      cases hf
      exact hret (Or.inl rfl) hP hS dX4_isBehind_25
    · have hf := zif_neg hf c9
      refine z_iconst C0 dX4_isBehind_20 ?_
      refine z_goto C0 25 dX4_isBehind_21 (by decide) ?_
      cases hf
      exact hret (Or.inr rfl) hP hS dX4_isBehind_25
