set_option maxHeartbeats 4000000 in
set_option maxRecDepth 100000 in
theorem zmX4_isTimeBehind (l : Launch) (D : va_G) (cI cZ : ClassId) (h : Nat → Nat) (sz : Nat) (lagV : (Nat → Int)) (deadV : (Nat → Int)) (mannerV : (Nat → Int)) (settingV : (Nat → Int)) (leastOfV : (Nat → Int)) (mostOfV : (Nat → Int)) (keptV : Int) (planeOfV : (Nat → Int)) (momentOfV : (Nat → Int)) (stripOfV : (Nat → Int)) (lateV : Int) (isOverV : Int) (isLiveV : (Nat → Int)) (endOfV : (Nat → Int)) (knownV : Int) (timeOfV : (Nat → Int)) (pulseOfV : (Nat → Int)) (groupOfV : (Nat → Int)) (groupsV : Int) (shutV : Int) (firstOfV : (Nat → Int)) (agreesV : Int) (agreeSetV : Int) (missedV : Int) (bestAV : Int) (bestBV : Int) (bestAgreesV : Int) (bestMissedV : Int) (p1 : Int) (p2 : Int) (p3 : Int) (o : Int) (hf : fX4_isTimeBehind (zk_M lagV deadV mannerV settingV leastOfV mostOfV keptV planeOfV momentOfV stripOfV lateV isOverV isLiveV endOfV knownV timeOfV pulseOfV groupOfV groupsV shutV firstOfV agreesV agreeSetV missedV bestAV bestBV bestAgreesV bestMissedV) p1 p2 p3 = some o) : Met l yX4_isTimeBehind (zW yX4_isTimeBehind cX4_isTimeBehind 5 (some .boolean)) rmX4_isTimeBehind (va_Pc [.ref (h 0), .int (zI p1), .int (zI p2), .int (zI p3)] (zPre D cI cZ ((wM h cI cZ lagV deadV mannerV settingV leastOfV mostOfV keptV planeOfV momentOfV stripOfV lateV isOverV isLiveV endOfV knownV timeOfV pulseOfV groupOfV groupsV shutV firstOfV agreesV agreeSetV missedV bestAV bestBV bestAgreesV bestMissedV)) sz)) (va_Qi (fun r' (_ : Unit) => r' = zI o) (fun _ t => va_P D vwCl ((wM h cI cZ lagV deadV mannerV settingV leastOfV mostOfV keptV planeOfV momentOfV stripOfV lateV isOverV isLiveV endOfV knownV timeOfV pulseOfV groupOfV groupsV shutV firstOfV agreesV agreeSetV missedV bestAV bestBV bestAgreesV bestMissedV)) t.heap) (va_A ((wM h cI cZ lagV deadV mannerV settingV leastOfV mostOfV keptV planeOfV momentOfV stripOfV lateV isOverV isLiveV endOfV knownV timeOfV pulseOfV groupOfV groupsV shutV firstOfV agreesV agreeSetV missedV bestAV bestBV bestAgreesV bestMissedV)) sz)) 0 0 (va_A ((wM h cI cZ lagV deadV mannerV settingV leastOfV mostOfV keptV planeOfV momentOfV stripOfV lateV isOverV isLiveV endOfV knownV timeOfV pulseOfV groupOfV groupsV shutV firstOfV agreesV agreeSetV missedV bestAV bestBV bestAgreesV bestMissedV)) sz) := by
  unfold fX4_isTimeBehind at hf
  refine z_enter_z (own := RX4) (by decide +kernel) rfl (Nat.le_of_ble_eq_true rfl) ?_
  intro p e s m args below meth c A Q C0 hP hD hS hret ls hl
  have hl : lv_has ls 5 [(0, .ref (h 0)), (1, .int (zI p1)), (2, .int (zI p2)), (3, .int (zI p3))] := hl
  refine z_aload_n C0 dX4_isTimeBehind_0 rfl (lv_at hl 0 rfl) ?_
  refine zgX4_44 C0 hP 0 rfl (.ref (h 12)) rfl dX4_isTimeBehind_1 ?_
  refine z_iload_n C0 dX4_isTimeBehind_4 rfl (lv_at hl 1 rfl) ?_
  obtain ⟨g1, hf⟩ := zg_some hf
  refine z_iald C0 hP 12 rfl (Nat.le_of_ble_eq_true rfl) g1 dX4_isTimeBehind_5 ?_
  refine z_iload_n C0 dX4_isTimeBehind_6 rfl (lv_at hl 2 rfl) ?_
  refine z_icmpeq C0 26 dX4_isTimeBehind_7 (by decide) (fun c15 => ?_) (fun c15 => ?_)
  · have hf := zif_pos hf c15
    refine z_aload_n C0 dX4_isTimeBehind_26 rfl (lv_at hl 0 rfl) ?_
    refine zgX4_47 C0 hP 0 rfl (.ref (h 13)) rfl dX4_isTimeBehind_27 ?_
    refine z_iload_n C0 dX4_isTimeBehind_30 rfl (lv_at hl 1 rfl) ?_
    obtain ⟨g2, hf⟩ := zg_some hf
    refine z_iald C0 hP 13 rfl (Nat.le_of_ble_eq_true rfl) g2 dX4_isTimeBehind_31 ?_
    obtain ⟨v3, hv3, hf⟩ := zl_some hf
    refine z_name hv3 ?_
    refine z_istore C0 [(4, .int (zI v3)), (0, .ref (h 0)), (1, .int (zI p1)), (2, .int (zI p2)), (3, .int (zI p3))] dX4_isTimeBehind_32 hl (by decide) rfl (fun ls hl => ?_)
    refine z_aload_n C0 dX4_isTimeBehind_34 rfl (lv_at hl 1 rfl) ?_
    refine zgX4_28 C0 hP 0 rfl (.ref (h 7)) rfl dX4_isTimeBehind_35 ?_
    refine z_iload C0 dX4_isTimeBehind_38 (lv_at hl 0 rfl) ?_
    obtain ⟨g4, hf⟩ := zg_some hf
    refine z_iald C0 hP 7 rfl (Nat.le_of_ble_eq_true rfl) g4 dX4_isTimeBehind_40 ?_
    refine z_aload_n C0 dX4_isTimeBehind_41 rfl (lv_at hl 1 rfl) ?_
    refine zgX4_28 C0 hP 0 rfl (.ref (h 7)) rfl dX4_isTimeBehind_42 ?_
    refine z_iload_n C0 dX4_isTimeBehind_45 rfl (lv_at hl 4 rfl) ?_
    obtain ⟨g5, hf⟩ := zg_some hf
    refine z_iald C0 hP 7 rfl (Nat.le_of_ble_eq_true rfl) g5 dX4_isTimeBehind_46 ?_
    refine z_icmpeq C0 74 dX4_isTimeBehind_47 (by decide) (fun c12 => ?_) (fun c12 => ?_)
    · have hf := zif_pos hf c12
      refine z_aload_n C0 dX4_isTimeBehind_74 rfl (lv_at hl 1 rfl) ?_
      refine zgX4_34 C0 hP 0 rfl (.ref (h 9)) rfl dX4_isTimeBehind_75 ?_
      refine z_iload C0 dX4_isTimeBehind_78 (lv_at hl 0 rfl) ?_
      obtain ⟨g6, hf⟩ := zg_some hf
      refine z_iald C0 hP 9 rfl (Nat.le_of_ble_eq_true rfl) g6 dX4_isTimeBehind_80 ?_
      refine z_aload_n C0 dX4_isTimeBehind_81 rfl (lv_at hl 1 rfl) ?_
      refine zgX4_34 C0 hP 0 rfl (.ref (h 9)) rfl dX4_isTimeBehind_82 ?_
      refine z_iload_n C0 dX4_isTimeBehind_85 rfl (lv_at hl 4 rfl) ?_
      obtain ⟨g7, hf⟩ := zg_some hf
      refine z_iald C0 hP 9 rfl (Nat.le_of_ble_eq_true rfl) g7 dX4_isTimeBehind_86 ?_
      refine z_icmple C0 94 dX4_isTimeBehind_87 (by decide) (fun c8 => ?_) (fun c8 => ?_)
      · have hf := zif_pos hf c8
        refine z_iconst C0 dX4_isTimeBehind_94 ?_
        cases hf
        exact hret (Or.inl rfl) hP hS dX4_isTimeBehind_95
      · have hf := zif_neg hf c8
        refine z_iconst C0 dX4_isTimeBehind_90 ?_
        refine z_goto C0 95 dX4_isTimeBehind_91 (by decide) ?_
        cases hf
        exact hret (Or.inr rfl) hP hS dX4_isTimeBehind_95
    · have hf := zif_neg hf c12
      refine z_aload_n C0 dX4_isTimeBehind_50 rfl (lv_at hl 1 rfl) ?_
      refine zgX4_28 C0 hP 0 rfl (.ref (h 7)) rfl dX4_isTimeBehind_51 ?_
      refine z_iload C0 dX4_isTimeBehind_54 (lv_at hl 0 rfl) ?_
      obtain ⟨g9, hf⟩ := zg_some hf
      refine z_iald C0 hP 7 rfl (Nat.le_of_ble_eq_true rfl) g9 dX4_isTimeBehind_56 ?_
      refine z_aload_n C0 dX4_isTimeBehind_57 rfl (lv_at hl 1 rfl) ?_
      refine zgX4_28 C0 hP 0 rfl (.ref (h 7)) rfl dX4_isTimeBehind_58 ?_
      refine z_iload_n C0 dX4_isTimeBehind_61 rfl (lv_at hl 4 rfl) ?_
      obtain ⟨g10, hf⟩ := zg_some hf
      refine z_iald C0 hP 7 rfl (Nat.le_of_ble_eq_true rfl) g10 dX4_isTimeBehind_62 ?_
      refine z_icmple C0 70 dX4_isTimeBehind_63 (by decide) (fun c11 => ?_) (fun c11 => ?_)
      · have hf := zif_pos hf c11
        refine z_iconst C0 dX4_isTimeBehind_70 ?_
        refine z_goto C0 95 dX4_isTimeBehind_71 (by decide) ?_
        cases hf
        exact hret (Or.inl rfl) hP hS dX4_isTimeBehind_95
      · have hf := zif_neg hf c11
        refine z_iconst C0 dX4_isTimeBehind_66 ?_
        refine z_goto C0 95 dX4_isTimeBehind_67 (by decide) ?_
        cases hf
        exact hret (Or.inr rfl) hP hS dX4_isTimeBehind_95
  · have hf := zif_neg hf c15
    refine z_aload_n C0 dX4_isTimeBehind_10 rfl (lv_at hl 0 rfl) ?_
    refine zgX4_44 C0 hP 0 rfl (.ref (h 12)) rfl dX4_isTimeBehind_11 ?_
    refine z_iload_n C0 dX4_isTimeBehind_14 rfl (lv_at hl 1 rfl) ?_
    obtain ⟨g13, hf⟩ := zg_some hf
    refine z_iald C0 hP 12 rfl (Nat.le_of_ble_eq_true rfl) g13 dX4_isTimeBehind_15 ?_
    refine z_iload_n C0 dX4_isTimeBehind_16 rfl (lv_at hl 2 rfl) ?_
    refine z_icmple C0 24 dX4_isTimeBehind_17 (by decide) (fun c14 => ?_) (fun c14 => ?_)
    · have hf := zif_pos hf c14
      refine z_iconst C0 dX4_isTimeBehind_24 ?_
      cases hf
      exact hret (Or.inl rfl) hP hS dX4_isTimeBehind_25
    · have hf := zif_neg hf c14
      refine z_iconst C0 dX4_isTimeBehind_20 ?_
      refine z_goto C0 25 dX4_isTimeBehind_21 (by decide) ?_
      cases hf
      exact hret (Or.inr rfl) hP hS dX4_isTimeBehind_25
