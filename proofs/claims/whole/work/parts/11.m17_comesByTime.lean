set_option maxHeartbeats 4000000 in
set_option maxRecDepth 100000 in
theorem zmX4_comesByTime (l : Launch) (D : va_G) (cI cZ : ClassId) (h : Nat → Nat) (sz : Nat) (lagV : (Nat → Int)) (deadV : (Nat → Int)) (mannerV : (Nat → Int)) (settingV : (Nat → Int)) (leastOfV : (Nat → Int)) (mostOfV : (Nat → Int)) (keptV : Int) (planeOfV : (Nat → Int)) (momentOfV : (Nat → Int)) (stripOfV : (Nat → Int)) (lateV : Int) (isOverV : Int) (isLiveV : (Nat → Int)) (endOfV : (Nat → Int)) (knownV : Int) (timeOfV : (Nat → Int)) (pulseOfV : (Nat → Int)) (groupOfV : (Nat → Int)) (groupsV : Int) (shutV : Int) (firstOfV : (Nat → Int)) (agreesV : Int) (agreeSetV : Int) (missedV : Int) (bestAV : Int) (bestBV : Int) (bestAgreesV : Int) (bestMissedV : Int) (p1 : Int) (p2 : Int) (o : Int × (Nat → Int) × (Nat → Int)) (hf : fX4_comesByTime (zk_M lagV deadV mannerV settingV leastOfV mostOfV keptV planeOfV momentOfV stripOfV lateV isOverV isLiveV endOfV knownV timeOfV pulseOfV groupOfV groupsV shutV firstOfV agreesV agreeSetV missedV bestAV bestBV bestAgreesV bestMissedV) p1 p2 = some o) : Met l yX4_comesByTime (zW yX4_comesByTime cX4_comesByTime 4 none) rmX4_comesByTime (va_Pc [.ref (h 0), .int (zI p1), .int (zI p2)] (zPre D cI cZ ((wM h cI cZ lagV deadV mannerV settingV leastOfV mostOfV keptV planeOfV momentOfV stripOfV lateV isOverV isLiveV endOfV knownV timeOfV pulseOfV groupOfV groupsV shutV firstOfV agreesV agreeSetV missedV bestAV bestBV bestAgreesV bestMissedV)) sz)) (va_Qv (fun (_ : Unit) => True) (fun _ t => va_P D vwCl ((wM h cI cZ lagV deadV mannerV settingV leastOfV mostOfV keptV planeOfV momentOfV stripOfV lateV isOverV isLiveV endOfV o.1 o.2.1 o.2.2 groupOfV groupsV shutV firstOfV agreesV agreeSetV missedV bestAV bestBV bestAgreesV bestMissedV)) t.heap) (va_A ((wM h cI cZ lagV deadV mannerV settingV leastOfV mostOfV keptV planeOfV momentOfV stripOfV lateV isOverV isLiveV endOfV knownV timeOfV pulseOfV groupOfV groupsV shutV firstOfV agreesV agreeSetV missedV bestAV bestBV bestAgreesV bestMissedV)) sz)) 0 0 (va_A ((wM h cI cZ lagV deadV mannerV settingV leastOfV mostOfV keptV planeOfV momentOfV stripOfV lateV isOverV isLiveV endOfV knownV timeOfV pulseOfV groupOfV groupsV shutV firstOfV agreesV agreeSetV missedV bestAV bestBV bestAgreesV bestMissedV)) sz) := by
  unfold fX4_comesByTime at hf
  refine z_enter_v (own := RX4) (by decide +kernel) rfl (Nat.le_of_ble_eq_true rfl) ?_
  intro p e s m args below meth c A Q C0 hP hD hS hret ls hl
  have hl : lv_has ls 4 [(0, .ref (h 0)), (1, .int (zI p1)), (2, .int (zI p2))] := hl
  refine z_aload_n C0 dX4_comesByTime_0 rfl (lv_at hl 0 rfl) ?_
  refine zgX4_101 C0 hP 0 rfl (.int (zI knownV)) rfl dX4_comesByTime_1 ?_
  refine z_istore_n C0 [(3, .int (zI knownV)), (0, .ref (h 0)), (1, .int (zI p1)), (2, .int (zI p2))] dX4_comesByTime_4 rfl hl (by decide) rfl (fun ls hl => ?_)
  have L41 : ∀ (zn : Nat) (i4 : Int) (k20 : (Nat → Int)) (k21 : (Nat → Int)) (out : Int × (Nat → Int) × (Nat → Int)), fX4_comesByTime_L5 zn (zk_M lagV deadV mannerV settingV leastOfV mostOfV keptV planeOfV momentOfV stripOfV lateV isOverV isLiveV endOfV knownV timeOfV pulseOfV groupOfV groupsV shutV firstOfV agreesV agreeSetV missedV bestAV bestBV bestAgreesV bestMissedV) p1 p2 i4 k20 k21 = some out → (∀ (H : Heap) (locs : List Loc), va_P D vwCl ((wM h cI cZ lagV deadV mannerV settingV leastOfV mostOfV keptV planeOfV momentOfV stripOfV lateV isOverV isLiveV endOfV knownV out.2.1 out.2.2 groupOfV groupsV shutV firstOfV agreesV agreeSetV missedV bestAV bestBV bestAgreesV bestMissedV)) H → va_S A s.heap H locs → ∀ ls : Array Slot, lv_has ls 4 [(0, .ref (h 0)), (1, .int (zI p1)), (2, .int (zI p2)), (3, .int (zI out.1))] → W p l e rmX4_comesByTime s m args below meth c H locs 0 0 Q (F0 m 55 ls [])) → ∀ (H : Heap) (locs : List Loc), va_P D vwCl ((wM h cI cZ lagV deadV mannerV settingV leastOfV mostOfV keptV planeOfV momentOfV stripOfV lateV isOverV isLiveV endOfV knownV k20 k21 groupOfV groupsV shutV firstOfV agreesV agreeSetV missedV bestAV bestBV bestAgreesV bestMissedV)) H → va_S A s.heap H locs → ∀ ls : Array Slot, lv_has ls 4 [(0, .ref (h 0)), (1, .int (zI p1)), (2, .int (zI p2)), (3, .int (zI i4))] → W p l e rmX4_comesByTime s m args below meth c H locs 0 0 Q (F0 m 5 ls []) := by
    intro zn
    induction zn with
    | zero =>
      intro i4 k20 k21 out hf
      rw [fX4_comesByTime_L5_z] at hf
      cases hf
    | succ zn ih =>
      intro i4 k20 k21 out hf K H locs hP hS ls hl
      rw [fX4_comesByTime_L5_s] at hf
      refine z_iload_n C0 dX4_comesByTime_5 rfl (lv_at hl 3 rfl) ?_
      refine z_ifle C0 55 dX4_comesByTime_6 (by decide) (fun c40 => ?_) (fun c40 => ?_)
      · have hf := zif_pos hf c40
        cases hf
        exact K _ _ hP hS ls (lv_sub hl [0, 1, 2, 3] rfl)
      · have hf := zif_neg hf c40
        refine z_aload_n C0 dX4_comesByTime_9 rfl (lv_at hl 0 rfl) ?_
        refine z_iload_n C0 dX4_comesByTime_10 rfl (lv_at hl 3 rfl) ?_
        refine z_iconst C0 dX4_comesByTime_11 ?_
        refine z_isub C0 dX4_comesByTime_12 ?_
        refine z_iload_n C0 dX4_comesByTime_13 rfl (lv_at hl 1 rfl) ?_
        refine z_iload_n C0 dX4_comesByTime_14 rfl (lv_at hl 2 rfl) ?_
        obtain ⟨r33, hc34, hf⟩ := zbind hf
        refine z_callFi (rest := []) C0 hP (zD hD rfl) hS (zmX4_isTimeBehind l D cI cZ h _ lagV deadV mannerV settingV leastOfV mostOfV keptV planeOfV momentOfV stripOfV lateV isOverV isLiveV endOfV knownV k20 k21 groupOfV groupsV shutV firstOfV agreesV agreeSetV missedV bestAV bestBV bestAgreesV bestMissedV (i4 - 1) p1 p2 r33 hc34) (zkX4_104 ⟨by decide, by decide⟩ C0.2.2.2.2.1) 4 rfl rfl rfl rfl hl.1 (Nat.le_of_ble_eq_true rfl) dX4_comesByTime_15 ⟨Nat.zero_le _, Nat.zero_le _⟩ (fun H locs hP hS => ?_)
        have hP : va_P D vwCl ((wM h cI cZ lagV deadV mannerV settingV leastOfV mostOfV keptV planeOfV momentOfV stripOfV lateV isOverV isLiveV endOfV knownV k20 k21 groupOfV groupsV shutV firstOfV agreesV agreeSetV missedV bestAV bestBV bestAgreesV bestMissedV)) H := hP
        refine z_ifeq C0 55 dX4_comesByTime_18 (by decide) (fun c39 => ?_) (fun c39 => ?_)
        · have hf := zif_pos hf c39
          cases hf
          exact K _ _ hP hS ls (lv_sub hl [0, 1, 2, 3] rfl)
        · have hf := zif_neg hf c39
          refine z_aload_n C0 dX4_comesByTime_21 rfl (lv_at hl 0 rfl) ?_
          refine zgX4_44 C0 hP 0 rfl (.ref (h 12)) rfl dX4_comesByTime_22 ?_
          refine z_iload_n C0 dX4_comesByTime_25 rfl (lv_at hl 3 rfl) ?_
          refine z_aload_n C0 dX4_comesByTime_26 rfl (lv_at hl 0 rfl) ?_
          refine zgX4_44 C0 hP 0 rfl (.ref (h 12)) rfl dX4_comesByTime_27 ?_
          refine z_iload_n C0 dX4_comesByTime_30 rfl (lv_at hl 3 rfl) ?_
          refine z_iconst C0 dX4_comesByTime_31 ?_
          refine z_isub C0 dX4_comesByTime_32 ?_
          obtain ⟨g35, hf⟩ := zg_some hf
          refine z_iald C0 hP 12 rfl (Nat.le_of_ble_eq_true rfl) g35 dX4_comesByTime_33 ?_
          obtain ⟨g36, hf⟩ := zg_some hf
          refine z_iast C0 hP (zD hD rfl) hS 12 rfl (Nat.le_of_ble_eq_true rfl) g36 dX4_comesByTime_34 (fun H locs hP hS => ?_)
          have hP : va_P D vwCl ((wM h cI cZ lagV deadV mannerV settingV leastOfV mostOfV keptV planeOfV momentOfV stripOfV lateV isOverV isLiveV endOfV knownV (zu k20 i4 (k20 (Int.toNat (i4 - 1)))) k21 groupOfV groupsV shutV firstOfV agreesV agreeSetV missedV bestAV bestBV bestAgreesV bestMissedV)) H := hP
          refine z_aload_n C0 dX4_comesByTime_35 rfl (lv_at hl 0 rfl) ?_
          refine zgX4_47 C0 hP 0 rfl (.ref (h 13)) rfl dX4_comesByTime_36 ?_
          refine z_iload_n C0 dX4_comesByTime_39 rfl (lv_at hl 3 rfl) ?_
          refine z_aload_n C0 dX4_comesByTime_40 rfl (lv_at hl 0 rfl) ?_
          refine zgX4_47 C0 hP 0 rfl (.ref (h 13)) rfl dX4_comesByTime_41 ?_
          refine z_iload_n C0 dX4_comesByTime_44 rfl (lv_at hl 3 rfl) ?_
          refine z_iconst C0 dX4_comesByTime_45 ?_
          refine z_isub C0 dX4_comesByTime_46 ?_
          obtain ⟨g37, hf⟩ := zg_some hf
          refine z_iald C0 hP 13 rfl (Nat.le_of_ble_eq_true rfl) g37 dX4_comesByTime_47 ?_
          obtain ⟨g38, hf⟩ := zg_some hf
          refine z_iast C0 hP (zD hD rfl) hS 13 rfl (Nat.le_of_ble_eq_true rfl) g38 dX4_comesByTime_48 (fun H locs hP hS => ?_)
          have hP : va_P D vwCl ((wM h cI cZ lagV deadV mannerV settingV leastOfV mostOfV keptV planeOfV momentOfV stripOfV lateV isOverV isLiveV endOfV knownV (zu k20 i4 (k20 (Int.toNat (i4 - 1)))) (zu k21 i4 (k21 (Int.toNat (i4 - 1)))) groupOfV groupsV shutV firstOfV agreesV agreeSetV missedV bestAV bestBV bestAgreesV bestMissedV)) H := hP
          refine z_iinc C0 [(3, .int (zI (i4 + (-1)))), (0, .ref (h 0)), (1, .int (zI p1)), (2, .int (zI p2))] dX4_comesByTime_49 hl 3 rfl (by decide) rfl (fun ls hl => ?_)
          refine z_goto C0 5 dX4_comesByTime_52 (by decide) ?_
          exact ih (i4 + (-1)) (zu k20 i4 (k20 (Int.toNat (i4 - 1)))) (zu k21 i4 (k21 (Int.toNat (i4 - 1)))) out hf K _ _ hP hS ls (lv_sub hl [1, 2, 3, 0] rfl)
  obtain ⟨r42, hE43, hf⟩ := zbind hf
  refine L41 _ knownV timeOfV pulseOfV r42 hE43 ?_ _ _ hP hS ls (lv_sub hl [1, 2, 3, 0] rfl)
  intro H locs hP hS ls hl
  refine z_aload_n C0 dX4_comesByTime_55 rfl (lv_at hl 0 rfl) ?_
  refine zgX4_44 C0 hP 0 rfl (.ref (h 12)) rfl dX4_comesByTime_56 ?_
  refine z_iload_n C0 dX4_comesByTime_59 rfl (lv_at hl 3 rfl) ?_
  refine z_iload_n C0 dX4_comesByTime_60 rfl (lv_at hl 1 rfl) ?_
  obtain ⟨g44, hf⟩ := zg_some hf
  refine z_iast C0 hP (zD hD rfl) hS 12 rfl (Nat.le_of_ble_eq_true rfl) g44 dX4_comesByTime_61 (fun H locs hP hS => ?_)
  have hP : va_P D vwCl ((wM h cI cZ lagV deadV mannerV settingV leastOfV mostOfV keptV planeOfV momentOfV stripOfV lateV isOverV isLiveV endOfV knownV (zu r42.2.1 r42.1 p1) r42.2.2 groupOfV groupsV shutV firstOfV agreesV agreeSetV missedV bestAV bestBV bestAgreesV bestMissedV)) H := hP
  refine z_aload_n C0 dX4_comesByTime_62 rfl (lv_at hl 0 rfl) ?_
  refine zgX4_47 C0 hP 0 rfl (.ref (h 13)) rfl dX4_comesByTime_63 ?_
  refine z_iload_n C0 dX4_comesByTime_66 rfl (lv_at hl 3 rfl) ?_
  refine z_iload_n C0 dX4_comesByTime_67 rfl (lv_at hl 2 rfl) ?_
  obtain ⟨g45, hf⟩ := zg_some hf
  refine z_iast C0 hP (zD hD rfl) hS 13 rfl (Nat.le_of_ble_eq_true rfl) g45 dX4_comesByTime_68 (fun H locs hP hS => ?_)
  have hP : va_P D vwCl ((wM h cI cZ lagV deadV mannerV settingV leastOfV mostOfV keptV planeOfV momentOfV stripOfV lateV isOverV isLiveV endOfV knownV (zu r42.2.1 r42.1 p1) (zu r42.2.2 r42.1 p2) groupOfV groupsV shutV firstOfV agreesV agreeSetV missedV bestAV bestBV bestAgreesV bestMissedV)) H := hP
  refine z_aload_n C0 dX4_comesByTime_69 rfl (lv_at hl 0 rfl) ?_
  refine z_dup C0 dX4_comesByTime_70 rfl ?_
  refine zgX4_101 C0 hP 0 rfl (.int (zI knownV)) rfl dX4_comesByTime_71 ?_
  refine z_iconst C0 dX4_comesByTime_74 ?_
  refine z_iadd C0 dX4_comesByTime_75 ?_
  refine zpX4_101 C0 hP (zD hD rfl) hS 0 rfl (Nat.le_of_ble_eq_true rfl) dX4_comesByTime_76 (fun H locs hP hS => ?_)
  have hP : va_P D vwCl ((wM h cI cZ lagV deadV mannerV settingV leastOfV mostOfV keptV planeOfV momentOfV stripOfV lateV isOverV isLiveV endOfV (knownV + 1) (zu r42.2.1 r42.1 p1) (zu r42.2.2 r42.1 p2) groupOfV groupsV shutV firstOfV agreesV agreeSetV missedV bestAV bestBV bestAgreesV bestMissedV)) H := hP
  cases hf
  exact hret hP hS dX4_comesByTime_79
