set_option maxHeartbeats 4000000 in
set_option maxRecDepth 100000 in
theorem zmX4_coincidences (l : Launch) (D : va_G) (cI cZ : ClassId) (h : Nat → Nat) (sz : Nat) (lagV : (Nat → Int)) (deadV : (Nat → Int)) (mannerV : (Nat → Int)) (settingV : (Nat → Int)) (leastOfV : (Nat → Int)) (mostOfV : (Nat → Int)) (keptV : Int) (planeOfV : (Nat → Int)) (momentOfV : (Nat → Int)) (stripOfV : (Nat → Int)) (lateV : Int) (isOverV : Int) (isLiveV : (Nat → Int)) (endOfV : (Nat → Int)) (knownV : Int) (timeOfV : (Nat → Int)) (pulseOfV : (Nat → Int)) (groupOfV : (Nat → Int)) (groupsV : Int) (shutV : Int) (firstOfV : (Nat → Int)) (agreesV : Int) (agreeSetV : Int) (missedV : Int) (bestAV : Int) (bestBV : Int) (bestAgreesV : Int) (bestMissedV : Int) (p1 : Int) (o : Int) (hf : fX4_coincidences (zk_M lagV deadV mannerV settingV leastOfV mostOfV keptV planeOfV momentOfV stripOfV lateV isOverV isLiveV endOfV knownV timeOfV pulseOfV groupOfV groupsV shutV firstOfV agreesV agreeSetV missedV bestAV bestBV bestAgreesV bestMissedV) p1 = some o) : Met l yX4_coincidences (zW yX4_coincidences cX4_coincidences 4 (some .int)) rmX4_coincidences (va_Pc [.ref (h 0), .int (zI p1)] (zPre D cI cZ ((wM h cI cZ lagV deadV mannerV settingV leastOfV mostOfV keptV planeOfV momentOfV stripOfV lateV isOverV isLiveV endOfV knownV timeOfV pulseOfV groupOfV groupsV shutV firstOfV agreesV agreeSetV missedV bestAV bestBV bestAgreesV bestMissedV)) sz)) (va_Qi (fun r' (_ : Unit) => r' = zI o) (fun _ t => va_P D vwCl ((wM h cI cZ lagV deadV mannerV settingV leastOfV mostOfV keptV planeOfV momentOfV stripOfV lateV isOverV isLiveV endOfV knownV timeOfV pulseOfV groupOfV groupsV shutV firstOfV agreesV agreeSetV missedV bestAV bestBV bestAgreesV bestMissedV)) t.heap) (va_A ((wM h cI cZ lagV deadV mannerV settingV leastOfV mostOfV keptV planeOfV momentOfV stripOfV lateV isOverV isLiveV endOfV knownV timeOfV pulseOfV groupOfV groupsV shutV firstOfV agreesV agreeSetV missedV bestAV bestBV bestAgreesV bestMissedV)) sz)) 0 0 (va_A ((wM h cI cZ lagV deadV mannerV settingV leastOfV mostOfV keptV planeOfV momentOfV stripOfV lateV isOverV isLiveV endOfV knownV timeOfV pulseOfV groupOfV groupsV shutV firstOfV agreesV agreeSetV missedV bestAV bestBV bestAgreesV bestMissedV)) sz) := by
  unfold fX4_coincidences at hf
  refine z_enter_i (own := RX4) (by decide +kernel) rfl (Nat.le_of_ble_eq_true rfl) ?_
  intro p e s m args below meth c A Q C0 hP hD hS hret ls hl
  have hl : lv_has ls 4 [(0, .ref (h 0)), (1, .int (zI p1))] := hl
  refine z_iconst C0 dX4_coincidences_0 ?_
  refine z_istore_n C0 [(2, .int (zI 0)), (0, .ref (h 0)), (1, .int (zI p1))] dX4_coincidences_1 rfl hl (by decide) rfl (fun ls hl => ?_)
  refine z_iconst C0 dX4_coincidences_2 ?_
  refine z_istore_n C0 [(3, .int (zI 0)), (2, .int (zI 0)), (0, .ref (h 0)), (1, .int (zI p1))] dX4_coincidences_3 rfl hl (by decide) rfl (fun ls hl => ?_)
  have L44 : ∀ (zn : Nat) (i3 : Int) (i4 : Int) (out : Int), fX4_coincidences_L4 zn (zk_M lagV deadV mannerV settingV leastOfV mostOfV keptV planeOfV momentOfV stripOfV lateV isOverV isLiveV endOfV knownV timeOfV pulseOfV groupOfV groupsV shutV firstOfV agreesV agreeSetV missedV bestAV bestBV bestAgreesV bestMissedV) p1 i3 i4 = some out → (∀ (H : Heap) (locs : List Loc), va_P D vwCl ((wM h cI cZ lagV deadV mannerV settingV leastOfV mostOfV keptV planeOfV momentOfV stripOfV lateV isOverV isLiveV endOfV knownV timeOfV pulseOfV groupOfV groupsV shutV firstOfV agreesV agreeSetV missedV bestAV bestBV bestAgreesV bestMissedV)) H → va_S A s.heap H locs → ∀ ls : Array Slot, lv_has ls 4 [(2, .int (zI out))] → W p l e rmX4_coincidences s m args below meth c H locs 0 0 Q (F0 m 40 ls [])) → ∀ (H : Heap) (locs : List Loc), va_P D vwCl ((wM h cI cZ lagV deadV mannerV settingV leastOfV mostOfV keptV planeOfV momentOfV stripOfV lateV isOverV isLiveV endOfV knownV timeOfV pulseOfV groupOfV groupsV shutV firstOfV agreesV agreeSetV missedV bestAV bestBV bestAgreesV bestMissedV)) H → va_S A s.heap H locs → ∀ ls : Array Slot, lv_has ls 4 [(0, .ref (h 0)), (1, .int (zI p1)), (2, .int (zI i3)), (3, .int (zI i4))] → W p l e rmX4_coincidences s m args below meth c H locs 0 0 Q (F0 m 4 ls []) := by
    intro zn
    induction zn with
    | zero =>
      intro i3 i4 out hf
      rw [fX4_coincidences_L4_z] at hf
      cases hf
    | succ zn ih =>
      intro i3 i4 out hf K H locs hP hS ls hl
      rw [fX4_coincidences_L4_s] at hf
      refine z_iload_n C0 dX4_coincidences_4 rfl (lv_at hl 3 rfl) ?_
      refine z_iload_n C0 dX4_coincidences_5 rfl (lv_at hl 1 rfl) ?_
      refine z_icmpge C0 40 dX4_coincidences_6 (by decide) (fun c43 => ?_) (fun c43 => ?_)
      · have hf := zif_pos hf c43
        cases hf
        exact K _ _ hP hS ls (lv_sub hl [2] rfl)
      · have hf := zif_neg hf c43
        refine z_iload_n C0 dX4_coincidences_9 rfl (lv_at hl 2 rfl) ?_
        refine z_aload_n C0 dX4_coincidences_10 rfl (lv_at hl 0 rfl) ?_
        refine z_iload_n C0 dX4_coincidences_11 rfl (lv_at hl 3 rfl) ?_
        obtain ⟨r33, hc34, hf⟩ := zbind hf
        refine z_callFi (rest := [.int (zI i3)]) C0 hP (zD hD rfl) hS (zmX4_setOf l D cI cZ h _ lagV deadV mannerV settingV leastOfV mostOfV keptV planeOfV momentOfV stripOfV lateV isOverV isLiveV endOfV knownV timeOfV pulseOfV groupOfV groupsV shutV firstOfV agreesV agreeSetV missedV bestAV bestBV bestAgreesV bestMissedV i4 r33 hc34) (zkX4_126 ⟨by decide, by decide⟩ C0.2.2.2.2.1) 4 rfl rfl rfl rfl hl.1 (Nat.le_of_ble_eq_true rfl) dX4_coincidences_12 ⟨Nat.zero_le _, Nat.zero_le _⟩ (fun H locs hP hS => ?_)
        have hP : va_P D vwCl ((wM h cI cZ lagV deadV mannerV settingV leastOfV mostOfV keptV planeOfV momentOfV stripOfV lateV isOverV isLiveV endOfV knownV timeOfV pulseOfV groupOfV groupsV shutV firstOfV agreesV agreeSetV missedV bestAV bestBV bestAgreesV bestMissedV)) H := hP
        obtain ⟨r35, hc36, hf⟩ := zbind hf
        refine z_callSi (rest := [.int (zI i3)]) C0 hP (zD hD rfl) hS [] rfl (zmX4_size l D cI cZ _ r33 r35 hc36) (zkX4_132 ⟨by decide, by decide⟩ C0.2.2.2.2.1) rfl rfl rfl hl.1 (Nat.le_of_ble_eq_true rfl) dX4_coincidences_15 ⟨Nat.zero_le _, Nat.zero_le _⟩ rfl (Nat.le_of_ble_eq_true rfl) (fun H locs hP hS => ?_)
        have hP : va_P D vwCl ((wM h cI cZ lagV deadV mannerV settingV leastOfV mostOfV keptV planeOfV momentOfV stripOfV lateV isOverV isLiveV endOfV knownV timeOfV pulseOfV groupOfV groupsV shutV firstOfV agreesV agreeSetV missedV bestAV bestBV bestAgreesV bestMissedV)) H := hP
        refine z_aload_n C0 dX4_coincidences_18 rfl (lv_at hl 0 rfl) ?_
        refine zgX4_19 C0 hP 0 rfl (.ref (h 4)) rfl dX4_coincidences_19 ?_
        refine z_iconst C0 dX4_coincidences_22 ?_
        obtain ⟨g37, hf⟩ := zg_some hf
        refine z_iald C0 hP 4 rfl (Nat.le_of_ble_eq_true rfl) g37 dX4_coincidences_23 ?_
        obtain ⟨r38, hE42, hf⟩ := zbind hf
        have J39 : ∀ (H : Heap) (locs : List Loc), va_P D vwCl ((wM h cI cZ lagV deadV mannerV settingV leastOfV mostOfV keptV planeOfV momentOfV stripOfV lateV isOverV isLiveV endOfV knownV timeOfV pulseOfV groupOfV groupsV shutV firstOfV agreesV agreeSetV missedV bestAV bestBV bestAgreesV bestMissedV)) H → va_S A s.heap H locs → ∀ ls : Array Slot, lv_has ls 4 [(0, .ref (h 0)), (1, .int (zI p1)), (3, .int (zI i4))] → W p l e rmX4_coincidences s m args below meth c H locs 0 0 Q (F0 m 32 ls [.int (zI r38), .int (zI i3)]) := by
          intro H locs hP hS ls hl
          refine z_iadd C0 dX4_coincidences_32 ?_
          obtain ⟨v40, hv40, hf⟩ := zl_some hf
          refine z_name hv40 ?_
          refine z_istore_n C0 [(2, .int (zI v40)), (0, .ref (h 0)), (1, .int (zI p1)), (3, .int (zI i4))] dX4_coincidences_33 rfl hl (by decide) rfl (fun ls hl => ?_)
          refine z_iinc C0 [(3, .int (zI (i4 + 1))), (2, .int (zI v40)), (0, .ref (h 0)), (1, .int (zI p1))] dX4_coincidences_34 hl 3 rfl (by decide) rfl (fun ls hl => ?_)
          refine z_goto C0 4 dX4_coincidences_37 (by decide) ?_
          exact ih v40 (i4 + 1) out hf K _ _ hP hS ls (lv_sub hl [2, 3, 1, 0] rfl)
        have hf := hE42
        refine z_icmplt C0 31 dX4_coincidences_24 (by decide) (fun c41 => ?_) (fun c41 => ?_)
        · have hf := zif_pos hf c41
          refine z_iconst C0 dX4_coincidences_31 ?_
          cases hf
          exact J39 _ _ hP hS ls (lv_sub hl [0, 1, 3] rfl)
        · have hf := zif_neg hf c41
          refine z_iconst C0 dX4_coincidences_27 ?_
          refine z_goto C0 32 dX4_coincidences_28 (by decide) ?_
          cases hf
          exact J39 _ _ hP hS ls (lv_sub hl [0, 1, 3] rfl)
  obtain ⟨r45, hE46, hf⟩ := zbind hf
  refine L44 _ 0 0 r45 hE46 ?_ _ _ hP hS ls (lv_sub hl [2, 3, 1, 0] rfl)
  intro H locs hP hS ls hl
  refine z_iload_n C0 dX4_coincidences_40 rfl (lv_at hl 0 rfl) ?_
  cases hf
  exact hret hP hS dX4_coincidences_41
