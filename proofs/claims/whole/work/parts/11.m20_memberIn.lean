set_option maxHeartbeats 4000000 in
set_option maxRecDepth 100000 in
theorem zmX4_memberIn (l : Launch) (D : va_G) (cI cZ : ClassId) (h : Nat → Nat) (sz : Nat) (lagV : (Nat → Int)) (deadV : (Nat → Int)) (mannerV : (Nat → Int)) (settingV : (Nat → Int)) (leastOfV : (Nat → Int)) (mostOfV : (Nat → Int)) (keptV : Int) (planeOfV : (Nat → Int)) (momentOfV : (Nat → Int)) (stripOfV : (Nat → Int)) (lateV : Int) (isOverV : Int) (isLiveV : (Nat → Int)) (endOfV : (Nat → Int)) (knownV : Int) (timeOfV : (Nat → Int)) (pulseOfV : (Nat → Int)) (groupOfV : (Nat → Int)) (groupsV : Int) (shutV : Int) (firstOfV : (Nat → Int)) (agreesV : Int) (agreeSetV : Int) (missedV : Int) (bestAV : Int) (bestBV : Int) (bestAgreesV : Int) (bestMissedV : Int) (p1 : Int) (p2 : Int) (o : Int) (hf : fX4_memberIn (zk_M lagV deadV mannerV settingV leastOfV mostOfV keptV planeOfV momentOfV stripOfV lateV isOverV isLiveV endOfV knownV timeOfV pulseOfV groupOfV groupsV shutV firstOfV agreesV agreeSetV missedV bestAV bestBV bestAgreesV bestMissedV) p1 p2 = some o) : Met l yX4_memberIn (zW yX4_memberIn cX4_memberIn 4 (some .int)) rmX4_memberIn (va_Pc [.ref (h 0), .int (zI p1), .int (zI p2)] (zPre D cI cZ ((wM h cI cZ lagV deadV mannerV settingV leastOfV mostOfV keptV planeOfV momentOfV stripOfV lateV isOverV isLiveV endOfV knownV timeOfV pulseOfV groupOfV groupsV shutV firstOfV agreesV agreeSetV missedV bestAV bestBV bestAgreesV bestMissedV)) sz)) (va_Qi (fun r' (_ : Unit) => r' = zI o) (fun _ t => va_P D vwCl ((wM h cI cZ lagV deadV mannerV settingV leastOfV mostOfV keptV planeOfV momentOfV stripOfV lateV isOverV isLiveV endOfV knownV timeOfV pulseOfV groupOfV groupsV shutV firstOfV agreesV agreeSetV missedV bestAV bestBV bestAgreesV bestMissedV)) t.heap) (va_A ((wM h cI cZ lagV deadV mannerV settingV leastOfV mostOfV keptV planeOfV momentOfV stripOfV lateV isOverV isLiveV endOfV knownV timeOfV pulseOfV groupOfV groupsV shutV firstOfV agreesV agreeSetV missedV bestAV bestBV bestAgreesV bestMissedV)) sz)) 0 0 (va_A ((wM h cI cZ lagV deadV mannerV settingV leastOfV mostOfV keptV planeOfV momentOfV stripOfV lateV isOverV isLiveV endOfV knownV timeOfV pulseOfV groupOfV groupsV shutV firstOfV agreesV agreeSetV missedV bestAV bestBV bestAgreesV bestMissedV)) sz) := by
  unfold fX4_memberIn at hf
  refine z_enter_i (own := RX4) (by decide +kernel) rfl (Nat.le_of_ble_eq_true rfl) ?_
  intro p e s m args below meth c A Q C0 hP hD hS hret ls hl
  have hl : lv_has ls 4 [(0, .ref (h 0)), (1, .int (zI p1)), (2, .int (zI p2))] := hl
  refine z_aload_n C0 dX4_memberIn_0 rfl (lv_at hl 0 rfl) ?_
  refine zgX4_53 C0 hP 0 rfl (.ref (h 15)) rfl dX4_memberIn_1 ?_
  refine z_iload_n C0 dX4_memberIn_4 rfl (lv_at hl 1 rfl) ?_
  obtain ⟨g1, hf⟩ := zg_some hf
  refine z_iald C0 hP 15 rfl (Nat.le_of_ble_eq_true rfl) g1 dX4_memberIn_5 ?_
  obtain ⟨v2, hv2, hf⟩ := zl_some hf
  refine z_name hv2 ?_
  refine z_istore_n C0 [(3, .int (zI v2)), (0, .ref (h 0)), (1, .int (zI p1)), (2, .int (zI p2))] dX4_memberIn_6 rfl hl (by decide) rfl (fun ls hl => ?_)
  have L41 : ∀ (zn : Nat) (i6 : Int), fX4_memberIn_L7 zn (zk_M lagV deadV mannerV settingV leastOfV mostOfV keptV planeOfV momentOfV stripOfV lateV isOverV isLiveV endOfV knownV timeOfV pulseOfV groupOfV groupsV shutV firstOfV agreesV agreeSetV missedV bestAV bestBV bestAgreesV bestMissedV) p1 p2 i6 = some o → ∀ (H : Heap) (locs : List Loc), va_P D vwCl ((wM h cI cZ lagV deadV mannerV settingV leastOfV mostOfV keptV planeOfV momentOfV stripOfV lateV isOverV isLiveV endOfV knownV timeOfV pulseOfV groupOfV groupsV shutV firstOfV agreesV agreeSetV missedV bestAV bestBV bestAgreesV bestMissedV)) H → va_S A s.heap H locs → ∀ ls : Array Slot, lv_has ls 4 [(0, .ref (h 0)), (1, .int (zI p1)), (2, .int (zI p2)), (3, .int (zI i6))] → W p l e rmX4_memberIn s m args below meth c H locs 0 0 Q (F0 m 7 ls []) := by
    intro zn
    induction zn with
    | zero =>
      intro i6 hf
      rw [fX4_memberIn_L7_z] at hf
      cases hf
    | succ zn ih =>
      intro i6 hf H locs hP hS ls hl
      rw [fX4_memberIn_L7_s] at hf
      refine z_iload_n C0 dX4_memberIn_7 rfl (lv_at hl 3 rfl) ?_
      refine z_aload_n C0 dX4_memberIn_8 rfl (lv_at hl 0 rfl) ?_
      refine zgX4_101 C0 hP 0 rfl (.int (zI knownV)) rfl dX4_memberIn_9 ?_
      refine z_icmpge C0 48 dX4_memberIn_12 (by decide) (fun c40 => ?_) (fun c40 => ?_)
      · have hf := zif_pos hf c40
        refine z_bipush C0 dX4_memberIn_48 (by decide +kernel) ?_
        cases hf
        exact hret hP hS dX4_memberIn_50
      · have hf := zif_neg hf c40
        refine z_aload_n C0 dX4_memberIn_15 rfl (lv_at hl 0 rfl) ?_
        refine zgX4_50 C0 hP 0 rfl (.ref (h 14)) rfl dX4_memberIn_16 ?_
        refine z_iload_n C0 dX4_memberIn_19 rfl (lv_at hl 3 rfl) ?_
        obtain ⟨g35, hf⟩ := zg_some hf
        refine z_iald C0 hP 14 rfl (Nat.le_of_ble_eq_true rfl) g35 dX4_memberIn_20 ?_
        refine z_iload_n C0 dX4_memberIn_21 rfl (lv_at hl 1 rfl) ?_
        refine z_icmpne C0 48 dX4_memberIn_22 (by decide) (fun c39 => ?_) (fun c39 => ?_)
        · have hf := zif_neg hf c39
          refine z_bipush C0 dX4_memberIn_48 (by decide +kernel) ?_
          cases hf
          exact hret hP hS dX4_memberIn_50
        · have hf := zif_pos hf c39
          refine z_aload_n C0 dX4_memberIn_25 rfl (lv_at hl 0 rfl) ?_
          refine zgX4_28 C0 hP 0 rfl (.ref (h 7)) rfl dX4_memberIn_26 ?_
          refine z_aload_n C0 dX4_memberIn_29 rfl (lv_at hl 0 rfl) ?_
          refine zgX4_47 C0 hP 0 rfl (.ref (h 13)) rfl dX4_memberIn_30 ?_
          refine z_iload_n C0 dX4_memberIn_33 rfl (lv_at hl 3 rfl) ?_
          obtain ⟨g36, hf⟩ := zg_some hf
          refine z_iald C0 hP 13 rfl (Nat.le_of_ble_eq_true rfl) g36 dX4_memberIn_34 ?_
          obtain ⟨g37, hf⟩ := zg_some hf
          refine z_iald C0 hP 7 rfl (Nat.le_of_ble_eq_true rfl) g37 dX4_memberIn_35 ?_
          refine z_iload_n C0 dX4_memberIn_36 rfl (lv_at hl 2 rfl) ?_
          refine z_icmpne C0 42 dX4_memberIn_37 (by decide) (fun c38 => ?_) (fun c38 => ?_)
          · have hf := zif_neg hf c38
            refine z_iinc C0 [(3, .int (zI (i6 + 1))), (0, .ref (h 0)), (1, .int (zI p1)), (2, .int (zI p2))] dX4_memberIn_42 hl 3 rfl (by decide) rfl (fun ls hl => ?_)
            refine z_goto C0 7 dX4_memberIn_45 (by decide) ?_
            exact ih (i6 + 1) hf _ _ hP hS ls (lv_sub hl [1, 2, 3, 0] rfl)
          · have hf := zif_pos hf c38
            refine z_iload_n C0 dX4_memberIn_40 rfl (lv_at hl 3 rfl) ?_
            cases hf
            exact hret hP hS dX4_memberIn_41
  exact L41 _ v2 hf _ _ hP hS ls (lv_sub hl [1, 2, 3, 0] rfl)
