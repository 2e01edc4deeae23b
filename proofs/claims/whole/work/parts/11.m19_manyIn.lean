set_option maxHeartbeats 4000000 in
set_option maxRecDepth 100000 in
theorem zmX4_manyIn (l : Launch) (D : va_G) (cI cZ : ClassId) (h : Nat → Nat) (sz : Nat) (lagV : (Nat → Int)) (deadV : (Nat → Int)) (mannerV : (Nat → Int)) (settingV : (Nat → Int)) (leastOfV : (Nat → Int)) (mostOfV : (Nat → Int)) (keptV : Int) (planeOfV : (Nat → Int)) (momentOfV : (Nat → Int)) (stripOfV : (Nat → Int)) (lateV : Int) (isOverV : Int) (isLiveV : (Nat → Int)) (endOfV : (Nat → Int)) (knownV : Int) (timeOfV : (Nat → Int)) (pulseOfV : (Nat → Int)) (groupOfV : (Nat → Int)) (groupsV : Int) (shutV : Int) (firstOfV : (Nat → Int)) (agreesV : Int) (agreeSetV : Int) (missedV : Int) (bestAV : Int) (bestBV : Int) (bestAgreesV : Int) (bestMissedV : Int) (p1 : Int) (o : Int) (hf : fX4_manyIn (zk_M lagV deadV mannerV settingV leastOfV mostOfV keptV planeOfV momentOfV stripOfV lateV isOverV isLiveV endOfV knownV timeOfV pulseOfV groupOfV groupsV shutV firstOfV agreesV agreeSetV missedV bestAV bestBV bestAgreesV bestMissedV) p1 = some o) : Met l yX4_manyIn (zW yX4_manyIn cX4_manyIn 4 (some .int)) rmX4_manyIn (va_Pc [.ref (h 0), .int (zI p1)] (zPre D cI cZ ((wM h cI cZ lagV deadV mannerV settingV leastOfV mostOfV keptV planeOfV momentOfV stripOfV lateV isOverV isLiveV endOfV knownV timeOfV pulseOfV groupOfV groupsV shutV firstOfV agreesV agreeSetV missedV bestAV bestBV bestAgreesV bestMissedV)) sz)) (va_Qi (fun r' (_ : Unit) => r' = zI o) (fun _ t => va_P D vwCl ((wM h cI cZ lagV deadV mannerV settingV leastOfV mostOfV keptV planeOfV momentOfV stripOfV lateV isOverV isLiveV endOfV knownV timeOfV pulseOfV groupOfV groupsV shutV firstOfV agreesV agreeSetV missedV bestAV bestBV bestAgreesV bestMissedV)) t.heap) (va_A ((wM h cI cZ lagV deadV mannerV settingV leastOfV mostOfV keptV planeOfV momentOfV stripOfV lateV isOverV isLiveV endOfV knownV timeOfV pulseOfV groupOfV groupsV shutV firstOfV agreesV agreeSetV missedV bestAV bestBV bestAgreesV bestMissedV)) sz)) 0 0 (va_A ((wM h cI cZ lagV deadV mannerV settingV leastOfV mostOfV keptV planeOfV momentOfV stripOfV lateV isOverV isLiveV endOfV knownV timeOfV pulseOfV groupOfV groupsV shutV firstOfV agreesV agreeSetV missedV bestAV bestBV bestAgreesV bestMissedV)) sz) := by
  unfold fX4_manyIn at hf
  refine z_enter_i (own := RX4) (by decide +kernel) rfl (Nat.le_of_ble_eq_true rfl) ?_
  intro p e s m args below meth c A Q C0 hP hD hS hret ls hl
  have hl : lv_has ls 4 [(0, .ref (h 0)), (1, .int (zI p1))] := hl
  refine z_iconst C0 dX4_manyIn_0 ?_
  refine z_istore_n C0 [(2, .int (zI 0)), (0, .ref (h 0)), (1, .int (zI p1))] dX4_manyIn_1 rfl hl (by decide) rfl (fun ls hl => ?_)
  refine z_iconst C0 dX4_manyIn_2 ?_
  refine z_istore_n C0 [(3, .int (zI 0)), (2, .int (zI 0)), (0, .ref (h 0)), (1, .int (zI p1))] dX4_manyIn_3 rfl hl (by decide) rfl (fun ls hl => ?_)
  have L40 : ∀ (zn : Nat) (i3 : Int) (i4 : Int) (out : Int), fX4_manyIn_L4 zn (zk_M lagV deadV mannerV settingV leastOfV mostOfV keptV planeOfV momentOfV stripOfV lateV isOverV isLiveV endOfV knownV timeOfV pulseOfV groupOfV groupsV shutV firstOfV agreesV agreeSetV missedV bestAV bestBV bestAgreesV bestMissedV) p1 i3 i4 = some out → (∀ (H : Heap) (locs : List Loc), va_P D vwCl ((wM h cI cZ lagV deadV mannerV settingV leastOfV mostOfV keptV planeOfV momentOfV stripOfV lateV isOverV isLiveV endOfV knownV timeOfV pulseOfV groupOfV groupsV shutV firstOfV agreesV agreeSetV missedV bestAV bestBV bestAgreesV bestMissedV)) H → va_S A s.heap H locs → ∀ ls : Array Slot, lv_has ls 4 [(2, .int (zI out))] → W p l e rmX4_manyIn s m args below meth c H locs 0 0 Q (F0 m 36 ls [])) → ∀ (H : Heap) (locs : List Loc), va_P D vwCl ((wM h cI cZ lagV deadV mannerV settingV leastOfV mostOfV keptV planeOfV momentOfV stripOfV lateV isOverV isLiveV endOfV knownV timeOfV pulseOfV groupOfV groupsV shutV firstOfV agreesV agreeSetV missedV bestAV bestBV bestAgreesV bestMissedV)) H → va_S A s.heap H locs → ∀ ls : Array Slot, lv_has ls 4 [(0, .ref (h 0)), (1, .int (zI p1)), (2, .int (zI i3)), (3, .int (zI i4))] → W p l e rmX4_manyIn s m args below meth c H locs 0 0 Q (F0 m 4 ls []) := by
    intro zn
    induction zn with
    | zero =>
      intro i3 i4 out hf
      rw [fX4_manyIn_L4_z] at hf
      cases hf
    | succ zn ih =>
      intro i3 i4 out hf K H locs hP hS ls hl
      rw [fX4_manyIn_L4_s] at hf
      refine z_iload_n C0 dX4_manyIn_4 rfl (lv_at hl 3 rfl) ?_
      refine z_aload_n C0 dX4_manyIn_5 rfl (lv_at hl 0 rfl) ?_
      refine zgX4_101 C0 hP 0 rfl (.int (zI knownV)) rfl dX4_manyIn_6 ?_
      refine z_icmpge C0 36 dX4_manyIn_9 (by decide) (fun c39 => ?_) (fun c39 => ?_)
      · have hf := zif_pos hf c39
        cases hf
        exact K _ _ hP hS ls (lv_sub hl [2] rfl)
      · have hf := zif_neg hf c39
        refine z_iload_n C0 dX4_manyIn_12 rfl (lv_at hl 2 rfl) ?_
        refine z_aload_n C0 dX4_manyIn_13 rfl (lv_at hl 0 rfl) ?_
        refine zgX4_50 C0 hP 0 rfl (.ref (h 14)) rfl dX4_manyIn_14 ?_
        refine z_iload_n C0 dX4_manyIn_17 rfl (lv_at hl 3 rfl) ?_
        obtain ⟨g33, hf⟩ := zg_some hf
        refine z_iald C0 hP 14 rfl (Nat.le_of_ble_eq_true rfl) g33 dX4_manyIn_18 ?_
        refine z_iload_n C0 dX4_manyIn_19 rfl (lv_at hl 1 rfl) ?_
        obtain ⟨r34, hE38, hf⟩ := zbind hf
        have J35 : ∀ (H : Heap) (locs : List Loc), va_P D vwCl ((wM h cI cZ lagV deadV mannerV settingV leastOfV mostOfV keptV planeOfV momentOfV stripOfV lateV isOverV isLiveV endOfV knownV timeOfV pulseOfV groupOfV groupsV shutV firstOfV agreesV agreeSetV missedV bestAV bestBV bestAgreesV bestMissedV)) H → va_S A s.heap H locs → ∀ ls : Array Slot, lv_has ls 4 [(0, .ref (h 0)), (1, .int (zI p1)), (3, .int (zI i4))] → W p l e rmX4_manyIn s m args below meth c H locs 0 0 Q (F0 m 28 ls [.int (zI r34), .int (zI i3)]) := by
          intro H locs hP hS ls hl
          refine z_iadd C0 dX4_manyIn_28 ?_
          obtain ⟨v36, hv36, hf⟩ := zl_some hf
          refine z_name hv36 ?_
          refine z_istore_n C0 [(2, .int (zI v36)), (0, .ref (h 0)), (1, .int (zI p1)), (3, .int (zI i4))] dX4_manyIn_29 rfl hl (by decide) rfl (fun ls hl => ?_)
          refine z_iinc C0 [(3, .int (zI (i4 + 1))), (2, .int (zI v36)), (0, .ref (h 0)), (1, .int (zI p1))] dX4_manyIn_30 hl 3 rfl (by decide) rfl (fun ls hl => ?_)
          refine z_goto C0 4 dX4_manyIn_33 (by decide) ?_
          exact ih v36 (i4 + 1) out hf K _ _ hP hS ls (lv_sub hl [2, 3, 1, 0] rfl)
        have hf := hE38
        refine z_icmpne C0 27 dX4_manyIn_20 (by decide) (fun c37 => ?_) (fun c37 => ?_)
        · have hf := zif_neg hf c37
          refine z_iconst C0 dX4_manyIn_27 ?_
          cases hf
          exact J35 _ _ hP hS ls (lv_sub hl [0, 1, 3] rfl)
        · have hf := zif_pos hf c37
          refine z_iconst C0 dX4_manyIn_23 ?_
          refine z_goto C0 28 dX4_manyIn_24 (by decide) ?_
          cases hf
          exact J35 _ _ hP hS ls (lv_sub hl [0, 1, 3] rfl)
  obtain ⟨r41, hE42, hf⟩ := zbind hf
  refine L40 _ 0 0 r41 hE42 ?_ _ _ hP hS ls (lv_sub hl [2, 3, 1, 0] rfl)
  intro H locs hP hS ls hl
  refine z_iload_n C0 dX4_manyIn_36 rfl (lv_at hl 0 rfl) ?_
  cases hf
  exact hret hP hS dX4_manyIn_37
