set_option maxHeartbeats 4000000 in
set_option maxRecDepth 100000 in
theorem zmX4_setOf (l : Launch) (D : va_G) (cI cZ : ClassId) (h : Nat → Nat) (sz : Nat) (lagV : (Nat → Int)) (deadV : (Nat → Int)) (mannerV : (Nat → Int)) (settingV : (Nat → Int)) (leastOfV : (Nat → Int)) (mostOfV : (Nat → Int)) (keptV : Int) (planeOfV : (Nat → Int)) (momentOfV : (Nat → Int)) (stripOfV : (Nat → Int)) (lateV : Int) (isOverV : Int) (isLiveV : (Nat → Int)) (endOfV : (Nat → Int)) (knownV : Int) (timeOfV : (Nat → Int)) (pulseOfV : (Nat → Int)) (groupOfV : (Nat → Int)) (groupsV : Int) (shutV : Int) (firstOfV : (Nat → Int)) (agreesV : Int) (agreeSetV : Int) (missedV : Int) (bestAV : Int) (bestBV : Int) (bestAgreesV : Int) (bestMissedV : Int) (p1 : Int) (o : Int) (hf : fX4_setOf (zk_M lagV deadV mannerV settingV leastOfV mostOfV keptV planeOfV momentOfV stripOfV lateV isOverV isLiveV endOfV knownV timeOfV pulseOfV groupOfV groupsV shutV firstOfV agreesV agreeSetV missedV bestAV bestBV bestAgreesV bestMissedV) p1 = some o) : Met l yX4_setOf (zW yX4_setOf cX4_setOf 4 (some .int)) rmX4_setOf (va_Pc [.ref (h 0), .int (zI p1)] (zPre D cI cZ ((wM h cI cZ lagV deadV mannerV settingV leastOfV mostOfV keptV planeOfV momentOfV stripOfV lateV isOverV isLiveV endOfV knownV timeOfV pulseOfV groupOfV groupsV shutV firstOfV agreesV agreeSetV missedV bestAV bestBV bestAgreesV bestMissedV)) sz)) (va_Qi (fun r' (_ : Unit) => r' = zI o) (fun _ t => va_P D vwCl ((wM h cI cZ lagV deadV mannerV settingV leastOfV mostOfV keptV planeOfV momentOfV stripOfV lateV isOverV isLiveV endOfV knownV timeOfV pulseOfV groupOfV groupsV shutV firstOfV agreesV agreeSetV missedV bestAV bestBV bestAgreesV bestMissedV)) t.heap) (va_A ((wM h cI cZ lagV deadV mannerV settingV leastOfV mostOfV keptV planeOfV momentOfV stripOfV lateV isOverV isLiveV endOfV knownV timeOfV pulseOfV groupOfV groupsV shutV firstOfV agreesV agreeSetV missedV bestAV bestBV bestAgreesV bestMissedV)) sz)) 0 0 (va_A ((wM h cI cZ lagV deadV mannerV settingV leastOfV mostOfV keptV planeOfV momentOfV stripOfV lateV isOverV isLiveV endOfV knownV timeOfV pulseOfV groupOfV groupsV shutV firstOfV agreesV agreeSetV missedV bestAV bestBV bestAgreesV bestMissedV)) sz) := by
  unfold fX4_setOf at hf
  refine z_enter_i (own := RX4) (by decide +kernel) rfl (Nat.le_of_ble_eq_true rfl) ?_
  intro p e s m args below meth c A Q C0 hP hD hS hret ls hl
  have hl : lv_has ls 4 [(0, .ref (h 0)), (1, .int (zI p1))] := hl
  refine z_iconst C0 dX4_setOf_0 ?_
  refine z_istore_n C0 [(2, .int (zI 0)), (0, .ref (h 0)), (1, .int (zI p1))] dX4_setOf_1 rfl hl (by decide) rfl (fun ls hl => ?_)
  refine z_iconst C0 dX4_setOf_2 ?_
  refine z_istore_n C0 [(3, .int (zI 0)), (2, .int (zI 0)), (0, .ref (h 0)), (1, .int (zI p1))] dX4_setOf_3 rfl hl (by decide) rfl (fun ls hl => ?_)
  have L42 : ∀ (zn : Nat) (i3 : Int) (i4 : Int) (out : Int), fX4_setOf_L4 zn (zk_M lagV deadV mannerV settingV leastOfV mostOfV keptV planeOfV momentOfV stripOfV lateV isOverV isLiveV endOfV knownV timeOfV pulseOfV groupOfV groupsV shutV firstOfV agreesV agreeSetV missedV bestAV bestBV bestAgreesV bestMissedV) p1 i3 i4 = some out → (∀ (H : Heap) (locs : List Loc), va_P D vwCl ((wM h cI cZ lagV deadV mannerV settingV leastOfV mostOfV keptV planeOfV momentOfV stripOfV lateV isOverV isLiveV endOfV knownV timeOfV pulseOfV groupOfV groupsV shutV firstOfV agreesV agreeSetV missedV bestAV bestBV bestAgreesV bestMissedV)) H → va_S A s.heap H locs → ∀ ls : Array Slot, lv_has ls 4 [(2, .int (zI out))] → W p l e rmX4_setOf s m args below meth c H locs 0 0 Q (F0 m 48 ls [])) → ∀ (H : Heap) (locs : List Loc), va_P D vwCl ((wM h cI cZ lagV deadV mannerV settingV leastOfV mostOfV keptV planeOfV momentOfV stripOfV lateV isOverV isLiveV endOfV knownV timeOfV pulseOfV groupOfV groupsV shutV firstOfV agreesV agreeSetV missedV bestAV bestBV bestAgreesV bestMissedV)) H → va_S A s.heap H locs → ∀ ls : Array Slot, lv_has ls 4 [(0, .ref (h 0)), (1, .int (zI p1)), (2, .int (zI i3)), (3, .int (zI i4))] → W p l e rmX4_setOf s m args below meth c H locs 0 0 Q (F0 m 4 ls []) := by
    intro zn
    induction zn with
    | zero =>
      intro i3 i4 out hf
      rw [fX4_setOf_L4_z] at hf
      cases hf
    | succ zn ih =>
      intro i3 i4 out hf K H locs hP hS ls hl
      rw [fX4_setOf_L4_s] at hf
      refine z_iload_n C0 dX4_setOf_4 rfl (lv_at hl 3 rfl) ?_
      refine z_aload_n C0 dX4_setOf_5 rfl (lv_at hl 0 rfl) ?_
      refine zgX4_101 C0 hP 0 rfl (.int (zI knownV)) rfl dX4_setOf_6 ?_
      refine z_icmpge C0 48 dX4_setOf_9 (by decide) (fun c41 => ?_) (fun c41 => ?_)
      · have hf := zif_pos hf c41
        cases hf
        exact K _ _ hP hS ls (lv_sub hl [2] rfl)
      · have hf := zif_neg hf c41
        refine z_iload_n C0 dX4_setOf_12 rfl (lv_at hl 2 rfl) ?_
        refine z_aload_n C0 dX4_setOf_13 rfl (lv_at hl 0 rfl) ?_
        refine zgX4_50 C0 hP 0 rfl (.ref (h 14)) rfl dX4_setOf_14 ?_
        refine z_iload_n C0 dX4_setOf_17 rfl (lv_at hl 3 rfl) ?_
        obtain ⟨g33, hf⟩ := zg_some hf
        refine z_iald C0 hP 14 rfl (Nat.le_of_ble_eq_true rfl) g33 dX4_setOf_18 ?_
        refine z_iload_n C0 dX4_setOf_19 rfl (lv_at hl 1 rfl) ?_
        obtain ⟨r34, hE40, hf⟩ := zbind hf
        have J35 : ∀ (H : Heap) (locs : List Loc), va_P D vwCl ((wM h cI cZ lagV deadV mannerV settingV leastOfV mostOfV keptV planeOfV momentOfV stripOfV lateV isOverV isLiveV endOfV knownV timeOfV pulseOfV groupOfV groupsV shutV firstOfV agreesV agreeSetV missedV bestAV bestBV bestAgreesV bestMissedV)) H → va_S A s.heap H locs → ∀ ls : Array Slot, lv_has ls 4 [(0, .ref (h 0)), (1, .int (zI p1)), (3, .int (zI i4))] → W p l e rmX4_setOf s m args below meth c H locs 0 0 Q (F0 m 40 ls [.int (zI r34), .int (zI i3)]) := by
          intro H locs hP hS ls hl
          refine z_ior C0 dX4_setOf_40 ?_
          obtain ⟨v36, hv36, hf⟩ := zl_some hf
          refine z_name hv36 ?_
          refine z_istore_n C0 [(2, .int (zI v36)), (0, .ref (h 0)), (1, .int (zI p1)), (3, .int (zI i4))] dX4_setOf_41 rfl hl (by decide) rfl (fun ls hl => ?_)
          refine z_iinc C0 [(3, .int (zI (i4 + 1))), (2, .int (zI v36)), (0, .ref (h 0)), (1, .int (zI p1))] dX4_setOf_42 hl 3 rfl (by decide) rfl (fun ls hl => ?_)
          refine z_goto C0 4 dX4_setOf_45 (by decide) ?_
          exact ih v36 (i4 + 1) out hf K _ _ hP hS ls (lv_sub hl [2, 3, 1, 0] rfl)
        have hf := hE40
        refine z_icmpne C0 39 dX4_setOf_20 (by decide) (fun c39 => ?_) (fun c39 => ?_)
        · have hf := zif_neg hf c39
          refine z_iconst C0 dX4_setOf_39 ?_
          cases hf
          exact J35 _ _ hP hS ls (lv_sub hl [0, 1, 3] rfl)
        · have hf := zif_pos hf c39
          refine z_iconst C0 dX4_setOf_23 ?_
          refine z_aload_n C0 dX4_setOf_24 rfl (lv_at hl 0 rfl) ?_
          refine zgX4_28 C0 hP 0 rfl (.ref (h 7)) rfl dX4_setOf_25 ?_
          refine z_aload_n C0 dX4_setOf_28 rfl (lv_at hl 0 rfl) ?_
          refine zgX4_47 C0 hP 0 rfl (.ref (h 13)) rfl dX4_setOf_29 ?_
          refine z_iload_n C0 dX4_setOf_32 rfl (lv_at hl 3 rfl) ?_
          obtain ⟨g37, hf⟩ := zg_some hf
          refine z_iald C0 hP 13 rfl (Nat.le_of_ble_eq_true rfl) g37 dX4_setOf_33 ?_
          obtain ⟨g38, hf⟩ := zg_some hf
          refine z_iald C0 hP 7 rfl (Nat.le_of_ble_eq_true rfl) g38 dX4_setOf_34 ?_
          refine z_ishl C0 dX4_setOf_35 ?_
          refine z_goto C0 40 dX4_setOf_36 (by decide) ?_
          cases hf
          exact J35 _ _ hP hS ls (lv_sub hl [0, 1, 3] rfl)
  obtain ⟨r43, hE44, hf⟩ := zbind hf
  refine L42 _ 0 0 r43 hE44 ?_ _ _ hP hS ls (lv_sub hl [2, 3, 1, 0] rfl)
  intro H locs hP hS ls hl
  refine z_iload_n C0 dX4_setOf_48 rfl (lv_at hl 0 rfl) ?_
  cases hf
  exact hret hP hS dX4_setOf_49
