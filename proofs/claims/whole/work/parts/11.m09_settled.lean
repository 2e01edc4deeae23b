set_option maxHeartbeats 4000000 in
set_option maxRecDepth 100000 in
theorem zmX4_settled (l : Launch) (D : va_G) (cI cZ : ClassId) (h : Nat → Nat) (sz : Nat) (lagV : (Nat → Int)) (deadV : (Nat → Int)) (mannerV : (Nat → Int)) (settingV : (Nat → Int)) (leastOfV : (Nat → Int)) (mostOfV : (Nat → Int)) (keptV : Int) (planeOfV : (Nat → Int)) (momentOfV : (Nat → Int)) (stripOfV : (Nat → Int)) (lateV : Int) (isOverV : Int) (isLiveV : (Nat → Int)) (endOfV : (Nat → Int)) (knownV : Int) (timeOfV : (Nat → Int)) (pulseOfV : (Nat → Int)) (groupOfV : (Nat → Int)) (groupsV : Int) (shutV : Int) (firstOfV : (Nat → Int)) (agreesV : Int) (agreeSetV : Int) (missedV : Int) (bestAV : Int) (bestBV : Int) (bestAgreesV : Int) (bestMissedV : Int)  (o : Int) (hf : fX4_settled (zk_M lagV deadV mannerV settingV leastOfV mostOfV keptV planeOfV momentOfV stripOfV lateV isOverV isLiveV endOfV knownV timeOfV pulseOfV groupOfV groupsV shutV firstOfV agreesV agreeSetV missedV bestAV bestBV bestAgreesV bestMissedV) = some o) : Met l yX4_settled (zW yX4_settled cX4_settled 3 (some .int)) rmX4_settled (va_Pc [.ref (h 0)] (zPre D cI cZ ((wM h cI cZ lagV deadV mannerV settingV leastOfV mostOfV keptV planeOfV momentOfV stripOfV lateV isOverV isLiveV endOfV knownV timeOfV pulseOfV groupOfV groupsV shutV firstOfV agreesV agreeSetV missedV bestAV bestBV bestAgreesV bestMissedV)) sz)) (va_Qi (fun r' (_ : Unit) => r' = zI o) (fun _ t => va_P D vwCl ((wM h cI cZ lagV deadV mannerV settingV leastOfV mostOfV keptV planeOfV momentOfV stripOfV lateV isOverV isLiveV endOfV knownV timeOfV pulseOfV groupOfV groupsV shutV firstOfV agreesV agreeSetV missedV bestAV bestBV bestAgreesV bestMissedV)) t.heap) (va_A ((wM h cI cZ lagV deadV mannerV settingV leastOfV mostOfV keptV planeOfV momentOfV stripOfV lateV isOverV isLiveV endOfV knownV timeOfV pulseOfV groupOfV groupsV shutV firstOfV agreesV agreeSetV missedV bestAV bestBV bestAgreesV bestMissedV)) sz)) 0 0 (va_A ((wM h cI cZ lagV deadV mannerV settingV leastOfV mostOfV keptV planeOfV momentOfV stripOfV lateV isOverV isLiveV endOfV knownV timeOfV pulseOfV groupOfV groupsV shutV firstOfV agreesV agreeSetV missedV bestAV bestBV bestAgreesV bestMissedV)) sz) := by
  unfold fX4_settled at hf
  refine z_enter_i (own := RX4) (by decide +kernel) rfl (Nat.le_of_ble_eq_true rfl) ?_
  intro p e s m args below meth c A Q C0 hP hD hS hret ls hl
  have hl : lv_has ls 3 [(0, .ref (h 0))] := hl
  refine z_iconst C0 dX4_settled_0 ?_
  refine z_istore_n C0 [(1, .int (zI 0)), (0, .ref (h 0))] dX4_settled_1 rfl hl (by decide) rfl (fun ls hl => ?_)
  refine z_iconst C0 dX4_settled_2 ?_
  refine z_istore_n C0 [(2, .int (zI 0)), (1, .int (zI 0)), (0, .ref (h 0))] dX4_settled_3 rfl hl (by decide) rfl (fun ls hl => ?_)
  have L41 : ∀ (zn : Nat) (i2 : Int) (i3 : Int) (out : Int), fX4_settled_L4 zn (zk_M lagV deadV mannerV settingV leastOfV mostOfV keptV planeOfV momentOfV stripOfV lateV isOverV isLiveV endOfV knownV timeOfV pulseOfV groupOfV groupsV shutV firstOfV agreesV agreeSetV missedV bestAV bestBV bestAgreesV bestMissedV) i2 i3 = some out → (∀ (H : Heap) (locs : List Loc), va_P D vwCl ((wM h cI cZ lagV deadV mannerV settingV leastOfV mostOfV keptV planeOfV momentOfV stripOfV lateV isOverV isLiveV endOfV knownV timeOfV pulseOfV groupOfV groupsV shutV firstOfV agreesV agreeSetV missedV bestAV bestBV bestAgreesV bestMissedV)) H → va_S A s.heap H locs → ∀ ls : Array Slot, lv_has ls 3 [(1, .int (zI out))] → W p l e rmX4_settled s m args below meth c H locs 0 0 Q (F0 m 39 ls [])) → ∀ (H : Heap) (locs : List Loc), va_P D vwCl ((wM h cI cZ lagV deadV mannerV settingV leastOfV mostOfV keptV planeOfV momentOfV stripOfV lateV isOverV isLiveV endOfV knownV timeOfV pulseOfV groupOfV groupsV shutV firstOfV agreesV agreeSetV missedV bestAV bestBV bestAgreesV bestMissedV)) H → va_S A s.heap H locs → ∀ ls : Array Slot, lv_has ls 3 [(0, .ref (h 0)), (1, .int (zI i2)), (2, .int (zI i3))] → W p l e rmX4_settled s m args below meth c H locs 0 0 Q (F0 m 4 ls []) := by
    intro zn
    induction zn with
    | zero =>
      intro i2 i3 out hf
      rw [fX4_settled_L4_z] at hf
      cases hf
    | succ zn ih =>
      intro i2 i3 out hf K H locs hP hS ls hl
      rw [fX4_settled_L4_s] at hf
      refine z_iload_n C0 dX4_settled_4 rfl (lv_at hl 2 rfl) ?_
      refine z_aload_n C0 dX4_settled_5 rfl (lv_at hl 0 rfl) ?_
      refine zgX4_60 C0 hP 0 rfl (.int (zI keptV)) rfl dX4_settled_6 ?_
      refine z_icmpge C0 39 dX4_settled_9 (by decide) (fun c40 => ?_) (fun c40 => ?_)
      · have hf := zif_pos hf c40
        cases hf
        exact K _ _ hP hS ls (lv_sub hl [1] rfl)
      · have hf := zif_neg hf c40
        refine z_iload_n C0 dX4_settled_12 rfl (lv_at hl 1 rfl) ?_
        refine z_aload_n C0 dX4_settled_13 rfl (lv_at hl 0 rfl) ?_
        refine zgX4_31 C0 hP 0 rfl (.ref (h 8)) rfl dX4_settled_14 ?_
        refine z_iload_n C0 dX4_settled_17 rfl (lv_at hl 2 rfl) ?_
        obtain ⟨g32, hf⟩ := zg_some hf
        refine z_iald C0 hP 8 rfl (Nat.le_of_ble_eq_true rfl) g32 dX4_settled_18 ?_
        refine z_aload_n C0 dX4_settled_19 rfl (lv_at hl 0 rfl) ?_
        obtain ⟨r33, hc34, hf⟩ := zbind hf
        refine z_callFi (rest := [.int (zI (momentOfV (Int.toNat i3))), .int (zI i2)]) C0 hP (zD hD rfl) hS (zmX4_horizon l D cI cZ h _ lagV deadV mannerV settingV leastOfV mostOfV keptV planeOfV momentOfV stripOfV lateV isOverV isLiveV endOfV knownV timeOfV pulseOfV groupOfV groupsV shutV firstOfV agreesV agreeSetV missedV bestAV bestBV bestAgreesV bestMissedV r33 hc34) (zkX4_76 ⟨by decide, by decide⟩ C0.2.2.2.2.1) 4 rfl rfl rfl rfl hl.1 (Nat.le_of_ble_eq_true rfl) dX4_settled_20 ⟨Nat.zero_le _, Nat.zero_le _⟩ (fun H locs hP hS => ?_)
        have hP : va_P D vwCl ((wM h cI cZ lagV deadV mannerV settingV leastOfV mostOfV keptV planeOfV momentOfV stripOfV lateV isOverV isLiveV endOfV knownV timeOfV pulseOfV groupOfV groupsV shutV firstOfV agreesV agreeSetV missedV bestAV bestBV bestAgreesV bestMissedV)) H := hP
        obtain ⟨r35, hE39, hf⟩ := zbind hf
        have J36 : ∀ (H : Heap) (locs : List Loc), va_P D vwCl ((wM h cI cZ lagV deadV mannerV settingV leastOfV mostOfV keptV planeOfV momentOfV stripOfV lateV isOverV isLiveV endOfV knownV timeOfV pulseOfV groupOfV groupsV shutV firstOfV agreesV agreeSetV missedV bestAV bestBV bestAgreesV bestMissedV)) H → va_S A s.heap H locs → ∀ ls : Array Slot, lv_has ls 3 [(0, .ref (h 0)), (2, .int (zI i3))] → W p l e rmX4_settled s m args below meth c H locs 0 0 Q (F0 m 31 ls [.int (zI r35), .int (zI i2)]) := by
          intro H locs hP hS ls hl
          refine z_iadd C0 dX4_settled_31 ?_
          obtain ⟨v37, hv37, hf⟩ := zl_some hf
          refine z_name hv37 ?_
          refine z_istore_n C0 [(1, .int (zI v37)), (0, .ref (h 0)), (2, .int (zI i3))] dX4_settled_32 rfl hl (by decide) rfl (fun ls hl => ?_)
          refine z_iinc C0 [(2, .int (zI (i3 + 1))), (1, .int (zI v37)), (0, .ref (h 0))] dX4_settled_33 hl 2 rfl (by decide) rfl (fun ls hl => ?_)
          refine z_goto C0 4 dX4_settled_36 (by decide) ?_
          exact ih v37 (i3 + 1) out hf K _ _ hP hS ls (lv_sub hl [2, 1, 0] rfl)
        have hf := hE39
        refine z_icmpge C0 30 dX4_settled_23 (by decide) (fun c38 => ?_) (fun c38 => ?_)
        · have hf := zif_pos hf c38
          refine z_iconst C0 dX4_settled_30 ?_
          cases hf
          exact J36 _ _ hP hS ls (lv_sub hl [0, 2] rfl)
        · have hf := zif_neg hf c38
          refine z_iconst C0 dX4_settled_26 ?_
          refine z_goto C0 31 dX4_settled_27 (by decide) ?_
          cases hf
          exact J36 _ _ hP hS ls (lv_sub hl [0, 2] rfl)
  obtain ⟨r42, hE43, hf⟩ := zbind hf
  refine L41 _ 0 0 r42 hE43 ?_ _ _ hP hS ls (lv_sub hl [2, 1, 0] rfl)
  intro H locs hP hS ls hl
  refine z_iload_n C0 dX4_settled_39 rfl (lv_at hl 0 rfl) ?_
  cases hf
  exact hret hP hS dX4_settled_40
