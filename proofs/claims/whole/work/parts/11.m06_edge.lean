set_option maxHeartbeats 4000000 in
set_option maxRecDepth 100000 in
theorem zmX4_edge (l : Launch) (D : va_G) (cI cZ : ClassId) (h : Nat → Nat) (sz : Nat) (lagV : (Nat → Int)) (deadV : (Nat → Int)) (mannerV : (Nat → Int)) (settingV : (Nat → Int)) (leastOfV : (Nat → Int)) (mostOfV : (Nat → Int)) (keptV : Int) (planeOfV : (Nat → Int)) (momentOfV : (Nat → Int)) (stripOfV : (Nat → Int)) (lateV : Int) (isOverV : Int) (isLiveV : (Nat → Int)) (endOfV : (Nat → Int)) (knownV : Int) (timeOfV : (Nat → Int)) (pulseOfV : (Nat → Int)) (groupOfV : (Nat → Int)) (groupsV : Int) (shutV : Int) (firstOfV : (Nat → Int)) (agreesV : Int) (agreeSetV : Int) (missedV : Int) (bestAV : Int) (bestBV : Int) (bestAgreesV : Int) (bestMissedV : Int)  (o : Int) (hf : fX4_edge (zk_M lagV deadV mannerV settingV leastOfV mostOfV keptV planeOfV momentOfV stripOfV lateV isOverV isLiveV endOfV knownV timeOfV pulseOfV groupOfV groupsV shutV firstOfV agreesV agreeSetV missedV bestAV bestBV bestAgreesV bestMissedV) = some o) : Met l yX4_edge (zW yX4_edge cX4_edge 3 (some .int)) rmX4_edge (va_Pc [.ref (h 0)] (zPre D cI cZ ((wM h cI cZ lagV deadV mannerV settingV leastOfV mostOfV keptV planeOfV momentOfV stripOfV lateV isOverV isLiveV endOfV knownV timeOfV pulseOfV groupOfV groupsV shutV firstOfV agreesV agreeSetV missedV bestAV bestBV bestAgreesV bestMissedV)) sz)) (va_Qi (fun r' (_ : Unit) => r' = zI o) (fun _ t => va_P D vwCl ((wM h cI cZ lagV deadV mannerV settingV leastOfV mostOfV keptV planeOfV momentOfV stripOfV lateV isOverV isLiveV endOfV knownV timeOfV pulseOfV groupOfV groupsV shutV firstOfV agreesV agreeSetV missedV bestAV bestBV bestAgreesV bestMissedV)) t.heap) (va_A ((wM h cI cZ lagV deadV mannerV settingV leastOfV mostOfV keptV planeOfV momentOfV stripOfV lateV isOverV isLiveV endOfV knownV timeOfV pulseOfV groupOfV groupsV shutV firstOfV agreesV agreeSetV missedV bestAV bestBV bestAgreesV bestMissedV)) sz)) 0 0 (va_A ((wM h cI cZ lagV deadV mannerV settingV leastOfV mostOfV keptV planeOfV momentOfV stripOfV lateV isOverV isLiveV endOfV knownV timeOfV pulseOfV groupOfV groupsV shutV firstOfV agreesV agreeSetV missedV bestAV bestBV bestAgreesV bestMissedV)) sz) := by
  unfold fX4_edge at hf
  refine z_enter_i (own := RX4) (by decide +kernel) rfl (Nat.le_of_ble_eq_true rfl) ?_
  intro p e s m args below meth c A Q C0 hP hD hS hret ls hl
  have hl : lv_has ls 3 [(0, .ref (h 0))] := hl
  refine z_iconst C0 dX4_edge_0 ?_
  refine z_istore_n C0 [(1, .int (zI 0)), (0, .ref (h 0))] dX4_edge_1 rfl hl (by decide) rfl (fun ls hl => ?_)
  refine z_iconst C0 dX4_edge_2 ?_
  refine z_istore_n C0 [(2, .int (zI 0)), (1, .int (zI 0)), (0, .ref (h 0))] dX4_edge_3 rfl hl (by decide) rfl (fun ls hl => ?_)
  have L39 : ∀ (zn : Nat) (i2 : Int) (i3 : Int) (out : Int), fX4_edge_L4 zn (zk_M lagV deadV mannerV settingV leastOfV mostOfV keptV planeOfV momentOfV stripOfV lateV isOverV isLiveV endOfV knownV timeOfV pulseOfV groupOfV groupsV shutV firstOfV agreesV agreeSetV missedV bestAV bestBV bestAgreesV bestMissedV) i2 i3 = some out → (∀ (H : Heap) (locs : List Loc), va_P D vwCl ((wM h cI cZ lagV deadV mannerV settingV leastOfV mostOfV keptV planeOfV momentOfV stripOfV lateV isOverV isLiveV endOfV knownV timeOfV pulseOfV groupOfV groupsV shutV firstOfV agreesV agreeSetV missedV bestAV bestBV bestAgreesV bestMissedV)) H → va_S A s.heap H locs → ∀ ls : Array Slot, lv_has ls 3 [(0, .ref (h 0)), (1, .int (zI out))] → W p l e rmX4_edge s m args below meth c H locs 0 0 Q (F0 m 37 ls [])) → ∀ (H : Heap) (locs : List Loc), va_P D vwCl ((wM h cI cZ lagV deadV mannerV settingV leastOfV mostOfV keptV planeOfV momentOfV stripOfV lateV isOverV isLiveV endOfV knownV timeOfV pulseOfV groupOfV groupsV shutV firstOfV agreesV agreeSetV missedV bestAV bestBV bestAgreesV bestMissedV)) H → va_S A s.heap H locs → ∀ ls : Array Slot, lv_has ls 3 [(0, .ref (h 0)), (1, .int (zI i2)), (2, .int (zI i3))] → W p l e rmX4_edge s m args below meth c H locs 0 0 Q (F0 m 4 ls []) := by
    intro zn
    induction zn with
    | zero =>
      intro i2 i3 out hf
      rw [fX4_edge_L4_z] at hf
      cases hf
    | succ zn ih =>
      intro i2 i3 out hf K H locs hP hS ls hl
      rw [fX4_edge_L4_s] at hf
      refine z_iload_n C0 dX4_edge_4 rfl (lv_at hl 2 rfl) ?_
      refine z_bipush C0 dX4_edge_5 (by decide +kernel) ?_
      refine z_icmpge C0 37 dX4_edge_7 (by decide) (fun c38 => ?_) (fun c38 => ?_)
      · have hf := zif_pos hf c38
        cases hf
        exact K _ _ hP hS ls (lv_sub hl [0, 1] rfl)
      · have hf := zif_neg hf c38
        refine z_aload_n C0 dX4_edge_10 rfl (lv_at hl 0 rfl) ?_
        refine zgX4_7 C0 hP 0 rfl (.ref (h 1)) rfl dX4_edge_11 ?_
        refine z_iload_n C0 dX4_edge_14 rfl (lv_at hl 2 rfl) ?_
        obtain ⟨g32, hf⟩ := zg_some hf
        refine z_iald C0 hP 1 rfl (Nat.le_of_ble_eq_true rfl) g32 dX4_edge_15 ?_
        refine z_iload_n C0 dX4_edge_16 rfl (lv_at hl 1 rfl) ?_
        obtain ⟨r33, hE37, hf⟩ := zbind hf
        have J34 : ∀ (H : Heap) (locs : List Loc), va_P D vwCl ((wM h cI cZ lagV deadV mannerV settingV leastOfV mostOfV keptV planeOfV momentOfV stripOfV lateV isOverV isLiveV endOfV knownV timeOfV pulseOfV groupOfV groupsV shutV firstOfV agreesV agreeSetV missedV bestAV bestBV bestAgreesV bestMissedV)) H → va_S A s.heap H locs → ∀ ls : Array Slot, lv_has ls 3 [(0, .ref (h 0)), (2, .int (zI i3))] → W p l e rmX4_edge s m args below meth c H locs 0 0 Q (F0 m 30 ls [.int (zI r33)]) := by
          intro H locs hP hS ls hl
          refine z_istore_n C0 [(1, .int (zI r33)), (0, .ref (h 0)), (2, .int (zI i3))] dX4_edge_30 rfl hl (by decide) rfl (fun ls hl => ?_)
          refine z_iinc C0 [(2, .int (zI (i3 + 1))), (1, .int (zI r33)), (0, .ref (h 0))] dX4_edge_31 hl 2 rfl (by decide) rfl (fun ls hl => ?_)
          refine z_goto C0 4 dX4_edge_34 (by decide) ?_
          exact ih r33 (i3 + 1) out hf K _ _ hP hS ls (lv_sub hl [2, 1, 0] rfl)
        have hf := hE37
        refine z_icmple C0 29 dX4_edge_17 (by decide) (fun c36 => ?_) (fun c36 => ?_)
        · have hf := zif_pos hf c36
          refine z_iload_n C0 dX4_edge_29 rfl (lv_at hl 1 rfl) ?_
          cases hf
          exact J34 _ _ hP hS ls (lv_sub hl [0, 2] rfl)
        · have hf := zif_neg hf c36
          refine z_aload_n C0 dX4_edge_20 rfl (lv_at hl 0 rfl) ?_
          refine zgX4_7 C0 hP 0 rfl (.ref (h 1)) rfl dX4_edge_21 ?_
          refine z_iload_n C0 dX4_edge_24 rfl (lv_at hl 2 rfl) ?_
          obtain ⟨g35, hf⟩ := zg_some hf
          refine z_iald C0 hP 1 rfl (Nat.le_of_ble_eq_true rfl) g35 dX4_edge_25 ?_
          refine z_goto C0 30 dX4_edge_26 (by decide) ?_
          cases hf
          exact J34 _ _ hP hS ls (lv_sub hl [0, 2] rfl)
  obtain ⟨r40, hE41, hf⟩ := zbind hf
  refine L39 _ 0 0 r40 hE41 ?_ _ _ hP hS ls (lv_sub hl [2, 1, 0] rfl)
  intro H locs hP hS ls hl
  refine z_aload_n C0 dX4_edge_37 rfl (lv_at hl 0 rfl) ?_
  obtain ⟨r42, hc43, hf⟩ := zbind hf
  refine z_callFi (rest := []) C0 hP (zD hD rfl) hS (zmX4_horizon l D cI cZ h _ lagV deadV mannerV settingV leastOfV mostOfV keptV planeOfV momentOfV stripOfV lateV isOverV isLiveV endOfV knownV timeOfV pulseOfV groupOfV groupsV shutV firstOfV agreesV agreeSetV missedV bestAV bestBV bestAgreesV bestMissedV r42 hc43) (zkX4_76 ⟨by decide, by decide⟩ C0.2.2.2.2.1) 4 rfl rfl rfl rfl hl.1 (Nat.le_of_ble_eq_true rfl) dX4_edge_38 ⟨Nat.zero_le _, Nat.zero_le _⟩ (fun H locs hP hS => ?_)
  have hP : va_P D vwCl ((wM h cI cZ lagV deadV mannerV settingV leastOfV mostOfV keptV planeOfV momentOfV stripOfV lateV isOverV isLiveV endOfV knownV timeOfV pulseOfV groupOfV groupsV shutV firstOfV agreesV agreeSetV missedV bestAV bestBV bestAgreesV bestMissedV)) H := hP
  refine z_iload_n C0 dX4_edge_41 rfl (lv_at hl 1 rfl) ?_
  refine z_isub C0 dX4_edge_42 ?_
  cases hf
  exact hret hP hS dX4_edge_43
