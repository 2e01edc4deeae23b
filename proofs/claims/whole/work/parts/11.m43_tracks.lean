set_option maxHeartbeats 4000000 in
set_option maxRecDepth 100000 in
theorem zmX4_tracks (l : Launch) (D : va_G) (cI cZ : ClassId) (h : Nat → Nat) (sz : Nat) (lagV : (Nat → Int)) (deadV : (Nat → Int)) (mannerV : (Nat → Int)) (settingV : (Nat → Int)) (leastOfV : (Nat → Int)) (mostOfV : (Nat → Int)) (keptV : Int) (planeOfV : (Nat → Int)) (momentOfV : (Nat → Int)) (stripOfV : (Nat → Int)) (lateV : Int) (isOverV : Int) (isLiveV : (Nat → Int)) (endOfV : (Nat → Int)) (knownV : Int) (timeOfV : (Nat → Int)) (pulseOfV : (Nat → Int)) (groupOfV : (Nat → Int)) (groupsV : Int) (shutV : Int) (firstOfV : (Nat → Int)) (agreesV : Int) (agreeSetV : Int) (missedV : Int) (bestAV : Int) (bestBV : Int) (bestAgreesV : Int) (bestMissedV : Int)  (o : Int × Int × Int × Int × Int × Int × Int × Int) (hf : fX4_tracks (zk_M lagV deadV mannerV settingV leastOfV mostOfV keptV planeOfV momentOfV stripOfV lateV isOverV isLiveV endOfV knownV timeOfV pulseOfV groupOfV groupsV shutV firstOfV agreesV agreeSetV missedV bestAV bestBV bestAgreesV bestMissedV) = some o) : Met l yX4_tracks (zW yX4_tracks cX4_tracks 3 (some .int)) rmX4_tracks (va_Pc [.ref (h 0)] (zPre D cI cZ ((wM h cI cZ lagV deadV mannerV settingV leastOfV mostOfV keptV planeOfV momentOfV stripOfV lateV isOverV isLiveV endOfV knownV timeOfV pulseOfV groupOfV groupsV shutV firstOfV agreesV agreeSetV missedV bestAV bestBV bestAgreesV bestMissedV)) sz)) (va_Qi (fun r' (_ : Unit) => r' = zI o.1) (fun _ t => va_P D vwCl ((wM h cI cZ lagV deadV mannerV settingV leastOfV mostOfV keptV planeOfV momentOfV stripOfV lateV isOverV isLiveV endOfV knownV timeOfV pulseOfV groupOfV groupsV shutV firstOfV o.2.1 o.2.2.1 o.2.2.2.1 o.2.2.2.2.1 o.2.2.2.2.2.1 o.2.2.2.2.2.2.1 o.2.2.2.2.2.2.2)) t.heap) (va_A ((wM h cI cZ lagV deadV mannerV settingV leastOfV mostOfV keptV planeOfV momentOfV stripOfV lateV isOverV isLiveV endOfV knownV timeOfV pulseOfV groupOfV groupsV shutV firstOfV agreesV agreeSetV missedV bestAV bestBV bestAgreesV bestMissedV)) sz)) 0 0 (va_A ((wM h cI cZ lagV deadV mannerV settingV leastOfV mostOfV keptV planeOfV momentOfV stripOfV lateV isOverV isLiveV endOfV knownV timeOfV pulseOfV groupOfV groupsV shutV firstOfV agreesV agreeSetV missedV bestAV bestBV bestAgreesV bestMissedV)) sz) := by
  unfold fX4_tracks at hf
  refine z_enter_i (own := RX4) (by decide +kernel) rfl (Nat.le_of_ble_eq_true rfl) ?_
  intro p e s m args below meth c A Q C0 hP hD hS hret ls hl
  have hl : lv_has ls 3 [(0, .ref (h 0))] := hl
  refine z_iconst C0 dX4_tracks_0 ?_
  refine z_istore_n C0 [(1, .int (zI 0)), (0, .ref (h 0))] dX4_tracks_1 rfl hl (by decide) rfl (fun ls hl => ?_)
  refine z_iconst C0 dX4_tracks_2 ?_
  refine z_istore_n C0 [(2, .int (zI 0)), (1, .int (zI 0)), (0, .ref (h 0))] dX4_tracks_3 rfl hl (by decide) rfl (fun ls hl => ?_)
  have L40 : ∀ (zn : Nat) (i2 : Int) (i3 : Int) (k25 : Int) (k26 : Int) (k27 : Int) (k28 : Int) (k29 : Int) (k30 : Int) (k31 : Int) (out : Int × Int × Int × Int × Int × Int × Int × Int), fX4_tracks_L4 zn (zk_M lagV deadV mannerV settingV leastOfV mostOfV keptV planeOfV momentOfV stripOfV lateV isOverV isLiveV endOfV knownV timeOfV pulseOfV groupOfV groupsV shutV firstOfV agreesV agreeSetV missedV bestAV bestBV bestAgreesV bestMissedV) i2 i3 k25 k26 k27 k28 k29 k30 k31 = some out → (∀ (H : Heap) (locs : List Loc), va_P D vwCl ((wM h cI cZ lagV deadV mannerV settingV leastOfV mostOfV keptV planeOfV momentOfV stripOfV lateV isOverV isLiveV endOfV knownV timeOfV pulseOfV groupOfV groupsV shutV firstOfV out.2.1 out.2.2.1 out.2.2.2.1 out.2.2.2.2.1 out.2.2.2.2.2.1 out.2.2.2.2.2.2.1 out.2.2.2.2.2.2.2)) H → va_S A s.heap H locs → ∀ ls : Array Slot, lv_has ls 3 [(1, .int (zI out.1))] → W p l e rmX4_tracks s m args below meth c H locs 0 0 Q (F0 m 34 ls [])) → ∀ (H : Heap) (locs : List Loc), va_P D vwCl ((wM h cI cZ lagV deadV mannerV settingV leastOfV mostOfV keptV planeOfV momentOfV stripOfV lateV isOverV isLiveV endOfV knownV timeOfV pulseOfV groupOfV groupsV shutV firstOfV k25 k26 k27 k28 k29 k30 k31)) H → va_S A s.heap H locs → ∀ ls : Array Slot, lv_has ls 3 [(0, .ref (h 0)), (1, .int (zI i2)), (2, .int (zI i3))] → W p l e rmX4_tracks s m args below meth c H locs 0 0 Q (F0 m 4 ls []) := by
    intro zn
    induction zn with
    | zero =>
      intro i2 i3 k25 k26 k27 k28 k29 k30 k31 out hf
      rw [fX4_tracks_L4_z] at hf
      cases hf
    | succ zn ih =>
      intro i2 i3 k25 k26 k27 k28 k29 k30 k31 out hf K H locs hP hS ls hl
      rw [fX4_tracks_L4_s] at hf
      refine z_iload_n C0 dX4_tracks_4 rfl (lv_at hl 2 rfl) ?_
      refine z_aload_n C0 dX4_tracks_5 rfl (lv_at hl 0 rfl) ?_
      refine zgX4_117 C0 hP 0 rfl (.int (zI shutV)) rfl dX4_tracks_6 ?_
      refine z_icmpge C0 34 dX4_tracks_9 (by decide) (fun c39 => ?_) (fun c39 => ?_)
      · have hf := zif_pos hf c39
        cases hf
        exact K _ _ hP hS ls (lv_sub hl [1] rfl)
      · have hf := zif_neg hf c39
        refine z_iload_n C0 dX4_tracks_12 rfl (lv_at hl 1 rfl) ?_
        refine z_aload_n C0 dX4_tracks_13 rfl (lv_at hl 0 rfl) ?_
        refine z_iload_n C0 dX4_tracks_14 rfl (lv_at hl 2 rfl) ?_
        obtain ⟨r32, hc33, hf⟩ := zbind hf
        refine z_callFi (rest := [.int (zI i2)]) C0 hP (zD hD rfl) hS (zmX4_findTrack l D cI cZ h _ lagV deadV mannerV settingV leastOfV mostOfV keptV planeOfV momentOfV stripOfV lateV isOverV isLiveV endOfV knownV timeOfV pulseOfV groupOfV groupsV shutV firstOfV k25 k26 k27 k28 k29 k30 k31 i3 r32 hc33) (zkX4_185 ⟨by decide, by decide⟩ C0.2.2.2.2.1) 4 rfl rfl rfl rfl hl.1 (Nat.le_of_ble_eq_true rfl) dX4_tracks_15 ⟨Nat.zero_le _, Nat.zero_le _⟩ (fun H locs hP hS => ?_)
        have hP : va_P D vwCl ((wM h cI cZ lagV deadV mannerV settingV leastOfV mostOfV keptV planeOfV momentOfV stripOfV lateV isOverV isLiveV endOfV knownV timeOfV pulseOfV groupOfV groupsV shutV firstOfV r32.2.1 r32.2.2.1 r32.2.2.2.1 r32.2.2.2.2.1 r32.2.2.2.2.2.1 r32.2.2.2.2.2.2.1 r32.2.2.2.2.2.2.2)) H := hP
        obtain ⟨r34, hE38, hf⟩ := zbind hf
        have J35 : ∀ (H : Heap) (locs : List Loc), va_P D vwCl ((wM h cI cZ lagV deadV mannerV settingV leastOfV mostOfV keptV planeOfV momentOfV stripOfV lateV isOverV isLiveV endOfV knownV timeOfV pulseOfV groupOfV groupsV shutV firstOfV r32.2.1 r32.2.2.1 r32.2.2.2.1 r32.2.2.2.2.1 r32.2.2.2.2.2.1 r32.2.2.2.2.2.2.1 r32.2.2.2.2.2.2.2)) H → va_S A s.heap H locs → ∀ ls : Array Slot, lv_has ls 3 [(0, .ref (h 0)), (2, .int (zI i3))] → W p l e rmX4_tracks s m args below meth c H locs 0 0 Q (F0 m 26 ls [.int (zI r34), .int (zI i2)]) := by
          intro H locs hP hS ls hl
          refine z_iadd C0 dX4_tracks_26 ?_
          obtain ⟨v36, hv36, hf⟩ := zl_some hf
          refine z_name hv36 ?_
          refine z_istore_n C0 [(1, .int (zI v36)), (0, .ref (h 0)), (2, .int (zI i3))] dX4_tracks_27 rfl hl (by decide) rfl (fun ls hl => ?_)
          refine z_iinc C0 [(2, .int (zI (i3 + 1))), (1, .int (zI v36)), (0, .ref (h 0))] dX4_tracks_28 hl 2 rfl (by decide) rfl (fun ls hl => ?_)
          refine z_goto C0 4 dX4_tracks_31 (by decide) ?_
          exact ih v36 (i3 + 1) r32.2.1 r32.2.2.1 r32.2.2.2.1 r32.2.2.2.2.1 r32.2.2.2.2.2.1 r32.2.2.2.2.2.2.1 r32.2.2.2.2.2.2.2 out hf K _ _ hP hS ls (lv_sub hl [2, 1, 0] rfl)
        have hf := hE38
        refine z_ifeq C0 25 dX4_tracks_18 (by decide) (fun c37 => ?_) (fun c37 => ?_)
        · have hf := zif_pos hf c37
          refine z_iconst C0 dX4_tracks_25 ?_
          cases hf
          exact J35 _ _ hP hS ls (lv_sub hl [0, 2] rfl)
        · have hf := zif_neg hf c37
          refine z_iconst C0 dX4_tracks_21 ?_
          refine z_goto C0 26 dX4_tracks_22 (by decide) ?_
          cases hf
          exact J35 _ _ hP hS ls (lv_sub hl [0, 2] rfl)
  obtain ⟨r41, hE42, hf⟩ := zbind hf
  refine L40 _ 0 0 agreesV agreeSetV missedV bestAV bestBV bestAgreesV bestMissedV r41 hE42 ?_ _ _ hP hS ls (lv_sub hl [2, 1, 0] rfl)
  intro H locs hP hS ls hl
  refine z_iload_n C0 dX4_tracks_34 rfl (lv_at hl 0 rfl) ?_
  cases hf
  exact hret hP hS dX4_tracks_35
