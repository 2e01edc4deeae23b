set_option maxHeartbeats 4000000 in
set_option maxRecDepth 100000 in
theorem zmX4_through (l : Launch) (D : va_G) (cI cZ : ClassId) (h : Nat → Nat) (sz : Nat) (lagV : (Nat → Int)) (deadV : (Nat → Int)) (mannerV : (Nat → Int)) (settingV : (Nat → Int)) (leastOfV : (Nat → Int)) (mostOfV : (Nat → Int)) (keptV : Int) (planeOfV : (Nat → Int)) (momentOfV : (Nat → Int)) (stripOfV : (Nat → Int)) (lateV : Int) (isOverV : Int) (isLiveV : (Nat → Int)) (endOfV : (Nat → Int)) (knownV : Int) (timeOfV : (Nat → Int)) (pulseOfV : (Nat → Int)) (groupOfV : (Nat → Int)) (groupsV : Int) (shutV : Int) (firstOfV : (Nat → Int)) (agreesV : Int) (agreeSetV : Int) (missedV : Int) (bestAV : Int) (bestBV : Int) (bestAgreesV : Int) (bestMissedV : Int) (p1 : Int) (p2 : Int) (o : Int × (Nat → Int) × (Nat → Int) × Int × (Nat → Int) × (Nat → Int) × (Nat → Int) × Int × Int × (Nat → Int) × Int × Int × Int × Int × Int × Int × Int) (hf : fX4_through (zk_M lagV deadV mannerV settingV leastOfV mostOfV keptV planeOfV momentOfV stripOfV lateV isOverV isLiveV endOfV knownV timeOfV pulseOfV groupOfV groupsV shutV firstOfV agreesV agreeSetV missedV bestAV bestBV bestAgreesV bestMissedV) p1 p2 = some o) : Met l yX4_through (zW yX4_through cX4_through 5 (some .int)) rmX4_through (va_Pc [.ref (h 0), .int (zI p1), .int (zI p2)] (zPre D cI cZ ((wM h cI cZ lagV deadV mannerV settingV leastOfV mostOfV keptV planeOfV momentOfV stripOfV lateV isOverV isLiveV endOfV knownV timeOfV pulseOfV groupOfV groupsV shutV firstOfV agreesV agreeSetV missedV bestAV bestBV bestAgreesV bestMissedV)) sz)) (va_Qi (fun r' (_ : Unit) => r' = zI o.1) (fun _ t => va_P D vwCl ((wM h cI cZ lagV deadV mannerV settingV leastOfV mostOfV keptV planeOfV momentOfV stripOfV lateV isOverV o.2.1 o.2.2.1 o.2.2.2.1 o.2.2.2.2.1 o.2.2.2.2.2.1 o.2.2.2.2.2.2.1 o.2.2.2.2.2.2.2.1 o.2.2.2.2.2.2.2.2.1 o.2.2.2.2.2.2.2.2.2.1 o.2.2.2.2.2.2.2.2.2.2.1 o.2.2.2.2.2.2.2.2.2.2.2.1 o.2.2.2.2.2.2.2.2.2.2.2.2.1 o.2.2.2.2.2.2.2.2.2.2.2.2.2.1 o.2.2.2.2.2.2.2.2.2.2.2.2.2.2.1 o.2.2.2.2.2.2.2.2.2.2.2.2.2.2.2.1 o.2.2.2.2.2.2.2.2.2.2.2.2.2.2.2.2)) t.heap) (va_A ((wM h cI cZ lagV deadV mannerV settingV leastOfV mostOfV keptV planeOfV momentOfV stripOfV lateV isOverV isLiveV endOfV knownV timeOfV pulseOfV groupOfV groupsV shutV firstOfV agreesV agreeSetV missedV bestAV bestBV bestAgreesV bestMissedV)) sz)) 0 0 (va_A ((wM h cI cZ lagV deadV mannerV settingV leastOfV mostOfV keptV planeOfV momentOfV stripOfV lateV isOverV isLiveV endOfV knownV timeOfV pulseOfV groupOfV groupsV shutV firstOfV agreesV agreeSetV missedV bestAV bestBV bestAgreesV bestMissedV)) sz) := by
  unfold fX4_through at hf
  refine z_enter_i (own := RX4) (by decide +kernel) rfl (Nat.le_of_ble_eq_true rfl) ?_
  intro p e s m args below meth c A Q C0 hP hD hS hret ls hl
  have hl : lv_has ls 5 [(0, .ref (h 0)), (1, .int (zI p1)), (2, .int (zI p2))] := hl
  refine z_iload_n C0 dX4_through_0 rfl (lv_at hl 1 rfl) ?_
  obtain ⟨r1, hc2, hf⟩ := zbind hf
  refine z_callSi (rest := []) C0 hP (zD hD rfl) hS [] rfl (zmX4_isPlane l D cI cZ _ p1 r1 hc2) (zkX4_68 ⟨by decide, by decide⟩ C0.2.2.2.2.1) rfl rfl rfl hl.1 (Nat.le_of_ble_eq_true rfl) dX4_through_1 ⟨Nat.zero_le _, Nat.zero_le _⟩ rfl (Nat.le_of_ble_eq_true rfl) (fun H locs hP hS => ?_)
  have hP : va_P D vwCl ((wM h cI cZ lagV deadV mannerV settingV leastOfV mostOfV keptV planeOfV momentOfV stripOfV lateV isOverV isLiveV endOfV knownV timeOfV pulseOfV groupOfV groupsV shutV firstOfV agreesV agreeSetV missedV bestAV bestBV bestAgreesV bestMissedV)) H := hP
  refine z_ifne C0 9 dX4_through_4 (by decide) (fun c53 => ?_) (fun c53 => ?_)
  · have hf := zif_neg hf c53
    refine z_iload_n C0 dX4_through_9 rfl (lv_at hl 2 rfl) ?_
    refine z_iconst C0 dX4_through_10 ?_
    refine z_bipush C0 dX4_through_11 (by decide +kernel) ?_
    obtain ⟨r3, hc4, hf⟩ := zbind hf
    refine z_callSi (rest := []) C0 hP (zD hD rfl) hS [] rfl (zmX4_within l D cI cZ _ p2 0 15 r3 hc4) (zkX4_56 ⟨by decide, by decide⟩ C0.2.2.2.2.1) rfl rfl rfl hl.1 (Nat.le_of_ble_eq_true rfl) dX4_through_13 ⟨Nat.zero_le _, Nat.zero_le _⟩ rfl (Nat.le_of_ble_eq_true rfl) (fun H locs hP hS => ?_)
    have hP : va_P D vwCl ((wM h cI cZ lagV deadV mannerV settingV leastOfV mostOfV keptV planeOfV momentOfV stripOfV lateV isOverV isLiveV endOfV knownV timeOfV pulseOfV groupOfV groupsV shutV firstOfV agreesV agreeSetV missedV bestAV bestBV bestAgreesV bestMissedV)) H := hP
    refine z_ifne C0 22 dX4_through_16 (by decide) (fun c52 => ?_) (fun c52 => ?_)
    · have hf := zif_neg hf c52
      refine z_aload_n C0 dX4_through_22 rfl (lv_at hl 0 rfl) ?_
      refine z_iconst C0 dX4_through_23 ?_
      refine z_iconst C0 dX4_through_24 ?_
      obtain ⟨r5, hc6, hf⟩ := zbind hf
      refine z_callFv (rest := []) C0 hP (zD hD rfl) hS (zmX4_findGroups l D cI cZ h _ lagV deadV mannerV settingV leastOfV mostOfV keptV planeOfV momentOfV stripOfV lateV isOverV isLiveV endOfV knownV timeOfV pulseOfV groupOfV groupsV shutV firstOfV agreesV agreeSetV missedV bestAV bestBV bestAgreesV bestMissedV 0 0 r5 hc6) (zkX4_120 ⟨by decide, by decide⟩ C0.2.2.2.2.1) 4 rfl rfl rfl rfl hl.1 (Nat.le_of_ble_eq_true rfl) dX4_through_25 ⟨Nat.zero_le _, Nat.zero_le _⟩ (fun H locs hP hS => ?_)
      have hP : va_P D vwCl ((wM h cI cZ lagV deadV mannerV settingV leastOfV mostOfV keptV planeOfV momentOfV stripOfV lateV isOverV r5.1 r5.2.1 r5.2.2.1 r5.2.2.2.1 r5.2.2.2.2.1 r5.2.2.2.2.2.1 r5.2.2.2.2.2.2.1 r5.2.2.2.2.2.2.2.1 r5.2.2.2.2.2.2.2.2 agreesV agreeSetV missedV bestAV bestBV bestAgreesV bestMissedV)) H := hP
      refine z_iconst C0 dX4_through_28 ?_
      refine z_istore_n C0 [(3, .int (zI 0)), (0, .ref (h 0)), (1, .int (zI p1)), (2, .int (zI p2))] dX4_through_29 rfl hl (by decide) rfl (fun ls hl => ?_)
      refine z_iconst C0 dX4_through_30 ?_
      refine z_istore C0 [(4, .int (zI 0)), (3, .int (zI 0)), (0, .ref (h 0)), (1, .int (zI p1)), (2, .int (zI p2))] dX4_through_31 hl (by decide) rfl (fun ls hl => ?_)
      have L49 : ∀ (zn : Nat) (i10 : Int) (i11 : Int) (k33 : Int) (k34 : Int) (k35 : Int) (k36 : Int) (k37 : Int) (k38 : Int) (k39 : Int) (out : Int × Int × Int × Int × Int × Int × Int × Int), fX4_through_L33 zn (zk_M lagV deadV mannerV settingV leastOfV mostOfV keptV planeOfV momentOfV stripOfV lateV isOverV isLiveV endOfV knownV timeOfV pulseOfV groupOfV groupsV shutV firstOfV agreesV agreeSetV missedV bestAV bestBV bestAgreesV bestMissedV) p1 p2 r5.1 r5.2.1 r5.2.2.1 r5.2.2.2.1 r5.2.2.2.2.1 r5.2.2.2.2.2.1 r5.2.2.2.2.2.2.1 r5.2.2.2.2.2.2.2.1 r5.2.2.2.2.2.2.2.2 i10 i11 k33 k34 k35 k36 k37 k38 k39 = some out → (∀ (H : Heap) (locs : List Loc), va_P D vwCl ((wM h cI cZ lagV deadV mannerV settingV leastOfV mostOfV keptV planeOfV momentOfV stripOfV lateV isOverV r5.1 r5.2.1 r5.2.2.1 r5.2.2.2.1 r5.2.2.2.2.1 r5.2.2.2.2.2.1 r5.2.2.2.2.2.2.1 r5.2.2.2.2.2.2.2.1 r5.2.2.2.2.2.2.2.2 out.2.1 out.2.2.1 out.2.2.2.1 out.2.2.2.2.1 out.2.2.2.2.2.1 out.2.2.2.2.2.2.1 out.2.2.2.2.2.2.2)) H → va_S A s.heap H locs → ∀ ls : Array Slot, lv_has ls 5 [(3, .int (zI out.1))] → W p l e rmX4_through s m args below meth c H locs 0 0 Q (F0 m 80 ls [])) → ∀ (H : Heap) (locs : List Loc), va_P D vwCl ((wM h cI cZ lagV deadV mannerV settingV leastOfV mostOfV keptV planeOfV momentOfV stripOfV lateV isOverV r5.1 r5.2.1 r5.2.2.1 r5.2.2.2.1 r5.2.2.2.2.1 r5.2.2.2.2.2.1 r5.2.2.2.2.2.2.1 r5.2.2.2.2.2.2.2.1 r5.2.2.2.2.2.2.2.2 k33 k34 k35 k36 k37 k38 k39)) H → va_S A s.heap H locs → ∀ ls : Array Slot, lv_has ls 5 [(0, .ref (h 0)), (1, .int (zI p1)), (2, .int (zI p2)), (3, .int (zI i10)), (4, .int (zI i11))] → W p l e rmX4_through s m args below meth c H locs 0 0 Q (F0 m 33 ls []) := by
        intro zn
        induction zn with
        | zero =>
          intro i10 i11 k33 k34 k35 k36 k37 k38 k39 out hf
          rw [fX4_through_L33_z] at hf
          cases hf
        | succ zn ih =>
          intro i10 i11 k33 k34 k35 k36 k37 k38 k39 out hf K H locs hP hS ls hl
          rw [fX4_through_L33_s] at hf
          refine z_iload C0 dX4_through_33 (lv_at hl 4 rfl) ?_
          refine z_aload_n C0 dX4_through_35 rfl (lv_at hl 0 rfl) ?_
          refine zgX4_117 C0 hP 0 rfl (.int (zI r5.2.2.2.2.2.2.2.1)) rfl dX4_through_36 ?_
          refine z_icmpge C0 80 dX4_through_39 (by decide) (fun c48 => ?_) (fun c48 => ?_)
          · have hf := zif_pos hf c48
            cases hf
            exact K _ _ hP hS ls (lv_sub hl [3] rfl)
          · have hf := zif_neg hf c48
            refine z_iload_n C0 dX4_through_42 rfl (lv_at hl 3 rfl) ?_
            refine z_aload_n C0 dX4_through_43 rfl (lv_at hl 0 rfl) ?_
            refine z_iload C0 dX4_through_44 (lv_at hl 4 rfl) ?_
            obtain ⟨r40, hc41, hf⟩ := zbind hf
            refine z_callFi (rest := [.int (zI i10)]) C0 hP (zD hD rfl) hS (zmX4_findTrack l D cI cZ h _ lagV deadV mannerV settingV leastOfV mostOfV keptV planeOfV momentOfV stripOfV lateV isOverV r5.1 r5.2.1 r5.2.2.1 r5.2.2.2.1 r5.2.2.2.2.1 r5.2.2.2.2.2.1 r5.2.2.2.2.2.2.1 r5.2.2.2.2.2.2.2.1 r5.2.2.2.2.2.2.2.2 k33 k34 k35 k36 k37 k38 k39 i11 r40 hc41) (zkX4_185 ⟨by decide, by decide⟩ C0.2.2.2.2.1) 4 rfl rfl rfl rfl hl.1 (Nat.le_of_ble_eq_true rfl) dX4_through_46 ⟨Nat.zero_le _, Nat.zero_le _⟩ (fun H locs hP hS => ?_)
            have hP : va_P D vwCl ((wM h cI cZ lagV deadV mannerV settingV leastOfV mostOfV keptV planeOfV momentOfV stripOfV lateV isOverV r5.1 r5.2.1 r5.2.2.1 r5.2.2.2.1 r5.2.2.2.2.1 r5.2.2.2.2.2.1 r5.2.2.2.2.2.2.1 r5.2.2.2.2.2.2.2.1 r5.2.2.2.2.2.2.2.2 r40.2.1 r40.2.2.1 r40.2.2.2.1 r40.2.2.2.2.1 r40.2.2.2.2.2.1 r40.2.2.2.2.2.2.1 r40.2.2.2.2.2.2.2)) H := hP
            obtain ⟨r42, hE47, hf⟩ := zbind hf
            have J43 : ∀ (H : Heap) (locs : List Loc), va_P D vwCl ((wM h cI cZ lagV deadV mannerV settingV leastOfV mostOfV keptV planeOfV momentOfV stripOfV lateV isOverV r5.1 r5.2.1 r5.2.2.1 r5.2.2.2.1 r5.2.2.2.2.1 r5.2.2.2.2.2.1 r5.2.2.2.2.2.2.1 r5.2.2.2.2.2.2.2.1 r5.2.2.2.2.2.2.2.2 r40.2.1 r40.2.2.1 r40.2.2.2.1 r40.2.2.2.2.1 r40.2.2.2.2.2.1 r40.2.2.2.2.2.2.1 r40.2.2.2.2.2.2.2)) H → va_S A s.heap H locs → ∀ ls : Array Slot, lv_has ls 5 [(0, .ref (h 0)), (1, .int (zI p1)), (2, .int (zI p2)), (4, .int (zI i11))] → W p l e rmX4_through s m args below meth c H locs 0 0 Q (F0 m 72 ls [.int (zI r42), .int (zI i10)]) := by
              intro H locs hP hS ls hl
              refine z_iadd C0 dX4_through_72 ?_
              obtain ⟨v44, hv44, hf⟩ := zl_some hf
              refine z_name hv44 ?_
              refine z_istore_n C0 [(3, .int (zI v44)), (0, .ref (h 0)), (1, .int (zI p1)), (2, .int (zI p2)), (4, .int (zI i11))] dX4_through_73 rfl hl (by decide) rfl (fun ls hl => ?_)
              refine z_iinc C0 [(4, .int (zI (i11 + 1))), (3, .int (zI v44)), (0, .ref (h 0)), (1, .int (zI p1)), (2, .int (zI p2))] dX4_through_74 hl 4 rfl (by decide) rfl (fun ls hl => ?_)
              refine z_goto C0 33 dX4_through_77 (by decide) ?_
              exact ih v44 (i11 + 1) r40.2.1 r40.2.2.1 r40.2.2.2.1 r40.2.2.2.2.1 r40.2.2.2.2.2.1 r40.2.2.2.2.2.2.1 r40.2.2.2.2.2.2.2 out hf K _ _ hP hS ls (lv_sub hl [2, 3, 4, 1, 0] rfl)
            have hf := hE47
            refine z_ifeq C0 71 dX4_through_49 (by decide) (fun c46 => ?_) (fun c46 => ?_)
            · have hf := zif_pos hf c46
              refine z_iconst C0 dX4_through_71 ?_
              cases hf
              exact J43 _ _ hP hS ls (lv_sub hl [0, 1, 2, 4] rfl)
            · have hf := zif_neg hf c46
              refine z_aload_n C0 dX4_through_52 rfl (lv_at hl 0 rfl) ?_
              refine zgX4_182 C0 hP 0 rfl (.int (zI r40.2.2.2.2.1)) rfl dX4_through_53 ?_
              refine z_aload_n C0 dX4_through_56 rfl (lv_at hl 0 rfl) ?_
              refine zgX4_172 C0 hP 0 rfl (.int (zI r40.2.2.2.2.2.1)) rfl dX4_through_57 ?_
              refine z_iload_n C0 dX4_through_60 rfl (lv_at hl 1 rfl) ?_
              refine z_imul C0 dX4_through_61 ?_
              refine z_iadd C0 dX4_through_62 ?_
              refine z_iload_n C0 dX4_through_63 rfl (lv_at hl 2 rfl) ?_
              refine z_icmpne C0 71 dX4_through_64 (by decide) (fun c45 => ?_) (fun c45 => ?_)
              · have hf := zif_neg hf c45
                refine z_iconst C0 dX4_through_71 ?_
                cases hf
                exact J43 _ _ hP hS ls (lv_sub hl [0, 1, 2, 4] rfl)
              · have hf := zif_pos hf c45
                refine z_iconst C0 dX4_through_67 ?_
                refine z_goto C0 72 dX4_through_68 (by decide) ?_
                cases hf
                exact J43 _ _ hP hS ls (lv_sub hl [0, 1, 2, 4] rfl)
      obtain ⟨r50, hE51, hf⟩ := zbind hf
      refine L49 _ 0 0 agreesV agreeSetV missedV bestAV bestBV bestAgreesV bestMissedV r50 hE51 ?_ _ _ hP hS ls (lv_sub hl [2, 3, 4, 1, 0] rfl)
      intro H locs hP hS ls hl
      refine z_iload_n C0 dX4_through_80 rfl (lv_at hl 0 rfl) ?_
      cases hf
      exact hret hP hS dX4_through_81
    · have hf := zif_pos hf c52
      refine z_bipush C0 dX4_through_19 (by decide +kernel) ?_
      cases hf
      exact hret hP hS dX4_through_21
  · have hf := zif_pos hf c53
    refine z_iconst C0 dX4_through_7 ?_
    cases hf
    exact hret hP hS dX4_through_8
