set_option maxHeartbeats 4000000 in
set_option maxRecDepth 100000 in
theorem zmX4_folds (l : Launch) (D : va_G) (cI cZ : ClassId) (h : Nat → Nat) (sz : Nat) (lagV : (Nat → Int)) (deadV : (Nat → Int)) (mannerV : (Nat → Int)) (settingV : (Nat → Int)) (leastOfV : (Nat → Int)) (mostOfV : (Nat → Int)) (keptV : Int) (planeOfV : (Nat → Int)) (momentOfV : (Nat → Int)) (stripOfV : (Nat → Int)) (lateV : Int) (isOverV : Int) (isLiveV : (Nat → Int)) (endOfV : (Nat → Int)) (knownV : Int) (timeOfV : (Nat → Int)) (pulseOfV : (Nat → Int)) (groupOfV : (Nat → Int)) (groupsV : Int) (shutV : Int) (firstOfV : (Nat → Int)) (agreesV : Int) (agreeSetV : Int) (missedV : Int) (bestAV : Int) (bestBV : Int) (bestAgreesV : Int) (bestMissedV : Int) (p1 : Int) (o : Int × (Nat → Int) × (Nat → Int) × Int × (Nat → Int) × (Nat → Int) × (Nat → Int) × Int × Int × (Nat → Int)) (hf : fX4_folds (zk_M lagV deadV mannerV settingV leastOfV mostOfV keptV planeOfV momentOfV stripOfV lateV isOverV isLiveV endOfV knownV timeOfV pulseOfV groupOfV groupsV shutV firstOfV agreesV agreeSetV missedV bestAV bestBV bestAgreesV bestMissedV) p1 = some o) : Met l yX4_folds (zW yX4_folds cX4_folds 4 (some .int)) rmX4_folds (va_Pc [.ref (h 0), .int (zI p1)] (zPre D cI cZ ((wM h cI cZ lagV deadV mannerV settingV leastOfV mostOfV keptV planeOfV momentOfV stripOfV lateV isOverV isLiveV endOfV knownV timeOfV pulseOfV groupOfV groupsV shutV firstOfV agreesV agreeSetV missedV bestAV bestBV bestAgreesV bestMissedV)) sz)) (va_Qi (fun r' (_ : Unit) => r' = zI o.1) (fun _ t => va_P D vwCl ((wM h cI cZ lagV deadV mannerV settingV leastOfV mostOfV keptV planeOfV momentOfV stripOfV lateV isOverV o.2.1 o.2.2.1 o.2.2.2.1 o.2.2.2.2.1 o.2.2.2.2.2.1 o.2.2.2.2.2.2.1 o.2.2.2.2.2.2.2.1 o.2.2.2.2.2.2.2.2.1 o.2.2.2.2.2.2.2.2.2 agreesV agreeSetV missedV bestAV bestBV bestAgreesV bestMissedV)) t.heap) (va_A ((wM h cI cZ lagV deadV mannerV settingV leastOfV mostOfV keptV planeOfV momentOfV stripOfV lateV isOverV isLiveV endOfV knownV timeOfV pulseOfV groupOfV groupsV shutV firstOfV agreesV agreeSetV missedV bestAV bestBV bestAgreesV bestMissedV)) sz)) 0 0 (va_A ((wM h cI cZ lagV deadV mannerV settingV leastOfV mostOfV keptV planeOfV momentOfV stripOfV lateV isOverV isLiveV endOfV knownV timeOfV pulseOfV groupOfV groupsV shutV firstOfV agreesV agreeSetV missedV bestAV bestBV bestAgreesV bestMissedV)) sz) := by
  unfold fX4_folds at hf
  refine z_enter_i (own := RX4) (by decide +kernel) rfl (Nat.le_of_ble_eq_true rfl) ?_
  intro p e s m args below meth c A Q C0 hP hD hS hret ls hl
  have hl : lv_has ls 4 [(0, .ref (h 0)), (1, .int (zI p1))] := hl
  refine z_iload_n C0 dX4_folds_0 rfl (lv_at hl 1 rfl) ?_
  refine z_iconst C0 dX4_folds_1 ?_
  refine z_bipush C0 dX4_folds_2 (by decide +kernel) ?_
  obtain ⟨r1, hc2, hf⟩ := zbind hf
  refine z_callSi (rest := []) C0 hP (zD hD rfl) hS [] rfl (zmX4_within l D cI cZ _ p1 1 6 r1 hc2) (zkX4_56 ⟨by decide, by decide⟩ C0.2.2.2.2.1) rfl rfl rfl hl.1 (Nat.le_of_ble_eq_true rfl) dX4_folds_4 ⟨Nat.zero_le _, Nat.zero_le _⟩ rfl (Nat.le_of_ble_eq_true rfl) (fun H locs hP hS => ?_)
  have hP : va_P D vwCl ((wM h cI cZ lagV deadV mannerV settingV leastOfV mostOfV keptV planeOfV momentOfV stripOfV lateV isOverV isLiveV endOfV knownV timeOfV pulseOfV groupOfV groupsV shutV firstOfV agreesV agreeSetV missedV bestAV bestBV bestAgreesV bestMissedV)) H := hP
  refine z_ifne C0 13 dX4_folds_7 (by decide) (fun c50 => ?_) (fun c50 => ?_)
  · have hf := zif_neg hf c50
    refine z_aload_n C0 dX4_folds_13 rfl (lv_at hl 0 rfl) ?_
    refine z_iconst C0 dX4_folds_14 ?_
    refine z_iconst C0 dX4_folds_15 ?_
    obtain ⟨r3, hc4, hf⟩ := zbind hf
    refine z_callFv (rest := []) C0 hP (zD hD rfl) hS (zmX4_findGroups l D cI cZ h _ lagV deadV mannerV settingV leastOfV mostOfV keptV planeOfV momentOfV stripOfV lateV isOverV isLiveV endOfV knownV timeOfV pulseOfV groupOfV groupsV shutV firstOfV agreesV agreeSetV missedV bestAV bestBV bestAgreesV bestMissedV 0 0 r3 hc4) (zkX4_120 ⟨by decide, by decide⟩ C0.2.2.2.2.1) 4 rfl rfl rfl rfl hl.1 (Nat.le_of_ble_eq_true rfl) dX4_folds_16 ⟨Nat.zero_le _, Nat.zero_le _⟩ (fun H locs hP hS => ?_)
    have hP : va_P D vwCl ((wM h cI cZ lagV deadV mannerV settingV leastOfV mostOfV keptV planeOfV momentOfV stripOfV lateV isOverV r3.1 r3.2.1 r3.2.2.1 r3.2.2.2.1 r3.2.2.2.2.1 r3.2.2.2.2.2.1 r3.2.2.2.2.2.2.1 r3.2.2.2.2.2.2.2.1 r3.2.2.2.2.2.2.2.2 agreesV agreeSetV missedV bestAV bestBV bestAgreesV bestMissedV)) H := hP
    refine z_iconst C0 dX4_folds_19 ?_
    refine z_istore_n C0 [(2, .int (zI 0)), (0, .ref (h 0)), (1, .int (zI p1))] dX4_folds_20 rfl hl (by decide) rfl (fun ls hl => ?_)
    refine z_iconst C0 dX4_folds_21 ?_
    refine z_istore_n C0 [(3, .int (zI 0)), (2, .int (zI 0)), (0, .ref (h 0)), (1, .int (zI p1))] dX4_folds_22 rfl hl (by decide) rfl (fun ls hl => ?_)
    have L47 : ∀ (zn : Nat) (i7 : Int) (i8 : Int) (out : Int), fX4_folds_L23 zn (zk_M lagV deadV mannerV settingV leastOfV mostOfV keptV planeOfV momentOfV stripOfV lateV isOverV isLiveV endOfV knownV timeOfV pulseOfV groupOfV groupsV shutV firstOfV agreesV agreeSetV missedV bestAV bestBV bestAgreesV bestMissedV) p1 r3.1 r3.2.1 r3.2.2.1 r3.2.2.2.1 r3.2.2.2.2.1 r3.2.2.2.2.2.1 r3.2.2.2.2.2.2.1 r3.2.2.2.2.2.2.2.1 r3.2.2.2.2.2.2.2.2 i7 i8 = some out → (∀ (H : Heap) (locs : List Loc), va_P D vwCl ((wM h cI cZ lagV deadV mannerV settingV leastOfV mostOfV keptV planeOfV momentOfV stripOfV lateV isOverV r3.1 r3.2.1 r3.2.2.1 r3.2.2.2.1 r3.2.2.2.2.1 r3.2.2.2.2.2.1 r3.2.2.2.2.2.2.1 r3.2.2.2.2.2.2.2.1 r3.2.2.2.2.2.2.2.2 agreesV agreeSetV missedV bestAV bestBV bestAgreesV bestMissedV)) H → va_S A s.heap H locs → ∀ ls : Array Slot, lv_has ls 4 [(2, .int (zI out))] → W p l e rmX4_folds s m args below meth c H locs 0 0 Q (F0 m 57 ls [])) → ∀ (H : Heap) (locs : List Loc), va_P D vwCl ((wM h cI cZ lagV deadV mannerV settingV leastOfV mostOfV keptV planeOfV momentOfV stripOfV lateV isOverV r3.1 r3.2.1 r3.2.2.1 r3.2.2.2.1 r3.2.2.2.2.1 r3.2.2.2.2.2.1 r3.2.2.2.2.2.2.1 r3.2.2.2.2.2.2.2.1 r3.2.2.2.2.2.2.2.2 agreesV agreeSetV missedV bestAV bestBV bestAgreesV bestMissedV)) H → va_S A s.heap H locs → ∀ ls : Array Slot, lv_has ls 4 [(0, .ref (h 0)), (1, .int (zI p1)), (2, .int (zI i7)), (3, .int (zI i8))] → W p l e rmX4_folds s m args below meth c H locs 0 0 Q (F0 m 23 ls []) := by
      intro zn
      induction zn with
      | zero =>
        intro i7 i8 out hf
        rw [fX4_folds_L23_z] at hf
        cases hf
      | succ zn ih =>
        intro i7 i8 out hf K H locs hP hS ls hl
        rw [fX4_folds_L23_s] at hf
        refine z_iload_n C0 dX4_folds_23 rfl (lv_at hl 3 rfl) ?_
        refine z_aload_n C0 dX4_folds_24 rfl (lv_at hl 0 rfl) ?_
        refine zgX4_117 C0 hP 0 rfl (.int (zI r3.2.2.2.2.2.2.2.1)) rfl dX4_folds_25 ?_
        refine z_icmpge C0 57 dX4_folds_28 (by decide) (fun c46 => ?_) (fun c46 => ?_)
        · have hf := zif_pos hf c46
          cases hf
          exact K _ _ hP hS ls (lv_sub hl [2] rfl)
        · have hf := zif_neg hf c46
          refine z_iload_n C0 dX4_folds_31 rfl (lv_at hl 2 rfl) ?_
          refine z_aload_n C0 dX4_folds_32 rfl (lv_at hl 0 rfl) ?_
          refine z_iload_n C0 dX4_folds_33 rfl (lv_at hl 3 rfl) ?_
          obtain ⟨r37, hc38, hf⟩ := zbind hf
          refine z_callFi (rest := [.int (zI i7)]) C0 hP (zD hD rfl) hS (zmX4_setOf l D cI cZ h _ lagV deadV mannerV settingV leastOfV mostOfV keptV planeOfV momentOfV stripOfV lateV isOverV r3.1 r3.2.1 r3.2.2.1 r3.2.2.2.1 r3.2.2.2.2.1 r3.2.2.2.2.2.1 r3.2.2.2.2.2.2.1 r3.2.2.2.2.2.2.2.1 r3.2.2.2.2.2.2.2.2 agreesV agreeSetV missedV bestAV bestBV bestAgreesV bestMissedV i8 r37 hc38) (zkX4_126 ⟨by decide, by decide⟩ C0.2.2.2.2.1) 4 rfl rfl rfl rfl hl.1 (Nat.le_of_ble_eq_true rfl) dX4_folds_34 ⟨Nat.zero_le _, Nat.zero_le _⟩ (fun H locs hP hS => ?_)
          have hP : va_P D vwCl ((wM h cI cZ lagV deadV mannerV settingV leastOfV mostOfV keptV planeOfV momentOfV stripOfV lateV isOverV r3.1 r3.2.1 r3.2.2.1 r3.2.2.2.1 r3.2.2.2.2.1 r3.2.2.2.2.2.1 r3.2.2.2.2.2.2.1 r3.2.2.2.2.2.2.2.1 r3.2.2.2.2.2.2.2.2 agreesV agreeSetV missedV bestAV bestBV bestAgreesV bestMissedV)) H := hP
          obtain ⟨r39, hc40, hf⟩ := zbind hf
          refine z_callSi (rest := [.int (zI i7)]) C0 hP (zD hD rfl) hS [] rfl (zmX4_size l D cI cZ _ r37 r39 hc40) (zkX4_132 ⟨by decide, by decide⟩ C0.2.2.2.2.1) rfl rfl rfl hl.1 (Nat.le_of_ble_eq_true rfl) dX4_folds_37 ⟨Nat.zero_le _, Nat.zero_le _⟩ rfl (Nat.le_of_ble_eq_true rfl) (fun H locs hP hS => ?_)
          have hP : va_P D vwCl ((wM h cI cZ lagV deadV mannerV settingV leastOfV mostOfV keptV planeOfV momentOfV stripOfV lateV isOverV r3.1 r3.2.1 r3.2.2.1 r3.2.2.2.1 r3.2.2.2.2.1 r3.2.2.2.2.2.1 r3.2.2.2.2.2.2.1 r3.2.2.2.2.2.2.2.1 r3.2.2.2.2.2.2.2.2 agreesV agreeSetV missedV bestAV bestBV bestAgreesV bestMissedV)) H := hP
          refine z_iload_n C0 dX4_folds_40 rfl (lv_at hl 1 rfl) ?_
          obtain ⟨r41, hE45, hf⟩ := zbind hf
          have J42 : ∀ (H : Heap) (locs : List Loc), va_P D vwCl ((wM h cI cZ lagV deadV mannerV settingV leastOfV mostOfV keptV planeOfV momentOfV stripOfV lateV isOverV r3.1 r3.2.1 r3.2.2.1 r3.2.2.2.1 r3.2.2.2.2.1 r3.2.2.2.2.2.1 r3.2.2.2.2.2.2.1 r3.2.2.2.2.2.2.2.1 r3.2.2.2.2.2.2.2.2 agreesV agreeSetV missedV bestAV bestBV bestAgreesV bestMissedV)) H → va_S A s.heap H locs → ∀ ls : Array Slot, lv_has ls 4 [(0, .ref (h 0)), (1, .int (zI p1)), (3, .int (zI i8))] → W p l e rmX4_folds s m args below meth c H locs 0 0 Q (F0 m 49 ls [.int (zI r41), .int (zI i7)]) := by
            intro H locs hP hS ls hl
            refine z_iadd C0 dX4_folds_49 ?_
            obtain ⟨v43, hv43, hf⟩ := zl_some hf
            refine z_name hv43 ?_
            refine z_istore_n C0 [(2, .int (zI v43)), (0, .ref (h 0)), (1, .int (zI p1)), (3, .int (zI i8))] dX4_folds_50 rfl hl (by decide) rfl (fun ls hl => ?_)
            refine z_iinc C0 [(3, .int (zI (i8 + 1))), (2, .int (zI v43)), (0, .ref (h 0)), (1, .int (zI p1))] dX4_folds_51 hl 3 rfl (by decide) rfl (fun ls hl => ?_)
            refine z_goto C0 23 dX4_folds_54 (by decide) ?_
            exact ih v43 (i8 + 1) out hf K _ _ hP hS ls (lv_sub hl [2, 3, 1, 0] rfl)
          have hf := hE45
          refine z_icmpne C0 48 dX4_folds_41 (by decide) (fun c44 => ?_) (fun c44 => ?_)
          · have hf := zif_neg hf c44
            refine z_iconst C0 dX4_folds_48 ?_
            cases hf
            exact J42 _ _ hP hS ls (lv_sub hl [0, 1, 3] rfl)
          · have hf := zif_pos hf c44
            refine z_iconst C0 dX4_folds_44 ?_
            refine z_goto C0 49 dX4_folds_45 (by decide) ?_
            cases hf
            exact J42 _ _ hP hS ls (lv_sub hl [0, 1, 3] rfl)
    obtain ⟨r48, hE49, hf⟩ := zbind hf
    refine L47 _ 0 0 r48 hE49 ?_ _ _ hP hS ls (lv_sub hl [2, 3, 1, 0] rfl)
    intro H locs hP hS ls hl
    refine z_iload_n C0 dX4_folds_57 rfl (lv_at hl 0 rfl) ?_
    cases hf
    exact hret hP hS dX4_folds_58
  · have hf := zif_pos hf c50
    refine z_bipush C0 dX4_folds_10 (by decide +kernel) ?_
    cases hf
    exact hret hP hS dX4_folds_12
