set_option maxHeartbeats 4000000 in
set_option maxRecDepth 100000 in
theorem zmX4_manyLive (l : Launch) (D : va_G) (cI cZ : ClassId) (h : Nat → Nat) (sz : Nat) (lagV : (Nat → Int)) (deadV : (Nat → Int)) (mannerV : (Nat → Int)) (settingV : (Nat → Int)) (leastOfV : (Nat → Int)) (mostOfV : (Nat → Int)) (keptV : Int) (planeOfV : (Nat → Int)) (momentOfV : (Nat → Int)) (stripOfV : (Nat → Int)) (lateV : Int) (isOverV : Int) (isLiveV : (Nat → Int)) (endOfV : (Nat → Int)) (knownV : Int) (timeOfV : (Nat → Int)) (pulseOfV : (Nat → Int)) (groupOfV : (Nat → Int)) (groupsV : Int) (shutV : Int) (firstOfV : (Nat → Int)) (agreesV : Int) (agreeSetV : Int) (missedV : Int) (bestAV : Int) (bestBV : Int) (bestAgreesV : Int) (bestMissedV : Int) (p1 : Int) (p2 : Int) (o : Int × (Nat → Int) × (Nat → Int)) (hf : fX4_manyLive (zk_M lagV deadV mannerV settingV leastOfV mostOfV keptV planeOfV momentOfV stripOfV lateV isOverV isLiveV endOfV knownV timeOfV pulseOfV groupOfV groupsV shutV firstOfV agreesV agreeSetV missedV bestAV bestBV bestAgreesV bestMissedV) p1 p2 = some o) : Met l yX4_manyLive (zW yX4_manyLive cX4_manyLive 6 (some .int)) rmX4_manyLive (va_Pc [.ref (h 0), .int (zI p1), .int (zI p2)] (zPre D cI cZ ((wM h cI cZ lagV deadV mannerV settingV leastOfV mostOfV keptV planeOfV momentOfV stripOfV lateV isOverV isLiveV endOfV knownV timeOfV pulseOfV groupOfV groupsV shutV firstOfV agreesV agreeSetV missedV bestAV bestBV bestAgreesV bestMissedV)) sz)) (va_Qi (fun r' (_ : Unit) => r' = zI o.1) (fun _ t => va_P D vwCl ((wM h cI cZ lagV deadV mannerV settingV leastOfV mostOfV keptV planeOfV momentOfV stripOfV lateV isOverV o.2.1 o.2.2 knownV timeOfV pulseOfV groupOfV groupsV shutV firstOfV agreesV agreeSetV missedV bestAV bestBV bestAgreesV bestMissedV)) t.heap) (va_A ((wM h cI cZ lagV deadV mannerV settingV leastOfV mostOfV keptV planeOfV momentOfV stripOfV lateV isOverV isLiveV endOfV knownV timeOfV pulseOfV groupOfV groupsV shutV firstOfV agreesV agreeSetV missedV bestAV bestBV bestAgreesV bestMissedV)) sz)) 0 0 (va_A ((wM h cI cZ lagV deadV mannerV settingV leastOfV mostOfV keptV planeOfV momentOfV stripOfV lateV isOverV isLiveV endOfV knownV timeOfV pulseOfV groupOfV groupsV shutV firstOfV agreesV agreeSetV missedV bestAV bestBV bestAgreesV bestMissedV)) sz) := by
  unfold fX4_manyLive at hf
  refine z_enter_i (own := RX4) (by decide +kernel) rfl (Nat.le_of_ble_eq_true rfl) ?_
  intro p e s m args below meth c A Q C0 hP hD hS hret ls hl
  have hl : lv_has ls 6 [(0, .ref (h 0)), (1, .int (zI p1)), (2, .int (zI p2))] := hl
  refine z_aload_n C0 dX4_manyLive_0 rfl (lv_at hl 0 rfl) ?_
  obtain ⟨r1, hc2, hf⟩ := zbind hf
  refine z_callFv (rest := []) C0 hP (zD hD rfl) hS (zmX4_findLive l D cI cZ h _ lagV deadV mannerV settingV leastOfV mostOfV keptV planeOfV momentOfV stripOfV lateV isOverV isLiveV endOfV knownV timeOfV pulseOfV groupOfV groupsV shutV firstOfV agreesV agreeSetV missedV bestAV bestBV bestAgreesV bestMissedV r1 hc2) (zkX4_90 ⟨by decide, by decide⟩ C0.2.2.2.2.1) 4 rfl rfl rfl rfl hl.1 (Nat.le_of_ble_eq_true rfl) dX4_manyLive_1 ⟨Nat.zero_le _, Nat.zero_le _⟩ (fun H locs hP hS => ?_)
  have hP : va_P D vwCl ((wM h cI cZ lagV deadV mannerV settingV leastOfV mostOfV keptV planeOfV momentOfV stripOfV lateV isOverV r1.1 r1.2 knownV timeOfV pulseOfV groupOfV groupsV shutV firstOfV agreesV agreeSetV missedV bestAV bestBV bestAgreesV bestMissedV)) H := hP
  refine z_iconst C0 dX4_manyLive_4 ?_
  refine z_istore_n C0 [(3, .int (zI 0)), (0, .ref (h 0)), (1, .int (zI p1)), (2, .int (zI p2))] dX4_manyLive_5 rfl hl (by decide) rfl (fun ls hl => ?_)
  refine z_aload_n C0 dX4_manyLive_6 rfl (lv_at hl 1 rfl) ?_
  obtain ⟨r3, hc4, hf⟩ := zbind hf
  refine z_callFi (rest := []) C0 hP (zD hD rfl) hS (zmX4_settled l D cI cZ h _ lagV deadV mannerV settingV leastOfV mostOfV keptV planeOfV momentOfV stripOfV lateV isOverV r1.1 r1.2 knownV timeOfV pulseOfV groupOfV groupsV shutV firstOfV agreesV agreeSetV missedV bestAV bestBV bestAgreesV bestMissedV r3 hc4) (zkX4_87 ⟨by decide, by decide⟩ C0.2.2.2.2.1) 4 rfl rfl rfl rfl hl.1 (Nat.le_of_ble_eq_true rfl) dX4_manyLive_7 ⟨Nat.zero_le _, Nat.zero_le _⟩ (fun H locs hP hS => ?_)
  have hP : va_P D vwCl ((wM h cI cZ lagV deadV mannerV settingV leastOfV mostOfV keptV planeOfV momentOfV stripOfV lateV isOverV r1.1 r1.2 knownV timeOfV pulseOfV groupOfV groupsV shutV firstOfV agreesV agreeSetV missedV bestAV bestBV bestAgreesV bestMissedV)) H := hP
  refine z_istore C0 [(4, .int (zI r3)), (3, .int (zI 0)), (0, .ref (h 0)), (1, .int (zI p1)), (2, .int (zI p2))] dX4_manyLive_10 hl (by decide) rfl (fun ls hl => ?_)
  refine z_iconst C0 dX4_manyLive_12 ?_
  refine z_istore C0 [(5, .int (zI 0)), (4, .int (zI r3)), (3, .int (zI 0)), (0, .ref (h 0)), (1, .int (zI p1)), (2, .int (zI p2))] dX4_manyLive_13 hl (by decide) rfl (fun ls hl => ?_)
  have L51 : ∀ (zn : Nat) (i8 : Int) (i10 : Int) (out : Int), fX4_manyLive_L15 zn (zk_M lagV deadV mannerV settingV leastOfV mostOfV keptV planeOfV momentOfV stripOfV lateV isOverV isLiveV endOfV knownV timeOfV pulseOfV groupOfV groupsV shutV firstOfV agreesV agreeSetV missedV bestAV bestBV bestAgreesV bestMissedV) p1 p2 r3 r1.1 r1.2 i8 i10 = some out → (∀ (H : Heap) (locs : List Loc), va_P D vwCl ((wM h cI cZ lagV deadV mannerV settingV leastOfV mostOfV keptV planeOfV momentOfV stripOfV lateV isOverV r1.1 r1.2 knownV timeOfV pulseOfV groupOfV groupsV shutV firstOfV agreesV agreeSetV missedV bestAV bestBV bestAgreesV bestMissedV)) H → va_S A s.heap H locs → ∀ ls : Array Slot, lv_has ls 6 [(3, .int (zI out))] → W p l e rmX4_manyLive s m args below meth c H locs 0 0 Q (F0 m 64 ls [])) → ∀ (H : Heap) (locs : List Loc), va_P D vwCl ((wM h cI cZ lagV deadV mannerV settingV leastOfV mostOfV keptV planeOfV momentOfV stripOfV lateV isOverV r1.1 r1.2 knownV timeOfV pulseOfV groupOfV groupsV shutV firstOfV agreesV agreeSetV missedV bestAV bestBV bestAgreesV bestMissedV)) H → va_S A s.heap H locs → ∀ ls : Array Slot, lv_has ls 6 [(0, .ref (h 0)), (1, .int (zI p1)), (2, .int (zI p2)), (3, .int (zI i8)), (4, .int (zI r3)), (5, .int (zI i10))] → W p l e rmX4_manyLive s m args below meth c H locs 0 0 Q (F0 m 15 ls []) := by
    intro zn
    induction zn with
    | zero =>
      intro i8 i10 out hf
      rw [fX4_manyLive_L15_z] at hf
      cases hf
    | succ zn ih =>
      intro i8 i10 out hf K H locs hP hS ls hl
      rw [fX4_manyLive_L15_s] at hf
      refine z_iload C0 dX4_manyLive_15 (lv_at hl 5 rfl) ?_
      refine z_iload C0 dX4_manyLive_17 (lv_at hl 4 rfl) ?_
      refine z_icmpge C0 64 dX4_manyLive_19 (by decide) (fun c50 => ?_) (fun c50 => ?_)
      · have hf := zif_pos hf c50
        cases hf
        exact K _ _ hP hS ls (lv_sub hl [3] rfl)
      · have hf := zif_neg hf c50
        refine z_iload_n C0 dX4_manyLive_22 rfl (lv_at hl 3 rfl) ?_
        refine z_iload_n C0 dX4_manyLive_23 rfl (lv_at hl 1 rfl) ?_
        refine z_bipush C0 dX4_manyLive_24 (by decide +kernel) ?_
        obtain ⟨r39, hE49, hf⟩ := zbind hf
        have J40 : ∀ (H : Heap) (locs : List Loc), va_P D vwCl ((wM h cI cZ lagV deadV mannerV settingV leastOfV mostOfV keptV planeOfV momentOfV stripOfV lateV isOverV r1.1 r1.2 knownV timeOfV pulseOfV groupOfV groupsV shutV firstOfV agreesV agreeSetV missedV bestAV bestBV bestAgreesV bestMissedV)) H → va_S A s.heap H locs → ∀ ls : Array Slot, lv_has ls 6 [(0, .ref (h 0)), (1, .int (zI p1)), (2, .int (zI p2)), (4, .int (zI r3)), (5, .int (zI i10))] → W p l e rmX4_manyLive s m args below meth c H locs 0 0 Q (F0 m 56 ls [.int (zI r39), .int (zI i8)]) := by
          intro H locs hP hS ls hl
          refine z_iadd C0 dX4_manyLive_56 ?_
          obtain ⟨v41, hv41, hf⟩ := zl_some hf
          refine z_name hv41 ?_
          refine z_istore_n C0 [(3, .int (zI v41)), (0, .ref (h 0)), (1, .int (zI p1)), (2, .int (zI p2)), (4, .int (zI r3)), (5, .int (zI i10))] dX4_manyLive_57 rfl hl (by decide) rfl (fun ls hl => ?_)
          refine z_iinc C0 [(5, .int (zI (i10 + 1))), (3, .int (zI v41)), (0, .ref (h 0)), (1, .int (zI p1)), (2, .int (zI p2)), (4, .int (zI r3))] dX4_manyLive_58 hl 5 rfl (by decide) rfl (fun ls hl => ?_)
          refine z_goto C0 15 dX4_manyLive_61 (by decide) ?_
          exact ih v41 (i10 + 1) out hf K _ _ hP hS ls (lv_sub hl [2, 3, 4, 1, 5, 0] rfl)
        have hf := hE49
        refine z_icmpeq C0 40 dX4_manyLive_26 (by decide) (fun c48 => ?_) (fun c48 => ?_)
        · have hf := zif_pos hf c48
          refine z_aload_n C0 dX4_manyLive_40 rfl (lv_at hl 0 rfl) ?_
          refine zgX4_37 C0 hP 0 rfl (.ref (h 10)) rfl dX4_manyLive_41 ?_
          refine z_iload C0 dX4_manyLive_44 (lv_at hl 5 rfl) ?_
          obtain ⟨g42, hf⟩ := zg_some hf
          refine z_zald C0 hP 10 rfl (Nat.le_of_ble_eq_true rfl) g42 dX4_manyLive_46 ?_
          refine z_iload_n C0 dX4_manyLive_47 rfl (lv_at hl 2 rfl) ?_
          refine z_icmpne C0 55 dX4_manyLive_48 (by decide) (fun c43 => ?_) (fun c43 => ?_)
          · have hf := zif_neg hf c43
            refine z_iconst C0 dX4_manyLive_55 ?_
            cases hf
            exact J40 _ _ hP hS ls (lv_sub hl [0, 1, 2, 4, 5] rfl)
          · have hf := zif_pos hf c43
            refine z_iconst C0 dX4_manyLive_51 ?_
            refine z_goto C0 56 dX4_manyLive_52 (by decide) ?_
            cases hf
            exact J40 _ _ hP hS ls (lv_sub hl [0, 1, 2, 4, 5] rfl)
        · have hf := zif_neg hf c48
          refine z_aload_n C0 dX4_manyLive_29 rfl (lv_at hl 0 rfl) ?_
          refine zgX4_28 C0 hP 0 rfl (.ref (h 7)) rfl dX4_manyLive_30 ?_
          refine z_iload C0 dX4_manyLive_33 (lv_at hl 5 rfl) ?_
          obtain ⟨g44, hf⟩ := zg_some hf
          refine z_iald C0 hP 7 rfl (Nat.le_of_ble_eq_true rfl) g44 dX4_manyLive_35 ?_
          refine z_iload_n C0 dX4_manyLive_36 rfl (lv_at hl 1 rfl) ?_
          refine z_icmpne C0 55 dX4_manyLive_37 (by decide) (fun c47 => ?_) (fun c47 => ?_)
          · have hf := zif_neg hf c47
            refine z_iconst C0 dX4_manyLive_55 ?_
            cases hf
            exact J40 _ _ hP hS ls (lv_sub hl [0, 1, 2, 4, 5] rfl)
          · have hf := zif_pos hf c47
            refine z_aload_n C0 dX4_manyLive_40 rfl (lv_at hl 0 rfl) ?_
            refine zgX4_37 C0 hP 0 rfl (.ref (h 10)) rfl dX4_manyLive_41 ?_
            refine z_iload C0 dX4_manyLive_44 (lv_at hl 5 rfl) ?_
            obtain ⟨g45, hf⟩ := zg_some hf
            refine z_zald C0 hP 10 rfl (Nat.le_of_ble_eq_true rfl) g45 dX4_manyLive_46 ?_
            refine z_iload_n C0 dX4_manyLive_47 rfl (lv_at hl 2 rfl) ?_
            refine z_icmpne C0 55 dX4_manyLive_48 (by decide) (fun c46 => ?_) (fun c46 => ?_)
            · have hf := zif_neg hf c46
              refine z_iconst C0 dX4_manyLive_55 ?_
              cases hf
              exact J40 _ _ hP hS ls (lv_sub hl [0, 1, 2, 4, 5] rfl)
            · have hf := zif_pos hf c46
              refine z_iconst C0 dX4_manyLive_51 ?_
              refine z_goto C0 56 dX4_manyLive_52 (by decide) ?_
              cases hf
              exact J40 _ _ hP hS ls (lv_sub hl [0, 1, 2, 4, 5] rfl)
  obtain ⟨r52, hE53, hf⟩ := zbind hf
  refine L51 _ 0 0 r52 hE53 ?_ _ _ hP hS ls (lv_sub hl [3, 4, 5, 2, 1, 0] rfl)
  intro H locs hP hS ls hl
  refine z_iload_n C0 dX4_manyLive_64 rfl (lv_at hl 0 rfl) ?_
  cases hf
  exact hret hP hS dX4_manyLive_65
