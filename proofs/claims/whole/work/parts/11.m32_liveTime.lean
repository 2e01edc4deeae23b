set_option maxHeartbeats 4000000 in
set_option maxRecDepth 100000 in
theorem zmX4_liveTime (l : Launch) (D : va_G) (cI cZ : ClassId) (h : Nat → Nat) (sz : Nat) (lagV : (Nat → Int)) (deadV : (Nat → Int)) (mannerV : (Nat → Int)) (settingV : (Nat → Int)) (leastOfV : (Nat → Int)) (mostOfV : (Nat → Int)) (keptV : Int) (planeOfV : (Nat → Int)) (momentOfV : (Nat → Int)) (stripOfV : (Nat → Int)) (lateV : Int) (isOverV : Int) (isLiveV : (Nat → Int)) (endOfV : (Nat → Int)) (knownV : Int) (timeOfV : (Nat → Int)) (pulseOfV : (Nat → Int)) (groupOfV : (Nat → Int)) (groupsV : Int) (shutV : Int) (firstOfV : (Nat → Int)) (agreesV : Int) (agreeSetV : Int) (missedV : Int) (bestAV : Int) (bestBV : Int) (bestAgreesV : Int) (bestMissedV : Int) (p1 : Int) (o : Int × (Nat → Int) × (Nat → Int)) (hf : fX4_liveTime (zk_M lagV deadV mannerV settingV leastOfV mostOfV keptV planeOfV momentOfV stripOfV lateV isOverV isLiveV endOfV knownV timeOfV pulseOfV groupOfV groupsV shutV firstOfV agreesV agreeSetV missedV bestAV bestBV bestAgreesV bestMissedV) p1 = some o) : Met l yX4_liveTime (zW yX4_liveTime cX4_liveTime 7 (some .int)) rmX4_liveTime (va_Pc [.ref (h 0), .int (zI p1)] (zPre D cI cZ ((wM h cI cZ lagV deadV mannerV settingV leastOfV mostOfV keptV planeOfV momentOfV stripOfV lateV isOverV isLiveV endOfV knownV timeOfV pulseOfV groupOfV groupsV shutV firstOfV agreesV agreeSetV missedV bestAV bestBV bestAgreesV bestMissedV)) sz)) (va_Qi (fun r' (_ : Unit) => r' = zI o.1) (fun _ t => va_P D vwCl ((wM h cI cZ lagV deadV mannerV settingV leastOfV mostOfV keptV planeOfV momentOfV stripOfV lateV isOverV o.2.1 o.2.2 knownV timeOfV pulseOfV groupOfV groupsV shutV firstOfV agreesV agreeSetV missedV bestAV bestBV bestAgreesV bestMissedV)) t.heap) (va_A ((wM h cI cZ lagV deadV mannerV settingV leastOfV mostOfV keptV planeOfV momentOfV stripOfV lateV isOverV isLiveV endOfV knownV timeOfV pulseOfV groupOfV groupsV shutV firstOfV agreesV agreeSetV missedV bestAV bestBV bestAgreesV bestMissedV)) sz)) 0 0 (va_A ((wM h cI cZ lagV deadV mannerV settingV leastOfV mostOfV keptV planeOfV momentOfV stripOfV lateV isOverV isLiveV endOfV knownV timeOfV pulseOfV groupOfV groupsV shutV firstOfV agreesV agreeSetV missedV bestAV bestBV bestAgreesV bestMissedV)) sz) := by
  unfold fX4_liveTime at hf
  refine z_enter_i (own := RX4) (by decide +kernel) rfl (Nat.le_of_ble_eq_true rfl) ?_
  intro p e s m args below meth c A Q C0 hP hD hS hret ls hl
  have hl : lv_has ls 7 [(0, .ref (h 0)), (1, .int (zI p1))] := hl
  refine z_aload_n C0 dX4_liveTime_0 rfl (lv_at hl 0 rfl) ?_
  obtain ⟨r1, hc2, hf⟩ := zbind hf
  refine z_callFv (rest := []) C0 hP (zD hD rfl) hS (zmX4_findLive l D cI cZ h _ lagV deadV mannerV settingV leastOfV mostOfV keptV planeOfV momentOfV stripOfV lateV isOverV isLiveV endOfV knownV timeOfV pulseOfV groupOfV groupsV shutV firstOfV agreesV agreeSetV missedV bestAV bestBV bestAgreesV bestMissedV r1 hc2) (zkX4_90 ⟨by decide, by decide⟩ C0.2.2.2.2.1) 4 rfl rfl rfl rfl hl.1 (Nat.le_of_ble_eq_true rfl) dX4_liveTime_1 ⟨Nat.zero_le _, Nat.zero_le _⟩ (fun H locs hP hS => ?_)
  have hP : va_P D vwCl ((wM h cI cZ lagV deadV mannerV settingV leastOfV mostOfV keptV planeOfV momentOfV stripOfV lateV isOverV r1.1 r1.2 knownV timeOfV pulseOfV groupOfV groupsV shutV firstOfV agreesV agreeSetV missedV bestAV bestBV bestAgreesV bestMissedV)) H := hP
  refine z_aload_n C0 dX4_liveTime_4 rfl (lv_at hl 0 rfl) ?_
  obtain ⟨r3, hc4, hf⟩ := zbind hf
  refine z_callFi (rest := []) C0 hP (zD hD rfl) hS (zmX4_span l D cI cZ h _ lagV deadV mannerV settingV leastOfV mostOfV keptV planeOfV momentOfV stripOfV lateV isOverV r1.1 r1.2 knownV timeOfV pulseOfV groupOfV groupsV shutV firstOfV agreesV agreeSetV missedV bestAV bestBV bestAgreesV bestMissedV r3 hc4) (zkX4_142 ⟨by decide, by decide⟩ C0.2.2.2.2.1) 4 rfl rfl rfl rfl hl.1 (Nat.le_of_ble_eq_true rfl) dX4_liveTime_5 ⟨Nat.zero_le _, Nat.zero_le _⟩ (fun H locs hP hS => ?_)
  have hP : va_P D vwCl ((wM h cI cZ lagV deadV mannerV settingV leastOfV mostOfV keptV planeOfV momentOfV stripOfV lateV isOverV r1.1 r1.2 knownV timeOfV pulseOfV groupOfV groupsV shutV firstOfV agreesV agreeSetV missedV bestAV bestBV bestAgreesV bestMissedV)) H := hP
  refine z_istore_n C0 [(2, .int (zI r3)), (0, .ref (h 0)), (1, .int (zI p1))] dX4_liveTime_8 rfl hl (by decide) rfl (fun ls hl => ?_)
  refine z_iconst C0 dX4_liveTime_9 ?_
  refine z_istore_n C0 [(3, .int (zI 0)), (2, .int (zI r3)), (0, .ref (h 0)), (1, .int (zI p1))] dX4_liveTime_10 rfl hl (by decide) rfl (fun ls hl => ?_)
  refine z_iconst C0 dX4_liveTime_11 ?_
  refine z_istore C0 [(4, .int (zI 0)), (3, .int (zI 0)), (2, .int (zI r3)), (0, .ref (h 0)), (1, .int (zI p1))] dX4_liveTime_12 hl (by decide) rfl (fun ls hl => ?_)
  have L100 : ∀ (zn : Nat) (i7 : Int) (i8 : Int) (i9 : Int) (out : Int), fX4_liveTime_L14 zn (zk_M lagV deadV mannerV settingV leastOfV mostOfV keptV planeOfV momentOfV stripOfV lateV isOverV isLiveV endOfV knownV timeOfV pulseOfV groupOfV groupsV shutV firstOfV agreesV agreeSetV missedV bestAV bestBV bestAgreesV bestMissedV) p1 r1.1 r1.2 i7 i8 i9 = some out → (∀ (H : Heap) (locs : List Loc), va_P D vwCl ((wM h cI cZ lagV deadV mannerV settingV leastOfV mostOfV keptV planeOfV momentOfV stripOfV lateV isOverV r1.1 r1.2 knownV timeOfV pulseOfV groupOfV groupsV shutV firstOfV agreesV agreeSetV missedV bestAV bestBV bestAgreesV bestMissedV)) H → va_S A s.heap H locs → ∀ ls : Array Slot, lv_has ls 7 [(2, .int (zI out))] → W p l e rmX4_liveTime s m args below meth c H locs 0 0 Q (F0 m 152 ls [])) → ∀ (H : Heap) (locs : List Loc), va_P D vwCl ((wM h cI cZ lagV deadV mannerV settingV leastOfV mostOfV keptV planeOfV momentOfV stripOfV lateV isOverV r1.1 r1.2 knownV timeOfV pulseOfV groupOfV groupsV shutV firstOfV agreesV agreeSetV missedV bestAV bestBV bestAgreesV bestMissedV)) H → va_S A s.heap H locs → ∀ ls : Array Slot, lv_has ls 7 [(0, .ref (h 0)), (1, .int (zI p1)), (2, .int (zI i7)), (3, .int (zI i8)), (4, .int (zI i9))] → W p l e rmX4_liveTime s m args below meth c H locs 0 0 Q (F0 m 14 ls []) := by
    intro zn
    induction zn with
    | zero =>
      intro i7 i8 i9 out hf
      rw [fX4_liveTime_L14_z] at hf
      cases hf
    | succ zn ih =>
      intro i7 i8 i9 out hf K H locs hP hS ls hl
      rw [fX4_liveTime_L14_s] at hf
      refine z_iload C0 dX4_liveTime_14 (lv_at hl 4 rfl) ?_
      refine z_aload_n C0 dX4_liveTime_16 rfl (lv_at hl 0 rfl) ?_
      refine zgX4_60 C0 hP 0 rfl (.int (zI keptV)) rfl dX4_liveTime_17 ?_
      refine z_icmpge C0 152 dX4_liveTime_20 (by decide) (fun c99 => ?_) (fun c99 => ?_)
      · have hf := zif_pos hf c99
        cases hf
        exact K _ _ hP hS ls (lv_sub hl [2] rfl)
      · have hf := zif_neg hf c99
        refine z_aload_n C0 dX4_liveTime_23 rfl (lv_at hl 0 rfl) ?_
        refine zgX4_28 C0 hP 0 rfl (.ref (h 7)) rfl dX4_liveTime_24 ?_
        refine z_iload C0 dX4_liveTime_27 (lv_at hl 4 rfl) ?_
        obtain ⟨g38, hf⟩ := zg_some hf
        refine z_iald C0 hP 7 rfl (Nat.le_of_ble_eq_true rfl) g38 dX4_liveTime_29 ?_
        refine z_iload_n C0 dX4_liveTime_30 rfl (lv_at hl 1 rfl) ?_
        obtain ⟨r39, hE98, hf⟩ := zbind hf
        have J40 : ∀ (H : Heap) (locs : List Loc), va_P D vwCl ((wM h cI cZ lagV deadV mannerV settingV leastOfV mostOfV keptV planeOfV momentOfV stripOfV lateV isOverV r1.1 r1.2 knownV timeOfV pulseOfV groupOfV groupsV shutV firstOfV agreesV agreeSetV missedV bestAV bestBV bestAgreesV bestMissedV)) H → va_S A s.heap H locs → ∀ ls : Array Slot, lv_has ls 7 [(0, .ref (h 0)), (1, .int (zI p1)), (2, .int (zI r39.1)), (3, .int (zI r39.2)), (4, .int (zI i9))] → W p l e rmX4_liveTime s m args below meth c H locs 0 0 Q (F0 m 146 ls []) := by
          intro H locs hP hS ls hl
          refine z_iinc C0 [(4, .int (zI (i9 + 1))), (0, .ref (h 0)), (1, .int (zI p1)), (2, .int (zI r39.1)), (3, .int (zI r39.2))] dX4_liveTime_146 hl 4 rfl (by decide) rfl (fun ls hl => ?_)
          refine z_goto C0 14 dX4_liveTime_149 (by decide) ?_
          exact ih r39.1 r39.2 (i9 + 1) out hf K _ _ hP hS ls (lv_sub hl [1, 2, 3, 4, 0] rfl)
        have hf := hE98
        refine z_icmpne C0 146 dX4_liveTime_31 (by decide) (fun c97 => ?_) (fun c97 => ?_)
        · have hf := zif_neg hf c97
          cases hf
          exact J40 _ _ hP hS ls (lv_sub hl [0, 1, 2, 3, 4] rfl)
        · have hf := zif_pos hf c97
          refine z_aload_n C0 dX4_liveTime_34 rfl (lv_at hl 0 rfl) ?_
          refine zgX4_16 C0 hP 0 rfl (.ref (h 3)) rfl dX4_liveTime_35 ?_
          refine z_iload_n C0 dX4_liveTime_38 rfl (lv_at hl 1 rfl) ?_
          obtain ⟨g41, hf⟩ := zg_some hf
          refine z_iald C0 hP 3 rfl (Nat.le_of_ble_eq_true rfl) g41 dX4_liveTime_39 ?_
          refine z_iconst C0 dX4_liveTime_40 ?_
          refine z_icmpeq C0 54 dX4_liveTime_41 (by decide) (fun c96 => ?_) (fun c96 => ?_)
          · have hf := zif_pos hf c96
            refine z_aload_n C0 dX4_liveTime_54 rfl (lv_at hl 0 rfl) ?_
            refine zgX4_31 C0 hP 0 rfl (.ref (h 8)) rfl dX4_liveTime_55 ?_
            refine z_iload C0 dX4_liveTime_58 (lv_at hl 4 rfl) ?_
            obtain ⟨g42, hf⟩ := zg_some hf
            refine z_iald C0 hP 8 rfl (Nat.le_of_ble_eq_true rfl) g42 dX4_liveTime_60 ?_
            refine z_iload_n C0 dX4_liveTime_61 rfl (lv_at hl 3 rfl) ?_
            obtain ⟨r43, hE67, hf⟩ := zbind hf
            have J44 : ∀ (H : Heap) (locs : List Loc), va_P D vwCl ((wM h cI cZ lagV deadV mannerV settingV leastOfV mostOfV keptV planeOfV momentOfV stripOfV lateV isOverV r1.1 r1.2 knownV timeOfV pulseOfV groupOfV groupsV shutV firstOfV agreesV agreeSetV missedV bestAV bestBV bestAgreesV bestMissedV)) H → va_S A s.heap H locs → ∀ ls : Array Slot, lv_has ls 7 [(0, .ref (h 0)), (1, .int (zI p1)), (2, .int (zI i7)), (3, .int (zI i8)), (4, .int (zI i9))] → W p l e rmX4_liveTime s m args below meth c H locs 0 0 Q (F0 m 76 ls [.int (zI r43)]) := by
              intro H locs hP hS ls hl
              refine z_istore C0 [(5, .int (zI r43)), (0, .ref (h 0)), (1, .int (zI p1)), (2, .int (zI i7)), (3, .int (zI i8)), (4, .int (zI i9))] dX4_liveTime_76 hl (by decide) rfl (fun ls hl => ?_)
              refine z_aload_n C0 dX4_liveTime_78 rfl (lv_at hl 1 rfl) ?_
              refine zgX4_31 C0 hP 0 rfl (.ref (h 8)) rfl dX4_liveTime_79 ?_
              refine z_iload C0 dX4_liveTime_82 (lv_at hl 5 rfl) ?_
              obtain ⟨g45, hf⟩ := zg_some hf
              refine z_iald C0 hP 8 rfl (Nat.le_of_ble_eq_true rfl) g45 dX4_liveTime_84 ?_
              refine z_aload_n C0 dX4_liveTime_85 rfl (lv_at hl 1 rfl) ?_
              refine zgX4_13 C0 hP 0 rfl (.ref (h 2)) rfl dX4_liveTime_86 ?_
              refine z_iload_n C0 dX4_liveTime_89 rfl (lv_at hl 2 rfl) ?_
              obtain ⟨g46, hf⟩ := zg_some hf
              refine z_iald C0 hP 2 rfl (Nat.le_of_ble_eq_true rfl) g46 dX4_liveTime_90 ?_
              refine z_iadd C0 dX4_liveTime_91 ?_
              obtain ⟨v47, hv47, hf⟩ := zl_some hf
              refine z_name hv47 ?_
              refine z_istore C0 [(6, .int (zI v47)), (5, .int (zI r43)), (0, .ref (h 0)), (1, .int (zI p1)), (2, .int (zI i7)), (3, .int (zI i8)), (4, .int (zI i9))] dX4_liveTime_92 hl (by decide) rfl (fun ls hl => ?_)
              refine z_iload C0 dX4_liveTime_94 (lv_at hl 0 rfl) ?_
              refine z_iload_n C0 dX4_liveTime_96 rfl (lv_at hl 5 rfl) ?_
              obtain ⟨r48, hE64, hf⟩ := zbind hf
              have J49 : ∀ (H : Heap) (locs : List Loc), va_P D vwCl ((wM h cI cZ lagV deadV mannerV settingV leastOfV mostOfV keptV planeOfV momentOfV stripOfV lateV isOverV r1.1 r1.2 knownV timeOfV pulseOfV groupOfV groupsV shutV firstOfV agreesV agreeSetV missedV bestAV bestBV bestAgreesV bestMissedV)) H → va_S A s.heap H locs → ∀ ls : Array Slot, lv_has ls 7 [(0, .ref (h 0)), (1, .int (zI p1)), (2, .int (zI i7)), (4, .int (zI i9)), (5, .int (zI r43)), (6, .int (zI v47))] → W p l e rmX4_liveTime s m args below meth c H locs 0 0 Q (F0 m 106 ls [.int (zI r48)]) := by
                intro H locs hP hS ls hl
                refine z_istore_n C0 [(3, .int (zI r48)), (0, .ref (h 0)), (1, .int (zI p1)), (2, .int (zI i7)), (4, .int (zI i9)), (5, .int (zI r43)), (6, .int (zI v47))] dX4_liveTime_106 rfl hl (by decide) rfl (fun ls hl => ?_)
                refine z_iload C0 dX4_liveTime_107 (lv_at hl 6 rfl) ?_
                refine z_aload_n C0 dX4_liveTime_109 rfl (lv_at hl 1 rfl) ?_
                obtain ⟨r50, hc51, hf⟩ := zbind hf
                refine z_callFi (rest := [.int (zI v47)]) C0 hP (zD hD rfl) hS (zmX4_span l D cI cZ h _ lagV deadV mannerV settingV leastOfV mostOfV keptV planeOfV momentOfV stripOfV lateV isOverV r1.1 r1.2 knownV timeOfV pulseOfV groupOfV groupsV shutV firstOfV agreesV agreeSetV missedV bestAV bestBV bestAgreesV bestMissedV r50 hc51) (zkX4_142 ⟨by decide, by decide⟩ C0.2.2.2.2.1) 4 rfl rfl rfl rfl hl.1 (Nat.le_of_ble_eq_true rfl) dX4_liveTime_110 ⟨Nat.zero_le _, Nat.zero_le _⟩ (fun H locs hP hS => ?_)
                have hP : va_P D vwCl ((wM h cI cZ lagV deadV mannerV settingV leastOfV mostOfV keptV planeOfV momentOfV stripOfV lateV isOverV r1.1 r1.2 knownV timeOfV pulseOfV groupOfV groupsV shutV firstOfV agreesV agreeSetV missedV bestAV bestBV bestAgreesV bestMissedV)) H := hP
                obtain ⟨r52, hE62, hf⟩ := zbind hf
                have J53 : ∀ (H : Heap) (locs : List Loc), va_P D vwCl ((wM h cI cZ lagV deadV mannerV settingV leastOfV mostOfV keptV planeOfV momentOfV stripOfV lateV isOverV r1.1 r1.2 knownV timeOfV pulseOfV groupOfV groupsV shutV firstOfV agreesV agreeSetV missedV bestAV bestBV bestAgreesV bestMissedV)) H → va_S A s.heap H locs → ∀ ls : Array Slot, lv_has ls 7 [(0, .ref (h 0)), (1, .int (zI p1)), (2, .int (zI i7)), (3, .int (zI r48)), (4, .int (zI i9)), (5, .int (zI r43))] → W p l e rmX4_liveTime s m args below meth c H locs 0 0 Q (F0 m 125 ls [.int (zI r52)]) := by
                  intro H locs hP hS ls hl
                  refine z_istore C0 [(6, .int (zI r52)), (0, .ref (h 0)), (1, .int (zI p1)), (2, .int (zI i7)), (3, .int (zI r48)), (4, .int (zI i9)), (5, .int (zI r43))] dX4_liveTime_125 hl (by decide) rfl (fun ls hl => ?_)
                  refine z_iload_n C0 dX4_liveTime_127 rfl (lv_at hl 3 rfl) ?_
                  refine z_iload C0 dX4_liveTime_128 (lv_at hl 0 rfl) ?_
                  refine z_iload C0 dX4_liveTime_130 (lv_at hl 6 rfl) ?_
                  obtain ⟨r54, hE58, hf⟩ := zbind hf
                  have J55 : ∀ (H : Heap) (locs : List Loc), va_P D vwCl ((wM h cI cZ lagV deadV mannerV settingV leastOfV mostOfV keptV planeOfV momentOfV stripOfV lateV isOverV r1.1 r1.2 knownV timeOfV pulseOfV groupOfV groupsV shutV firstOfV agreesV agreeSetV missedV bestAV bestBV bestAgreesV bestMissedV)) H → va_S A s.heap H locs → ∀ ls : Array Slot, lv_has ls 7 [(0, .ref (h 0)), (1, .int (zI p1)), (3, .int (zI r48)), (4, .int (zI i9))] → W p l e rmX4_liveTime s m args below meth c H locs 0 0 Q (F0 m 144 ls [.int (zI r54), .int (zI i7)]) := by
                    intro H locs hP hS ls hl
                    refine z_isub C0 dX4_liveTime_144 ?_
                    obtain ⟨v56, hv56, hf⟩ := zl_some hf
                    refine z_name hv56 ?_
                    refine z_istore_n C0 [(2, .int (zI v56)), (0, .ref (h 0)), (1, .int (zI p1)), (3, .int (zI r48)), (4, .int (zI i9))] dX4_liveTime_145 rfl hl (by decide) rfl (fun ls hl => ?_)
                    cases hf
                    exact J40 _ _ hP hS ls (lv_sub hl [1, 2, 0, 3, 4] rfl)
                  have hf := hE58
                  refine z_icmple C0 143 dX4_liveTime_132 (by decide) (fun c57 => ?_) (fun c57 => ?_)
                  · have hf := zif_pos hf c57
                    refine z_iconst C0 dX4_liveTime_143 ?_
                    cases hf
                    exact J55 _ _ hP hS ls (lv_sub hl [1, 2, 4, 5] rfl)
                  · have hf := zif_neg hf c57
                    refine z_iload C0 dX4_liveTime_135 (lv_at hl 0 rfl) ?_
                    refine z_iload C0 dX4_liveTime_137 (lv_at hl 6 rfl) ?_
                    refine z_isub C0 dX4_liveTime_139 ?_
                    refine z_goto C0 144 dX4_liveTime_140 (by decide) ?_
                    cases hf
                    exact J55 _ _ hP hS ls (lv_sub hl [1, 2, 4, 5] rfl)
                have hf := hE62
                refine z_icmple C0 123 dX4_liveTime_113 (by decide) (fun c61 => ?_) (fun c61 => ?_)
                · have hf := zif_pos hf c61
                  refine z_iload C0 dX4_liveTime_123 (lv_at hl 6 rfl) ?_
                  cases hf
                  exact J53 _ _ hP hS ls (lv_sub hl [1, 2, 3, 0, 4, 5] rfl)
                · have hf := zif_neg hf c61
                  refine z_aload_n C0 dX4_liveTime_116 rfl (lv_at hl 1 rfl) ?_
                  obtain ⟨r59, hc60, hf⟩ := zbind hf
                  refine z_callFi (rest := []) C0 hP (zD hD rfl) hS (zmX4_span l D cI cZ h _ lagV deadV mannerV settingV leastOfV mostOfV keptV planeOfV momentOfV stripOfV lateV isOverV r1.1 r1.2 knownV timeOfV pulseOfV groupOfV groupsV shutV firstOfV agreesV agreeSetV missedV bestAV bestBV bestAgreesV bestMissedV r59 hc60) (zkX4_142 ⟨by decide, by decide⟩ C0.2.2.2.2.1) 4 rfl rfl rfl rfl hl.1 (Nat.le_of_ble_eq_true rfl) dX4_liveTime_117 ⟨Nat.zero_le _, Nat.zero_le _⟩ (fun H locs hP hS => ?_)
                  have hP : va_P D vwCl ((wM h cI cZ lagV deadV mannerV settingV leastOfV mostOfV keptV planeOfV momentOfV stripOfV lateV isOverV r1.1 r1.2 knownV timeOfV pulseOfV groupOfV groupsV shutV firstOfV agreesV agreeSetV missedV bestAV bestBV bestAgreesV bestMissedV)) H := hP
                  refine z_goto C0 125 dX4_liveTime_120 (by decide) ?_
                  cases hf
                  exact J53 _ _ hP hS ls (lv_sub hl [1, 2, 3, 0, 4, 5] rfl)
              have hf := hE64
              refine z_icmple C0 105 dX4_liveTime_97 (by decide) (fun c63 => ?_) (fun c63 => ?_)
              · have hf := zif_pos hf c63
                refine z_iload_n C0 dX4_liveTime_105 rfl (lv_at hl 5 rfl) ?_
                cases hf
                exact J49 _ _ hP hS ls (lv_sub hl [2, 3, 4, 6, 1, 0] rfl)
              · have hf := zif_neg hf c63
                refine z_iload C0 dX4_liveTime_100 (lv_at hl 0 rfl) ?_
                refine z_goto C0 106 dX4_liveTime_102 (by decide) ?_
                cases hf
                exact J49 _ _ hP hS ls (lv_sub hl [2, 3, 4, 6, 1, 0] rfl)
            have hf := hE67
            refine z_icmple C0 75 dX4_liveTime_62 (by decide) (fun c66 => ?_) (fun c66 => ?_)
            · have hf := zif_pos hf c66
              refine z_iload_n C0 dX4_liveTime_75 rfl (lv_at hl 3 rfl) ?_
              cases hf
              exact J44 _ _ hP hS ls (lv_sub hl [0, 1, 2, 3, 4] rfl)
            · have hf := zif_neg hf c66
              refine z_aload_n C0 dX4_liveTime_65 rfl (lv_at hl 0 rfl) ?_
              refine zgX4_31 C0 hP 0 rfl (.ref (h 8)) rfl dX4_liveTime_66 ?_
              refine z_iload C0 dX4_liveTime_69 (lv_at hl 4 rfl) ?_
              obtain ⟨g65, hf⟩ := zg_some hf
              refine z_iald C0 hP 8 rfl (Nat.le_of_ble_eq_true rfl) g65 dX4_liveTime_71 ?_
              refine z_goto C0 76 dX4_liveTime_72 (by decide) ?_
              cases hf
              exact J44 _ _ hP hS ls (lv_sub hl [0, 1, 2, 3, 4] rfl)
          · have hf := zif_neg hf c96
            refine z_aload_n C0 dX4_liveTime_44 rfl (lv_at hl 0 rfl) ?_
            refine zgX4_37 C0 hP 0 rfl (.ref (h 10)) rfl dX4_liveTime_45 ?_
            refine z_iload C0 dX4_liveTime_48 (lv_at hl 4 rfl) ?_
            obtain ⟨g68, hf⟩ := zg_some hf
            refine z_zald C0 hP 10 rfl (Nat.le_of_ble_eq_true rfl) g68 dX4_liveTime_50 ?_
            refine z_ifeq C0 146 dX4_liveTime_51 (by decide) (fun c95 => ?_) (fun c95 => ?_)
            · have hf := zif_pos hf c95
              cases hf
              exact J40 _ _ hP hS ls (lv_sub hl [0, 1, 2, 3, 4] rfl)
            · have hf := zif_neg hf c95
              refine z_aload_n C0 dX4_liveTime_54 rfl (lv_at hl 0 rfl) ?_
              refine zgX4_31 C0 hP 0 rfl (.ref (h 8)) rfl dX4_liveTime_55 ?_
              refine z_iload C0 dX4_liveTime_58 (lv_at hl 4 rfl) ?_
              obtain ⟨g69, hf⟩ := zg_some hf
              refine z_iald C0 hP 8 rfl (Nat.le_of_ble_eq_true rfl) g69 dX4_liveTime_60 ?_
              refine z_iload_n C0 dX4_liveTime_61 rfl (lv_at hl 3 rfl) ?_
              obtain ⟨r70, hE94, hf⟩ := zbind hf
              have J71 : ∀ (H : Heap) (locs : List Loc), va_P D vwCl ((wM h cI cZ lagV deadV mannerV settingV leastOfV mostOfV keptV planeOfV momentOfV stripOfV lateV isOverV r1.1 r1.2 knownV timeOfV pulseOfV groupOfV groupsV shutV firstOfV agreesV agreeSetV missedV bestAV bestBV bestAgreesV bestMissedV)) H → va_S A s.heap H locs → ∀ ls : Array Slot, lv_has ls 7 [(0, .ref (h 0)), (1, .int (zI p1)), (2, .int (zI i7)), (3, .int (zI i8)), (4, .int (zI i9))] → W p l e rmX4_liveTime s m args below meth c H locs 0 0 Q (F0 m 76 ls [.int (zI r70)]) := by
                intro H locs hP hS ls hl
                refine z_istore C0 [(5, .int (zI r70)), (0, .ref (h 0)), (1, .int (zI p1)), (2, .int (zI i7)), (3, .int (zI i8)), (4, .int (zI i9))] dX4_liveTime_76 hl (by decide) rfl (fun ls hl => ?_)
                refine z_aload_n C0 dX4_liveTime_78 rfl (lv_at hl 1 rfl) ?_
                refine zgX4_31 C0 hP 0 rfl (.ref (h 8)) rfl dX4_liveTime_79 ?_
                refine z_iload C0 dX4_liveTime_82 (lv_at hl 5 rfl) ?_
                obtain ⟨g72, hf⟩ := zg_some hf
                refine z_iald C0 hP 8 rfl (Nat.le_of_ble_eq_true rfl) g72 dX4_liveTime_84 ?_
                refine z_aload_n C0 dX4_liveTime_85 rfl (lv_at hl 1 rfl) ?_
                refine zgX4_13 C0 hP 0 rfl (.ref (h 2)) rfl dX4_liveTime_86 ?_
                refine z_iload_n C0 dX4_liveTime_89 rfl (lv_at hl 2 rfl) ?_
                obtain ⟨g73, hf⟩ := zg_some hf
                refine z_iald C0 hP 2 rfl (Nat.le_of_ble_eq_true rfl) g73 dX4_liveTime_90 ?_
                refine z_iadd C0 dX4_liveTime_91 ?_
                obtain ⟨v74, hv74, hf⟩ := zl_some hf
                refine z_name hv74 ?_
                refine z_istore C0 [(6, .int (zI v74)), (5, .int (zI r70)), (0, .ref (h 0)), (1, .int (zI p1)), (2, .int (zI i7)), (3, .int (zI i8)), (4, .int (zI i9))] dX4_liveTime_92 hl (by decide) rfl (fun ls hl => ?_)
                refine z_iload C0 dX4_liveTime_94 (lv_at hl 0 rfl) ?_
                refine z_iload_n C0 dX4_liveTime_96 rfl (lv_at hl 5 rfl) ?_
                obtain ⟨r75, hE91, hf⟩ := zbind hf
                have J76 : ∀ (H : Heap) (locs : List Loc), va_P D vwCl ((wM h cI cZ lagV deadV mannerV settingV leastOfV mostOfV keptV planeOfV momentOfV stripOfV lateV isOverV r1.1 r1.2 knownV timeOfV pulseOfV groupOfV groupsV shutV firstOfV agreesV agreeSetV missedV bestAV bestBV bestAgreesV bestMissedV)) H → va_S A s.heap H locs → ∀ ls : Array Slot, lv_has ls 7 [(0, .ref (h 0)), (1, .int (zI p1)), (2, .int (zI i7)), (4, .int (zI i9)), (5, .int (zI r70)), (6, .int (zI v74))] → W p l e rmX4_liveTime s m args below meth c H locs 0 0 Q (F0 m 106 ls [.int (zI r75)]) := by
                  intro H locs hP hS ls hl
                  refine z_istore_n C0 [(3, .int (zI r75)), (0, .ref (h 0)), (1, .int (zI p1)), (2, .int (zI i7)), (4, .int (zI i9)), (5, .int (zI r70)), (6, .int (zI v74))] dX4_liveTime_106 rfl hl (by decide) rfl (fun ls hl => ?_)
                  refine z_iload C0 dX4_liveTime_107 (lv_at hl 6 rfl) ?_
                  refine z_aload_n C0 dX4_liveTime_109 rfl (lv_at hl 1 rfl) ?_
                  obtain ⟨r77, hc78, hf⟩ := zbind hf
                  refine z_callFi (rest := [.int (zI v74)]) C0 hP (zD hD rfl) hS (zmX4_span l D cI cZ h _ lagV deadV mannerV settingV leastOfV mostOfV keptV planeOfV momentOfV stripOfV lateV isOverV r1.1 r1.2 knownV timeOfV pulseOfV groupOfV groupsV shutV firstOfV agreesV agreeSetV missedV bestAV bestBV bestAgreesV bestMissedV r77 hc78) (zkX4_142 ⟨by decide, by decide⟩ C0.2.2.2.2.1) 4 rfl rfl rfl rfl hl.1 (Nat.le_of_ble_eq_true rfl) dX4_liveTime_110 ⟨Nat.zero_le _, Nat.zero_le _⟩ (fun H locs hP hS => ?_)
                  have hP : va_P D vwCl ((wM h cI cZ lagV deadV mannerV settingV leastOfV mostOfV keptV planeOfV momentOfV stripOfV lateV isOverV r1.1 r1.2 knownV timeOfV pulseOfV groupOfV groupsV shutV firstOfV agreesV agreeSetV missedV bestAV bestBV bestAgreesV bestMissedV)) H := hP
                  obtain ⟨r79, hE89, hf⟩ := zbind hf
                  have J80 : ∀ (H : Heap) (locs : List Loc), va_P D vwCl ((wM h cI cZ lagV deadV mannerV settingV leastOfV mostOfV keptV planeOfV momentOfV stripOfV lateV isOverV r1.1 r1.2 knownV timeOfV pulseOfV groupOfV groupsV shutV firstOfV agreesV agreeSetV missedV bestAV bestBV bestAgreesV bestMissedV)) H → va_S A s.heap H locs → ∀ ls : Array Slot, lv_has ls 7 [(0, .ref (h 0)), (1, .int (zI p1)), (2, .int (zI i7)), (3, .int (zI r75)), (4, .int (zI i9)), (5, .int (zI r70))] → W p l e rmX4_liveTime s m args below meth c H locs 0 0 Q (F0 m 125 ls [.int (zI r79)]) := by
                    intro H locs hP hS ls hl
                    refine z_istore C0 [(6, .int (zI r79)), (0, .ref (h 0)), (1, .int (zI p1)), (2, .int (zI i7)), (3, .int (zI r75)), (4, .int (zI i9)), (5, .int (zI r70))] dX4_liveTime_125 hl (by decide) rfl (fun ls hl => ?_)
                    refine z_iload_n C0 dX4_liveTime_127 rfl (lv_at hl 3 rfl) ?_
                    refine z_iload C0 dX4_liveTime_128 (lv_at hl 0 rfl) ?_
                    refine z_iload C0 dX4_liveTime_130 (lv_at hl 6 rfl) ?_
                    obtain ⟨r81, hE85, hf⟩ := zbind hf
                    have J82 : ∀ (H : Heap) (locs : List Loc), va_P D vwCl ((wM h cI cZ lagV deadV mannerV settingV leastOfV mostOfV keptV planeOfV momentOfV stripOfV lateV isOverV r1.1 r1.2 knownV timeOfV pulseOfV groupOfV groupsV shutV firstOfV agreesV agreeSetV missedV bestAV bestBV bestAgreesV bestMissedV)) H → va_S A s.heap H locs → ∀ ls : Array Slot, lv_has ls 7 [(0, .ref (h 0)), (1, .int (zI p1)), (3, .int (zI r75)), (4, .int (zI i9))] → W p l e rmX4_liveTime s m args below meth c H locs 0 0 Q (F0 m 144 ls [.int (zI r81), .int (zI i7)]) := by
                      intro H locs hP hS ls hl
                      refine z_isub C0 dX4_liveTime_144 ?_
                      obtain ⟨v83, hv83, hf⟩ := zl_some hf
                      refine z_name hv83 ?_
                      refine z_istore_n C0 [(2, .int (zI v83)), (0, .ref (h 0)), (1, .int (zI p1)), (3, .int (zI r75)), (4, .int (zI i9))] dX4_liveTime_145 rfl hl (by decide) rfl (fun ls hl => ?_)
                      cases hf
                      exact J40 _ _ hP hS ls (lv_sub hl [1, 2, 0, 3, 4] rfl)
                    have hf := hE85
                    refine z_icmple C0 143 dX4_liveTime_132 (by decide) (fun c84 => ?_) (fun c84 => ?_)
                    · have hf := zif_pos hf c84
                      refine z_iconst C0 dX4_liveTime_143 ?_
                      cases hf
                      exact J82 _ _ hP hS ls (lv_sub hl [1, 2, 4, 5] rfl)
                    · have hf := zif_neg hf c84
                      refine z_iload C0 dX4_liveTime_135 (lv_at hl 0 rfl) ?_
                      refine z_iload C0 dX4_liveTime_137 (lv_at hl 6 rfl) ?_
                      refine z_isub C0 dX4_liveTime_139 ?_
                      refine z_goto C0 144 dX4_liveTime_140 (by decide) ?_
                      cases hf
                      exact J82 _ _ hP hS ls (lv_sub hl [1, 2, 4, 5] rfl)
                  have hf := hE89
                  refine z_icmple C0 123 dX4_liveTime_113 (by decide) (fun c88 => ?_) (fun c88 => ?_)
                  · have hf := zif_pos hf c88
                    refine z_iload C0 dX4_liveTime_123 (lv_at hl 6 rfl) ?_
                    cases hf
                    exact J80 _ _ hP hS ls (lv_sub hl [1, 2, 3, 0, 4, 5] rfl)
                  · have hf := zif_neg hf c88
                    refine z_aload_n C0 dX4_liveTime_116 rfl (lv_at hl 1 rfl) ?_
                    obtain ⟨r86, hc87, hf⟩ := zbind hf
                    refine z_callFi (rest := []) C0 hP (zD hD rfl) hS (zmX4_span l D cI cZ h _ lagV deadV mannerV settingV leastOfV mostOfV keptV planeOfV momentOfV stripOfV lateV isOverV r1.1 r1.2 knownV timeOfV pulseOfV groupOfV groupsV shutV firstOfV agreesV agreeSetV missedV bestAV bestBV bestAgreesV bestMissedV r86 hc87) (zkX4_142 ⟨by decide, by decide⟩ C0.2.2.2.2.1) 4 rfl rfl rfl rfl hl.1 (Nat.le_of_ble_eq_true rfl) dX4_liveTime_117 ⟨Nat.zero_le _, Nat.zero_le _⟩ (fun H locs hP hS => ?_)
                    have hP : va_P D vwCl ((wM h cI cZ lagV deadV mannerV settingV leastOfV mostOfV keptV planeOfV momentOfV stripOfV lateV isOverV r1.1 r1.2 knownV timeOfV pulseOfV groupOfV groupsV shutV firstOfV agreesV agreeSetV missedV bestAV bestBV bestAgreesV bestMissedV)) H := hP
                    refine z_goto C0 125 dX4_liveTime_120 (by decide) ?_
                    cases hf
                    exact J80 _ _ hP hS ls (lv_sub hl [1, 2, 3, 0, 4, 5] rfl)
                have hf := hE91
                refine z_icmple C0 105 dX4_liveTime_97 (by decide) (fun c90 => ?_) (fun c90 => ?_)
                · have hf := zif_pos hf c90
                  refine z_iload_n C0 dX4_liveTime_105 rfl (lv_at hl 5 rfl) ?_
                  cases hf
                  exact J76 _ _ hP hS ls (lv_sub hl [2, 3, 4, 6, 1, 0] rfl)
                · have hf := zif_neg hf c90
                  refine z_iload C0 dX4_liveTime_100 (lv_at hl 0 rfl) ?_
                  refine z_goto C0 106 dX4_liveTime_102 (by decide) ?_
                  cases hf
                  exact J76 _ _ hP hS ls (lv_sub hl [2, 3, 4, 6, 1, 0] rfl)
              have hf := hE94
              refine z_icmple C0 75 dX4_liveTime_62 (by decide) (fun c93 => ?_) (fun c93 => ?_)
              · have hf := zif_pos hf c93
                refine z_iload_n C0 dX4_liveTime_75 rfl (lv_at hl 3 rfl) ?_
                cases hf
                exact J71 _ _ hP hS ls (lv_sub hl [0, 1, 2, 3, 4] rfl)
              · have hf := zif_neg hf c93
                refine z_aload_n C0 dX4_liveTime_65 rfl (lv_at hl 0 rfl) ?_
                refine zgX4_31 C0 hP 0 rfl (.ref (h 8)) rfl dX4_liveTime_66 ?_
                refine z_iload C0 dX4_liveTime_69 (lv_at hl 4 rfl) ?_
                obtain ⟨g92, hf⟩ := zg_some hf
                refine z_iald C0 hP 8 rfl (Nat.le_of_ble_eq_true rfl) g92 dX4_liveTime_71 ?_
                refine z_goto C0 76 dX4_liveTime_72 (by decide) ?_
                cases hf
                exact J71 _ _ hP hS ls (lv_sub hl [0, 1, 2, 3, 4] rfl)
  obtain ⟨r101, hE102, hf⟩ := zbind hf
  refine L100 _ r3 0 0 r101 hE102 ?_ _ _ hP hS ls (lv_sub hl [3, 4, 2, 1, 0] rfl)
  intro H locs hP hS ls hl
  refine z_iload_n C0 dX4_liveTime_152 rfl (lv_at hl 0 rfl) ?_
  cases hf
  exact hret hP hS dX4_liveTime_153
