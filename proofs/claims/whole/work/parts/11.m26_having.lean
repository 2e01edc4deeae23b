set_option maxHeartbeats 4000000 in
set_option maxRecDepth 100000 in
theorem zmX4_having (l : Launch) (D : va_G) (cI cZ : ClassId) (h : Nat → Nat) (sz : Nat) (lagV : (Nat → Int)) (deadV : (Nat → Int)) (mannerV : (Nat → Int)) (settingV : (Nat → Int)) (leastOfV : (Nat → Int)) (mostOfV : (Nat → Int)) (keptV : Int) (planeOfV : (Nat → Int)) (momentOfV : (Nat → Int)) (stripOfV : (Nat → Int)) (lateV : Int) (isOverV : Int) (isLiveV : (Nat → Int)) (endOfV : (Nat → Int)) (knownV : Int) (timeOfV : (Nat → Int)) (pulseOfV : (Nat → Int)) (groupOfV : (Nat → Int)) (groupsV : Int) (shutV : Int) (firstOfV : (Nat → Int)) (agreesV : Int) (agreeSetV : Int) (missedV : Int) (bestAV : Int) (bestBV : Int) (bestAgreesV : Int) (bestMissedV : Int) (p1 : Int) (p2 : Int) (o : Int × (Nat → Int) × (Nat → Int) × Int × (Nat → Int) × (Nat → Int) × (Nat → Int) × Int × Int × (Nat → Int)) (hf : fX4_having (zk_M lagV deadV mannerV settingV leastOfV mostOfV keptV planeOfV momentOfV stripOfV lateV isOverV isLiveV endOfV knownV timeOfV pulseOfV groupOfV groupsV shutV firstOfV agreesV agreeSetV missedV bestAV bestBV bestAgreesV bestMissedV) p1 p2 = some o) : Met l yX4_having (zW yX4_having cX4_having 7 (some .int)) rmX4_having (va_Pc [.ref (h 0), .int (zI p1), .int (zI p2)] (zPre D cI cZ ((wM h cI cZ lagV deadV mannerV settingV leastOfV mostOfV keptV planeOfV momentOfV stripOfV lateV isOverV isLiveV endOfV knownV timeOfV pulseOfV groupOfV groupsV shutV firstOfV agreesV agreeSetV missedV bestAV bestBV bestAgreesV bestMissedV)) sz)) (va_Qi (fun r' (_ : Unit) => r' = zI o.1) (fun _ t => va_P D vwCl ((wM h cI cZ lagV deadV mannerV settingV leastOfV mostOfV keptV planeOfV momentOfV stripOfV lateV isOverV o.2.1 o.2.2.1 o.2.2.2.1 o.2.2.2.2.1 o.2.2.2.2.2.1 o.2.2.2.2.2.2.1 o.2.2.2.2.2.2.2.1 o.2.2.2.2.2.2.2.2.1 o.2.2.2.2.2.2.2.2.2 agreesV agreeSetV missedV bestAV bestBV bestAgreesV bestMissedV)) t.heap) (va_A ((wM h cI cZ lagV deadV mannerV settingV leastOfV mostOfV keptV planeOfV momentOfV stripOfV lateV isOverV isLiveV endOfV knownV timeOfV pulseOfV groupOfV groupsV shutV firstOfV agreesV agreeSetV missedV bestAV bestBV bestAgreesV bestMissedV)) sz)) 0 0 (va_A ((wM h cI cZ lagV deadV mannerV settingV leastOfV mostOfV keptV planeOfV momentOfV stripOfV lateV isOverV isLiveV endOfV knownV timeOfV pulseOfV groupOfV groupsV shutV firstOfV agreesV agreeSetV missedV bestAV bestBV bestAgreesV bestMissedV)) sz) := by
  unfold fX4_having at hf
  refine z_enter_i (own := RX4) (by decide +kernel) rfl (Nat.le_of_ble_eq_true rfl) ?_
  intro p e s m args below meth c A Q C0 hP hD hS hret ls hl
  have hl : lv_has ls 7 [(0, .ref (h 0)), (1, .int (zI p1)), (2, .int (zI p2))] := hl
  refine z_iload_n C0 dX4_having_0 rfl (lv_at hl 1 rfl) ?_
  refine z_iconst C0 dX4_having_1 ?_
  refine z_bipush C0 dX4_having_2 (by decide +kernel) ?_
  obtain ⟨r1, hc2, hf⟩ := zbind hf
  refine z_callSi (rest := []) C0 hP (zD hD rfl) hS [] rfl (zmX4_within l D cI cZ _ p1 0 63 r1 hc2) (zkX4_56 ⟨by decide, by decide⟩ C0.2.2.2.2.1) rfl rfl rfl hl.1 (Nat.le_of_ble_eq_true rfl) dX4_having_4 ⟨Nat.zero_le _, Nat.zero_le _⟩ rfl (Nat.le_of_ble_eq_true rfl) (fun H locs hP hS => ?_)
  have hP : va_P D vwCl ((wM h cI cZ lagV deadV mannerV settingV leastOfV mostOfV keptV planeOfV momentOfV stripOfV lateV isOverV isLiveV endOfV knownV timeOfV pulseOfV groupOfV groupsV shutV firstOfV agreesV agreeSetV missedV bestAV bestBV bestAgreesV bestMissedV)) H := hP
  refine z_ifeq C0 19 dX4_having_7 (by decide) (fun c60 => ?_) (fun c60 => ?_)
  · have hf := zif_pos hf c60
    refine z_bipush C0 dX4_having_19 (by decide +kernel) ?_
    cases hf
    exact hret hP hS dX4_having_21
  · have hf := zif_neg hf c60
    refine z_iload_n C0 dX4_having_10 rfl (lv_at hl 2 rfl) ?_
    refine z_iconst C0 dX4_having_11 ?_
    refine z_iconst C0 dX4_having_12 ?_
    obtain ⟨r3, hc4, hf⟩ := zbind hf
    refine z_callSi (rest := []) C0 hP (zD hD rfl) hS [] rfl (zmX4_within l D cI cZ _ p2 0 2 r3 hc4) (zkX4_56 ⟨by decide, by decide⟩ C0.2.2.2.2.1) rfl rfl rfl hl.1 (Nat.le_of_ble_eq_true rfl) dX4_having_13 ⟨Nat.zero_le _, Nat.zero_le _⟩ rfl (Nat.le_of_ble_eq_true rfl) (fun H locs hP hS => ?_)
    have hP : va_P D vwCl ((wM h cI cZ lagV deadV mannerV settingV leastOfV mostOfV keptV planeOfV momentOfV stripOfV lateV isOverV isLiveV endOfV knownV timeOfV pulseOfV groupOfV groupsV shutV firstOfV agreesV agreeSetV missedV bestAV bestBV bestAgreesV bestMissedV)) H := hP
    refine z_ifne C0 22 dX4_having_16 (by decide) (fun c59 => ?_) (fun c59 => ?_)
    · have hf := zif_neg hf c59
      refine z_aload_n C0 dX4_having_22 rfl (lv_at hl 0 rfl) ?_
      refine z_iconst C0 dX4_having_23 ?_
      refine z_iconst C0 dX4_having_24 ?_
      obtain ⟨r5, hc6, hf⟩ := zbind hf
      refine z_callFv (rest := []) C0 hP (zD hD rfl) hS (zmX4_findGroups l D cI cZ h _ lagV deadV mannerV settingV leastOfV mostOfV keptV planeOfV momentOfV stripOfV lateV isOverV isLiveV endOfV knownV timeOfV pulseOfV groupOfV groupsV shutV firstOfV agreesV agreeSetV missedV bestAV bestBV bestAgreesV bestMissedV 0 0 r5 hc6) (zkX4_120 ⟨by decide, by decide⟩ C0.2.2.2.2.1) 4 rfl rfl rfl rfl hl.1 (Nat.le_of_ble_eq_true rfl) dX4_having_25 ⟨Nat.zero_le _, Nat.zero_le _⟩ (fun H locs hP hS => ?_)
      have hP : va_P D vwCl ((wM h cI cZ lagV deadV mannerV settingV leastOfV mostOfV keptV planeOfV momentOfV stripOfV lateV isOverV r5.1 r5.2.1 r5.2.2.1 r5.2.2.2.1 r5.2.2.2.2.1 r5.2.2.2.2.2.1 r5.2.2.2.2.2.2.1 r5.2.2.2.2.2.2.2.1 r5.2.2.2.2.2.2.2.2 agreesV agreeSetV missedV bestAV bestBV bestAgreesV bestMissedV)) H := hP
      refine z_iconst C0 dX4_having_28 ?_
      refine z_istore_n C0 [(3, .int (zI 0)), (0, .ref (h 0)), (1, .int (zI p1)), (2, .int (zI p2))] dX4_having_29 rfl hl (by decide) rfl (fun ls hl => ?_)
      refine z_iconst C0 dX4_having_30 ?_
      refine z_istore C0 [(4, .int (zI 0)), (3, .int (zI 0)), (0, .ref (h 0)), (1, .int (zI p1)), (2, .int (zI p2))] dX4_having_31 hl (by decide) rfl (fun ls hl => ?_)
      have L56 : ∀ (zn : Nat) (i10 : Int) (i11 : Int) (out : Int), fX4_having_L33 zn (zk_M lagV deadV mannerV settingV leastOfV mostOfV keptV planeOfV momentOfV stripOfV lateV isOverV isLiveV endOfV knownV timeOfV pulseOfV groupOfV groupsV shutV firstOfV agreesV agreeSetV missedV bestAV bestBV bestAgreesV bestMissedV) p1 p2 r5.1 r5.2.1 r5.2.2.1 r5.2.2.2.1 r5.2.2.2.2.1 r5.2.2.2.2.2.1 r5.2.2.2.2.2.2.1 r5.2.2.2.2.2.2.2.1 r5.2.2.2.2.2.2.2.2 i10 i11 = some out → (∀ (H : Heap) (locs : List Loc), va_P D vwCl ((wM h cI cZ lagV deadV mannerV settingV leastOfV mostOfV keptV planeOfV momentOfV stripOfV lateV isOverV r5.1 r5.2.1 r5.2.2.1 r5.2.2.2.1 r5.2.2.2.2.1 r5.2.2.2.2.2.1 r5.2.2.2.2.2.2.1 r5.2.2.2.2.2.2.2.1 r5.2.2.2.2.2.2.2.2 agreesV agreeSetV missedV bestAV bestBV bestAgreesV bestMissedV)) H → va_S A s.heap H locs → ∀ ls : Array Slot, lv_has ls 7 [(3, .int (zI out))] → W p l e rmX4_having s m args below meth c H locs 0 0 Q (F0 m 122 ls [])) → ∀ (H : Heap) (locs : List Loc), va_P D vwCl ((wM h cI cZ lagV deadV mannerV settingV leastOfV mostOfV keptV planeOfV momentOfV stripOfV lateV isOverV r5.1 r5.2.1 r5.2.2.1 r5.2.2.2.1 r5.2.2.2.2.1 r5.2.2.2.2.2.1 r5.2.2.2.2.2.2.1 r5.2.2.2.2.2.2.2.1 r5.2.2.2.2.2.2.2.2 agreesV agreeSetV missedV bestAV bestBV bestAgreesV bestMissedV)) H → va_S A s.heap H locs → ∀ ls : Array Slot, lv_has ls 7 [(0, .ref (h 0)), (1, .int (zI p1)), (2, .int (zI p2)), (3, .int (zI i10)), (4, .int (zI i11))] → W p l e rmX4_having s m args below meth c H locs 0 0 Q (F0 m 33 ls []) := by
        intro zn
        induction zn with
        | zero =>
          intro i10 i11 out hf
          rw [fX4_having_L33_z] at hf
          cases hf
        | succ zn ih =>
          intro i10 i11 out hf K H locs hP hS ls hl
          rw [fX4_having_L33_s] at hf
          refine z_iload C0 dX4_having_33 (lv_at hl 4 rfl) ?_
          refine z_aload_n C0 dX4_having_35 rfl (lv_at hl 0 rfl) ?_
          refine zgX4_117 C0 hP 0 rfl (.int (zI r5.2.2.2.2.2.2.2.1)) rfl dX4_having_36 ?_
          refine z_icmpge C0 122 dX4_having_39 (by decide) (fun c55 => ?_) (fun c55 => ?_)
          · have hf := zif_pos hf c55
            cases hf
            exact K _ _ hP hS ls (lv_sub hl [3] rfl)
          · have hf := zif_neg hf c55
            refine z_aload_n C0 dX4_having_42 rfl (lv_at hl 0 rfl) ?_
            refine z_iload C0 dX4_having_43 (lv_at hl 4 rfl) ?_
            obtain ⟨r40, hc41, hf⟩ := zbind hf
            refine z_callFi (rest := []) C0 hP (zD hD rfl) hS (zmX4_setOf l D cI cZ h _ lagV deadV mannerV settingV leastOfV mostOfV keptV planeOfV momentOfV stripOfV lateV isOverV r5.1 r5.2.1 r5.2.2.1 r5.2.2.2.1 r5.2.2.2.2.1 r5.2.2.2.2.2.1 r5.2.2.2.2.2.2.1 r5.2.2.2.2.2.2.2.1 r5.2.2.2.2.2.2.2.2 agreesV agreeSetV missedV bestAV bestBV bestAgreesV bestMissedV i11 r40 hc41) (zkX4_126 ⟨by decide, by decide⟩ C0.2.2.2.2.1) 4 rfl rfl rfl rfl hl.1 (Nat.le_of_ble_eq_true rfl) dX4_having_45 ⟨Nat.zero_le _, Nat.zero_le _⟩ (fun H locs hP hS => ?_)
            have hP : va_P D vwCl ((wM h cI cZ lagV deadV mannerV settingV leastOfV mostOfV keptV planeOfV momentOfV stripOfV lateV isOverV r5.1 r5.2.1 r5.2.2.1 r5.2.2.2.1 r5.2.2.2.2.1 r5.2.2.2.2.2.1 r5.2.2.2.2.2.2.1 r5.2.2.2.2.2.2.2.1 r5.2.2.2.2.2.2.2.2 agreesV agreeSetV missedV bestAV bestBV bestAgreesV bestMissedV)) H := hP
            refine z_istore C0 [(5, .int (zI r40)), (0, .ref (h 0)), (1, .int (zI p1)), (2, .int (zI p2)), (3, .int (zI i10)), (4, .int (zI i11))] dX4_having_48 hl (by decide) rfl (fun ls hl => ?_)
            refine z_iload_n C0 dX4_having_50 rfl (lv_at hl 3 rfl) ?_
            obtain ⟨r42, hE54, hf⟩ := zbind hf
            have J43 : ∀ (H : Heap) (locs : List Loc), va_P D vwCl ((wM h cI cZ lagV deadV mannerV settingV leastOfV mostOfV keptV planeOfV momentOfV stripOfV lateV isOverV r5.1 r5.2.1 r5.2.2.1 r5.2.2.2.1 r5.2.2.2.2.1 r5.2.2.2.2.2.1 r5.2.2.2.2.2.2.1 r5.2.2.2.2.2.2.2.1 r5.2.2.2.2.2.2.2.2 agreesV agreeSetV missedV bestAV bestBV bestAgreesV bestMissedV)) H → va_S A s.heap H locs → ∀ ls : Array Slot, lv_has ls 7 [(0, .ref (h 0)), (1, .int (zI p1)), (2, .int (zI p2)), (3, .int (zI i10)), (4, .int (zI i11))] → W p l e rmX4_having s m args below meth c H locs 0 0 Q (F0 m 101 ls [.int (zI r42)]) := by
              intro H locs hP hS ls hl
              refine z_istore C0 [(6, .int (zI r42)), (0, .ref (h 0)), (1, .int (zI p1)), (2, .int (zI p2)), (3, .int (zI i10)), (4, .int (zI i11))] dX4_having_101 hl (by decide) rfl (fun ls hl => ?_)
              refine z_iload_n C0 dX4_having_103 rfl (lv_at hl 4 rfl) ?_
              refine z_iload C0 dX4_having_104 (lv_at hl 0 rfl) ?_
              obtain ⟨r44, hE48, hf⟩ := zbind hf
              have J45 : ∀ (H : Heap) (locs : List Loc), va_P D vwCl ((wM h cI cZ lagV deadV mannerV settingV leastOfV mostOfV keptV planeOfV momentOfV stripOfV lateV isOverV r5.1 r5.2.1 r5.2.2.1 r5.2.2.2.1 r5.2.2.2.2.1 r5.2.2.2.2.2.1 r5.2.2.2.2.2.2.1 r5.2.2.2.2.2.2.2.1 r5.2.2.2.2.2.2.2.2 agreesV agreeSetV missedV bestAV bestBV bestAgreesV bestMissedV)) H → va_S A s.heap H locs → ∀ ls : Array Slot, lv_has ls 7 [(0, .ref (h 0)), (1, .int (zI p1)), (2, .int (zI p2)), (4, .int (zI i11))] → W p l e rmX4_having s m args below meth c H locs 0 0 Q (F0 m 114 ls [.int (zI r44), .int (zI i10)]) := by
                intro H locs hP hS ls hl
                refine z_iadd C0 dX4_having_114 ?_
                obtain ⟨v46, hv46, hf⟩ := zl_some hf
                refine z_name hv46 ?_
                refine z_istore_n C0 [(3, .int (zI v46)), (0, .ref (h 0)), (1, .int (zI p1)), (2, .int (zI p2)), (4, .int (zI i11))] dX4_having_115 rfl hl (by decide) rfl (fun ls hl => ?_)
                refine z_iinc C0 [(4, .int (zI (i11 + 1))), (3, .int (zI v46)), (0, .ref (h 0)), (1, .int (zI p1)), (2, .int (zI p2))] dX4_having_116 hl 4 rfl (by decide) rfl (fun ls hl => ?_)
                refine z_goto C0 33 dX4_having_119 (by decide) ?_
                exact ih v46 (i11 + 1) out hf K _ _ hP hS ls (lv_sub hl [2, 3, 4, 1, 0] rfl)
              have hf := hE48
              refine z_ifeq C0 113 dX4_having_106 (by decide) (fun c47 => ?_) (fun c47 => ?_)
              · have hf := zif_pos hf c47
                refine z_iconst C0 dX4_having_113 ?_
                cases hf
                exact J45 _ _ hP hS ls (lv_sub hl [1, 2, 3, 5] rfl)
              · have hf := zif_neg hf c47
                refine z_iconst C0 dX4_having_109 ?_
                refine z_goto C0 114 dX4_having_110 (by decide) ?_
                cases hf
                exact J45 _ _ hP hS ls (lv_sub hl [1, 2, 3, 5] rfl)
            have hf := hE54
            refine z_ifne C0 68 dX4_having_51 (by decide) (fun c53 => ?_) (fun c53 => ?_)
            · have hf := zif_neg hf c53
              refine z_iload_n C0 dX4_having_68 rfl (lv_at hl 3 rfl) ?_
              refine z_iconst C0 dX4_having_69 ?_
              refine z_icmpne C0 89 dX4_having_70 (by decide) (fun c51 => ?_) (fun c51 => ?_)
              · have hf := zif_neg hf c51
                refine z_iload C0 dX4_having_89 (lv_at hl 0 rfl) ?_
                refine z_iload_n C0 dX4_having_91 rfl (lv_at hl 2 rfl) ?_
                refine z_iand C0 dX4_having_92 ?_
                refine z_ifne C0 100 dX4_having_93 (by decide) (fun c49 => ?_) (fun c49 => ?_)
                · have hf := zif_neg hf c49
                  refine z_iconst C0 dX4_having_100 ?_
                  cases hf
                  exact J43 _ _ hP hS ls (lv_sub hl [1, 2, 3, 4, 5] rfl)
                · have hf := zif_pos hf c49
                  refine z_iconst C0 dX4_having_96 ?_
                  refine z_goto C0 101 dX4_having_97 (by decide) ?_
                  cases hf
                  exact J43 _ _ hP hS ls (lv_sub hl [1, 2, 3, 4, 5] rfl)
              · have hf := zif_pos hf c51
                refine z_iload C0 dX4_having_73 (lv_at hl 0 rfl) ?_
                refine z_iload_n C0 dX4_having_75 rfl (lv_at hl 2 rfl) ?_
                refine z_iand C0 dX4_having_76 ?_
                refine z_iload_n C0 dX4_having_77 rfl (lv_at hl 2 rfl) ?_
                refine z_icmpne C0 85 dX4_having_78 (by decide) (fun c50 => ?_) (fun c50 => ?_)
                · have hf := zif_neg hf c50
                  refine z_iconst C0 dX4_having_85 ?_
                  refine z_goto C0 101 dX4_having_86 (by decide) ?_
                  cases hf
                  exact J43 _ _ hP hS ls (lv_sub hl [1, 2, 3, 4, 5] rfl)
                · have hf := zif_pos hf c50
                  refine z_iconst C0 dX4_having_81 ?_
                  refine z_goto C0 101 dX4_having_82 (by decide) ?_
                  cases hf
                  exact J43 _ _ hP hS ls (lv_sub hl [1, 2, 3, 4, 5] rfl)
            · have hf := zif_pos hf c53
              refine z_iload C0 dX4_having_54 (lv_at hl 0 rfl) ?_
              refine z_iload_n C0 dX4_having_56 rfl (lv_at hl 2 rfl) ?_
              refine z_icmpne C0 64 dX4_having_57 (by decide) (fun c52 => ?_) (fun c52 => ?_)
              · have hf := zif_neg hf c52
                refine z_iconst C0 dX4_having_64 ?_
                refine z_goto C0 101 dX4_having_65 (by decide) ?_
                cases hf
                exact J43 _ _ hP hS ls (lv_sub hl [1, 2, 3, 4, 5] rfl)
              · have hf := zif_pos hf c52
                refine z_iconst C0 dX4_having_60 ?_
                refine z_goto C0 101 dX4_having_61 (by decide) ?_
                cases hf
                exact J43 _ _ hP hS ls (lv_sub hl [1, 2, 3, 4, 5] rfl)
      obtain ⟨r57, hE58, hf⟩ := zbind hf
      refine L56 _ 0 0 r57 hE58 ?_ _ _ hP hS ls (lv_sub hl [2, 3, 4, 1, 0] rfl)
      intro H locs hP hS ls hl
      refine z_iload_n C0 dX4_having_122 rfl (lv_at hl 0 rfl) ?_
      cases hf
      exact hret hP hS dX4_having_123
    · have hf := zif_pos hf c59
      refine z_bipush C0 dX4_having_19 (by decide +kernel) ?_
      cases hf
      exact hret hP hS dX4_having_21
