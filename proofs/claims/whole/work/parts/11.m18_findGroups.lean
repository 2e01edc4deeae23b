set_option maxHeartbeats 4000000 in
set_option maxRecDepth 100000 in
theorem zmX4_findGroups (l : Launch) (D : va_G) (cI cZ : ClassId) (h : Nat → Nat) (sz : Nat) (lagV : (Nat → Int)) (deadV : (Nat → Int)) (mannerV : (Nat → Int)) (settingV : (Nat → Int)) (leastOfV : (Nat → Int)) (mostOfV : (Nat → Int)) (keptV : Int) (planeOfV : (Nat → Int)) (momentOfV : (Nat → Int)) (stripOfV : (Nat → Int)) (lateV : Int) (isOverV : Int) (isLiveV : (Nat → Int)) (endOfV : (Nat → Int)) (knownV : Int) (timeOfV : (Nat → Int)) (pulseOfV : (Nat → Int)) (groupOfV : (Nat → Int)) (groupsV : Int) (shutV : Int) (firstOfV : (Nat → Int)) (agreesV : Int) (agreeSetV : Int) (missedV : Int) (bestAV : Int) (bestBV : Int) (bestAgreesV : Int) (bestMissedV : Int) (p1 : Int) (p2 : Int) (o : (Nat → Int) × (Nat → Int) × Int × (Nat → Int) × (Nat → Int) × (Nat → Int) × Int × Int × (Nat → Int)) (hf : fX4_findGroups (zk_M lagV deadV mannerV settingV leastOfV mostOfV keptV planeOfV momentOfV stripOfV lateV isOverV isLiveV endOfV knownV timeOfV pulseOfV groupOfV groupsV shutV firstOfV agreesV agreeSetV missedV bestAV bestBV bestAgreesV bestMissedV) p1 p2 = some o) : Met l yX4_findGroups (zW yX4_findGroups cX4_findGroups 6 none) rmX4_findGroups (va_Pc [.ref (h 0), .int (zI p1), .int (zI p2)] (zPre D cI cZ ((wM h cI cZ lagV deadV mannerV settingV leastOfV mostOfV keptV planeOfV momentOfV stripOfV lateV isOverV isLiveV endOfV knownV timeOfV pulseOfV groupOfV groupsV shutV firstOfV agreesV agreeSetV missedV bestAV bestBV bestAgreesV bestMissedV)) sz)) (va_Qv (fun (_ : Unit) => True) (fun _ t => va_P D vwCl ((wM h cI cZ lagV deadV mannerV settingV leastOfV mostOfV keptV planeOfV momentOfV stripOfV lateV isOverV o.1 o.2.1 o.2.2.1 o.2.2.2.1 o.2.2.2.2.1 o.2.2.2.2.2.1 o.2.2.2.2.2.2.1 o.2.2.2.2.2.2.2.1 o.2.2.2.2.2.2.2.2 agreesV agreeSetV missedV bestAV bestBV bestAgreesV bestMissedV)) t.heap) (va_A ((wM h cI cZ lagV deadV mannerV settingV leastOfV mostOfV keptV planeOfV momentOfV stripOfV lateV isOverV isLiveV endOfV knownV timeOfV pulseOfV groupOfV groupsV shutV firstOfV agreesV agreeSetV missedV bestAV bestBV bestAgreesV bestMissedV)) sz)) 0 0 (va_A ((wM h cI cZ lagV deadV mannerV settingV leastOfV mostOfV keptV planeOfV momentOfV stripOfV lateV isOverV isLiveV endOfV knownV timeOfV pulseOfV groupOfV groupsV shutV firstOfV agreesV agreeSetV missedV bestAV bestBV bestAgreesV bestMissedV)) sz) := by
  unfold fX4_findGroups at hf
  refine z_enter_v (own := RX4) (by decide +kernel) rfl (Nat.le_of_ble_eq_true rfl) ?_
  intro p e s m args below meth c A Q C0 hP hD hS hret ls hl
  have hl : lv_has ls 6 [(0, .ref (h 0)), (1, .int (zI p1)), (2, .int (zI p2))] := hl
  refine z_aload_n C0 dX4_findGroups_0 rfl (lv_at hl 0 rfl) ?_
  obtain ⟨r1, hc2, hf⟩ := zbind hf
  refine z_callFv (rest := []) C0 hP (zD hD rfl) hS (zmX4_findLive l D cI cZ h _ lagV deadV mannerV settingV leastOfV mostOfV keptV planeOfV momentOfV stripOfV lateV isOverV isLiveV endOfV knownV timeOfV pulseOfV groupOfV groupsV shutV firstOfV agreesV agreeSetV missedV bestAV bestBV bestAgreesV bestMissedV r1 hc2) (zkX4_90 ⟨by decide, by decide⟩ C0.2.2.2.2.1) 4 rfl rfl rfl rfl hl.1 (Nat.le_of_ble_eq_true rfl) dX4_findGroups_1 ⟨Nat.zero_le _, Nat.zero_le _⟩ (fun H locs hP hS => ?_)
  have hP : va_P D vwCl ((wM h cI cZ lagV deadV mannerV settingV leastOfV mostOfV keptV planeOfV momentOfV stripOfV lateV isOverV r1.1 r1.2 knownV timeOfV pulseOfV groupOfV groupsV shutV firstOfV agreesV agreeSetV missedV bestAV bestBV bestAgreesV bestMissedV)) H := hP
  refine z_aload_n C0 dX4_findGroups_4 rfl (lv_at hl 0 rfl) ?_
  refine z_iconst C0 dX4_findGroups_5 ?_
  refine zpX4_101 C0 hP (zD hD rfl) hS 0 rfl (Nat.le_of_ble_eq_true rfl) dX4_findGroups_6 (fun H locs hP hS => ?_)
  have hP : va_P D vwCl ((wM h cI cZ lagV deadV mannerV settingV leastOfV mostOfV keptV planeOfV momentOfV stripOfV lateV isOverV r1.1 r1.2 0 timeOfV pulseOfV groupOfV groupsV shutV firstOfV agreesV agreeSetV missedV bestAV bestBV bestAgreesV bestMissedV)) H := hP
  refine z_aload_n C0 dX4_findGroups_9 rfl (lv_at hl 0 rfl) ?_
  obtain ⟨r3, hc4, hf⟩ := zbind hf
  refine z_callFi (rest := []) C0 hP (zD hD rfl) hS (zmX4_settled l D cI cZ h _ lagV deadV mannerV settingV leastOfV mostOfV keptV planeOfV momentOfV stripOfV lateV isOverV r1.1 r1.2 0 timeOfV pulseOfV groupOfV groupsV shutV firstOfV agreesV agreeSetV missedV bestAV bestBV bestAgreesV bestMissedV r3 hc4) (zkX4_87 ⟨by decide, by decide⟩ C0.2.2.2.2.1) 4 rfl rfl rfl rfl hl.1 (Nat.le_of_ble_eq_true rfl) dX4_findGroups_10 ⟨Nat.zero_le _, Nat.zero_le _⟩ (fun H locs hP hS => ?_)
  have hP : va_P D vwCl ((wM h cI cZ lagV deadV mannerV settingV leastOfV mostOfV keptV planeOfV momentOfV stripOfV lateV isOverV r1.1 r1.2 0 timeOfV pulseOfV groupOfV groupsV shutV firstOfV agreesV agreeSetV missedV bestAV bestBV bestAgreesV bestMissedV)) H := hP
  refine z_istore_n C0 [(3, .int (zI r3)), (0, .ref (h 0)), (1, .int (zI p1)), (2, .int (zI p2))] dX4_findGroups_13 rfl hl (by decide) rfl (fun ls hl => ?_)
  refine z_iconst C0 dX4_findGroups_14 ?_
  refine z_istore C0 [(4, .int (zI 0)), (3, .int (zI r3)), (0, .ref (h 0)), (1, .int (zI p1)), (2, .int (zI p2))] dX4_findGroups_15 hl (by decide) rfl (fun ls hl => ?_)
  have L58 : ∀ (zn : Nat) (i9 : Int) (k24 : Int) (k25 : (Nat → Int)) (k26 : (Nat → Int)) (out : Int × (Nat → Int) × (Nat → Int)), fX4_findGroups_L17 zn (zk_M lagV deadV mannerV settingV leastOfV mostOfV keptV planeOfV momentOfV stripOfV lateV isOverV isLiveV endOfV knownV timeOfV pulseOfV groupOfV groupsV shutV firstOfV agreesV agreeSetV missedV bestAV bestBV bestAgreesV bestMissedV) p1 p2 r3 r1.1 r1.2 i9 k24 k25 k26 = some out → (∀ (H : Heap) (locs : List Loc), va_P D vwCl ((wM h cI cZ lagV deadV mannerV settingV leastOfV mostOfV keptV planeOfV momentOfV stripOfV lateV isOverV r1.1 r1.2 out.1 out.2.1 out.2.2 groupOfV groupsV shutV firstOfV agreesV agreeSetV missedV bestAV bestBV bestAgreesV bestMissedV)) H → va_S A s.heap H locs → ∀ ls : Array Slot, lv_has ls 6 [(0, .ref (h 0))] → W p l e rmX4_findGroups s m args below meth c H locs 0 0 Q (F0 m 99 ls [])) → ∀ (H : Heap) (locs : List Loc), va_P D vwCl ((wM h cI cZ lagV deadV mannerV settingV leastOfV mostOfV keptV planeOfV momentOfV stripOfV lateV isOverV r1.1 r1.2 k24 k25 k26 groupOfV groupsV shutV firstOfV agreesV agreeSetV missedV bestAV bestBV bestAgreesV bestMissedV)) H → va_S A s.heap H locs → ∀ ls : Array Slot, lv_has ls 6 [(0, .ref (h 0)), (1, .int (zI p1)), (2, .int (zI p2)), (3, .int (zI r3)), (4, .int (zI i9))] → W p l e rmX4_findGroups s m args below meth c H locs 0 0 Q (F0 m 17 ls []) := by
    intro zn
    induction zn with
    | zero =>
      intro i9 k24 k25 k26 out hf
      rw [fX4_findGroups_L17_z] at hf
      cases hf
    | succ zn ih =>
      intro i9 k24 k25 k26 out hf K H locs hP hS ls hl
      rw [fX4_findGroups_L17_s] at hf
      refine z_iload C0 dX4_findGroups_17 (lv_at hl 4 rfl) ?_
      refine z_iload_n C0 dX4_findGroups_19 rfl (lv_at hl 3 rfl) ?_
      refine z_icmpge C0 99 dX4_findGroups_20 (by decide) (fun c57 => ?_) (fun c57 => ?_)
      · have hf := zif_pos hf c57
        cases hf
        exact K _ _ hP hS ls (lv_sub hl [0] rfl)
      · have hf := zif_neg hf c57
        refine z_aload_n C0 dX4_findGroups_23 rfl (lv_at hl 0 rfl) ?_
        refine zgX4_31 C0 hP 0 rfl (.ref (h 8)) rfl dX4_findGroups_24 ?_
        refine z_iload C0 dX4_findGroups_27 (lv_at hl 4 rfl) ?_
        obtain ⟨g38, hf⟩ := zg_some hf
        refine z_iald C0 hP 8 rfl (Nat.le_of_ble_eq_true rfl) g38 dX4_findGroups_29 ?_
        refine z_aload_n C0 dX4_findGroups_30 rfl (lv_at hl 0 rfl) ?_
        refine zgX4_7 C0 hP 0 rfl (.ref (h 1)) rfl dX4_findGroups_31 ?_
        refine z_aload_n C0 dX4_findGroups_34 rfl (lv_at hl 0 rfl) ?_
        refine zgX4_28 C0 hP 0 rfl (.ref (h 7)) rfl dX4_findGroups_35 ?_
        refine z_iload C0 dX4_findGroups_38 (lv_at hl 4 rfl) ?_
        obtain ⟨g39, hf⟩ := zg_some hf
        refine z_iald C0 hP 7 rfl (Nat.le_of_ble_eq_true rfl) g39 dX4_findGroups_40 ?_
        obtain ⟨g40, hf⟩ := zg_some hf
        refine z_iald C0 hP 1 rfl (Nat.le_of_ble_eq_true rfl) g40 dX4_findGroups_41 ?_
        refine z_isub C0 dX4_findGroups_42 ?_
        obtain ⟨v41, hv41, hf⟩ := zl_some hf
        refine z_name hv41 ?_
        refine z_istore C0 [(5, .int (zI v41)), (0, .ref (h 0)), (1, .int (zI p1)), (2, .int (zI p2)), (3, .int (zI r3)), (4, .int (zI i9))] dX4_findGroups_43 hl (by decide) rfl (fun ls hl => ?_)
        refine z_aload_n C0 dX4_findGroups_45 rfl (lv_at hl 1 rfl) ?_
        refine zgX4_37 C0 hP 0 rfl (.ref (h 10)) rfl dX4_findGroups_46 ?_
        refine z_iload C0 dX4_findGroups_49 (lv_at hl 5 rfl) ?_
        obtain ⟨g42, hf⟩ := zg_some hf
        refine z_zald C0 hP 10 rfl (Nat.le_of_ble_eq_true rfl) g42 dX4_findGroups_51 ?_
        obtain ⟨r43, hE56, hf⟩ := zbind hf
        have J44 : ∀ (H : Heap) (locs : List Loc), va_P D vwCl ((wM h cI cZ lagV deadV mannerV settingV leastOfV mostOfV keptV planeOfV momentOfV stripOfV lateV isOverV r1.1 r1.2 r43.1 r43.2.1 r43.2.2 groupOfV groupsV shutV firstOfV agreesV agreeSetV missedV bestAV bestBV bestAgreesV bestMissedV)) H → va_S A s.heap H locs → ∀ ls : Array Slot, lv_has ls 6 [(0, .ref (h 0)), (1, .int (zI p1)), (2, .int (zI p2)), (3, .int (zI r3)), (4, .int (zI i9))] → W p l e rmX4_findGroups s m args below meth c H locs 0 0 Q (F0 m 93 ls []) := by
          intro H locs hP hS ls hl
          refine z_iinc C0 [(4, .int (zI (i9 + 1))), (0, .ref (h 0)), (1, .int (zI p1)), (2, .int (zI p2)), (3, .int (zI r3))] dX4_findGroups_93 hl 4 rfl (by decide) rfl (fun ls hl => ?_)
          refine z_goto C0 17 dX4_findGroups_96 (by decide) ?_
          exact ih (i9 + 1) r43.1 r43.2.1 r43.2.2 out hf K _ _ hP hS ls (lv_sub hl [1, 2, 3, 4, 0] rfl)
        have hf := hE56
        refine z_ifeq C0 93 dX4_findGroups_52 (by decide) (fun c55 => ?_) (fun c55 => ?_)
        · have hf := zif_pos hf c55
          cases hf
          exact J44 _ _ hP hS ls (lv_sub hl [1, 2, 3, 4, 5] rfl)
        · have hf := zif_neg hf c55
          refine z_iload C0 dX4_findGroups_55 (lv_at hl 0 rfl) ?_
          refine z_aload_n C0 dX4_findGroups_57 rfl (lv_at hl 1 rfl) ?_
          obtain ⟨r45, hc46, hf⟩ := zbind hf
          refine z_callFi (rest := [.int (zI v41)]) C0 hP (zD hD rfl) hS (zmX4_edge l D cI cZ h _ lagV deadV mannerV settingV leastOfV mostOfV keptV planeOfV momentOfV stripOfV lateV isOverV r1.1 r1.2 k24 k25 k26 groupOfV groupsV shutV firstOfV agreesV agreeSetV missedV bestAV bestBV bestAgreesV bestMissedV r45 hc46) (zkX4_107 ⟨by decide, by decide⟩ C0.2.2.2.2.1) 4 rfl rfl rfl rfl hl.1 (Nat.le_of_ble_eq_true rfl) dX4_findGroups_58 ⟨Nat.zero_le _, Nat.zero_le _⟩ (fun H locs hP hS => ?_)
          have hP : va_P D vwCl ((wM h cI cZ lagV deadV mannerV settingV leastOfV mostOfV keptV planeOfV momentOfV stripOfV lateV isOverV r1.1 r1.2 k24 k25 k26 groupOfV groupsV shutV firstOfV agreesV agreeSetV missedV bestAV bestBV bestAgreesV bestMissedV)) H := hP
          refine z_icmpge C0 93 dX4_findGroups_61 (by decide) (fun c54 => ?_) (fun c54 => ?_)
          · have hf := zif_pos hf c54
            cases hf
            exact J44 _ _ hP hS ls (lv_sub hl [1, 2, 3, 4, 5] rfl)
          · have hf := zif_neg hf c54
            refine z_aload_n C0 dX4_findGroups_64 rfl (lv_at hl 1 rfl) ?_
            refine z_iload C0 dX4_findGroups_65 (lv_at hl 0 rfl) ?_
            refine z_iload_n C0 dX4_findGroups_67 rfl (lv_at hl 2 rfl) ?_
            refine z_aload_n C0 dX4_findGroups_68 rfl (lv_at hl 1 rfl) ?_
            refine zgX4_28 C0 hP 0 rfl (.ref (h 7)) rfl dX4_findGroups_69 ?_
            refine z_iload C0 dX4_findGroups_72 (lv_at hl 5 rfl) ?_
            obtain ⟨g47, hf⟩ := zg_some hf
            refine z_iald C0 hP 7 rfl (Nat.le_of_ble_eq_true rfl) g47 dX4_findGroups_74 ?_
            refine z_ishr C0 dX4_findGroups_75 ?_
            refine z_iconst C0 dX4_findGroups_76 ?_
            refine z_iand C0 dX4_findGroups_77 ?_
            refine z_iconst C0 dX4_findGroups_78 ?_
            obtain ⟨r48, hE53, hf⟩ := zbind hf
            have J49 : ∀ (H : Heap) (locs : List Loc), va_P D vwCl ((wM h cI cZ lagV deadV mannerV settingV leastOfV mostOfV keptV planeOfV momentOfV stripOfV lateV isOverV r1.1 r1.2 k24 k25 k26 groupOfV groupsV shutV firstOfV agreesV agreeSetV missedV bestAV bestBV bestAgreesV bestMissedV)) H → va_S A s.heap H locs → ∀ ls : Array Slot, lv_has ls 6 [(0, .ref (h 0)), (1, .int (zI p1)), (2, .int (zI p2)), (3, .int (zI r3)), (4, .int (zI i9))] → W p l e rmX4_findGroups s m args below meth c H locs 0 0 Q (F0 m 87 ls [.int (zI r48), .int (zI v41), .ref (h 0)]) := by
              intro H locs hP hS ls hl
              refine z_iadd C0 dX4_findGroups_87 ?_
              refine z_iload C0 dX4_findGroups_88 (lv_at hl 4 rfl) ?_
              obtain ⟨r50, hc51, hf⟩ := zbind hf
              refine z_callFv (rest := []) C0 hP (zD hD rfl) hS (zmX4_comesByTime l D cI cZ h _ lagV deadV mannerV settingV leastOfV mostOfV keptV planeOfV momentOfV stripOfV lateV isOverV r1.1 r1.2 k24 k25 k26 groupOfV groupsV shutV firstOfV agreesV agreeSetV missedV bestAV bestBV bestAgreesV bestMissedV (v41 + r48) i9 r50 hc51) (zkX4_110 ⟨by decide, by decide⟩ C0.2.2.2.2.1) 4 rfl rfl rfl rfl hl.1 (Nat.le_of_ble_eq_true rfl) dX4_findGroups_90 ⟨Nat.zero_le _, Nat.zero_le _⟩ (fun H locs hP hS => ?_)
              have hP : va_P D vwCl ((wM h cI cZ lagV deadV mannerV settingV leastOfV mostOfV keptV planeOfV momentOfV stripOfV lateV isOverV r1.1 r1.2 r50.1 r50.2.1 r50.2.2 groupOfV groupsV shutV firstOfV agreesV agreeSetV missedV bestAV bestBV bestAgreesV bestMissedV)) H := hP
              cases hf
              exact J44 _ _ hP hS ls (lv_sub hl [0, 1, 2, 3, 4] rfl)
            have hf := hE53
            refine z_icmpne C0 86 dX4_findGroups_79 (by decide) (fun c52 => ?_) (fun c52 => ?_)
            · have hf := zif_neg hf c52
              refine z_iconst C0 dX4_findGroups_86 ?_
              cases hf
              exact J49 _ _ hP hS ls (lv_sub hl [1, 2, 3, 4, 5] rfl)
            · have hf := zif_pos hf c52
              refine z_iload_n C0 dX4_findGroups_82 rfl (lv_at hl 3 rfl) ?_
              refine z_goto C0 87 dX4_findGroups_83 (by decide) ?_
              cases hf
              exact J49 _ _ hP hS ls (lv_sub hl [1, 2, 3, 4, 5] rfl)
  obtain ⟨r59, hE60, hf⟩ := zbind hf
  refine L58 _ 0 0 timeOfV pulseOfV r59 hE60 ?_ _ _ hP hS ls (lv_sub hl [2, 3, 4, 1, 0] rfl)
  intro H locs hP hS ls hl
  refine z_aload_n C0 dX4_findGroups_99 rfl (lv_at hl 0 rfl) ?_
  refine z_iconst C0 dX4_findGroups_100 ?_
  refine zpX4_114 C0 hP (zD hD rfl) hS 0 rfl (Nat.le_of_ble_eq_true rfl) dX4_findGroups_101 (fun H locs hP hS => ?_)
  have hP : va_P D vwCl ((wM h cI cZ lagV deadV mannerV settingV leastOfV mostOfV keptV planeOfV momentOfV stripOfV lateV isOverV r1.1 r1.2 r59.1 r59.2.1 r59.2.2 groupOfV 0 shutV firstOfV agreesV agreeSetV missedV bestAV bestBV bestAgreesV bestMissedV)) H := hP
  refine z_aload_n C0 dX4_findGroups_104 rfl (lv_at hl 0 rfl) ?_
  refine z_iconst C0 dX4_findGroups_105 ?_
  refine zpX4_117 C0 hP (zD hD rfl) hS 0 rfl (Nat.le_of_ble_eq_true rfl) dX4_findGroups_106 (fun H locs hP hS => ?_)
  have hP : va_P D vwCl ((wM h cI cZ lagV deadV mannerV settingV leastOfV mostOfV keptV planeOfV momentOfV stripOfV lateV isOverV r1.1 r1.2 r59.1 r59.2.1 r59.2.2 groupOfV 0 0 firstOfV agreesV agreeSetV missedV bestAV bestBV bestAgreesV bestMissedV)) H := hP
  refine z_iconst C0 dX4_findGroups_109 ?_
  refine z_istore C0 [(4, .int (zI 0)), (0, .ref (h 0))] dX4_findGroups_110 hl (by decide) rfl (fun ls hl => ?_)
  have L120 : ∀ (zn : Nat) (i62 : Int) (k80 : (Nat → Int)) (k81 : Int) (k82 : Int) (k83 : (Nat → Int)) (out : (Nat → Int) × Int × Int × (Nat → Int)), fX4_findGroups_L112 zn (zk_M lagV deadV mannerV settingV leastOfV mostOfV keptV planeOfV momentOfV stripOfV lateV isOverV isLiveV endOfV knownV timeOfV pulseOfV groupOfV groupsV shutV firstOfV agreesV agreeSetV missedV bestAV bestBV bestAgreesV bestMissedV) r1.1 r1.2 r59.1 r59.2.1 r59.2.2 i62 k80 k81 k82 k83 = some out → (∀ (H : Heap) (locs : List Loc), va_P D vwCl ((wM h cI cZ lagV deadV mannerV settingV leastOfV mostOfV keptV planeOfV momentOfV stripOfV lateV isOverV r1.1 r1.2 r59.1 r59.2.1 r59.2.2 out.1 out.2.1 out.2.2.1 out.2.2.2 agreesV agreeSetV missedV bestAV bestBV bestAgreesV bestMissedV)) H → va_S A s.heap H locs → ∀ ls : Array Slot, lv_has ls 6 [] → W p l e rmX4_findGroups s m args below meth c H locs 0 0 Q (F0 m 236 ls [])) → ∀ (H : Heap) (locs : List Loc), va_P D vwCl ((wM h cI cZ lagV deadV mannerV settingV leastOfV mostOfV keptV planeOfV momentOfV stripOfV lateV isOverV r1.1 r1.2 r59.1 r59.2.1 r59.2.2 k80 k81 k82 k83 agreesV agreeSetV missedV bestAV bestBV bestAgreesV bestMissedV)) H → va_S A s.heap H locs → ∀ ls : Array Slot, lv_has ls 6 [(0, .ref (h 0)), (4, .int (zI i62))] → W p l e rmX4_findGroups s m args below meth c H locs 0 0 Q (F0 m 112 ls []) := by
    intro zn
    induction zn with
    | zero =>
      intro i62 k80 k81 k82 k83 out hf
      rw [fX4_findGroups_L112_z] at hf
      cases hf
    | succ zn ih =>
      intro i62 k80 k81 k82 k83 out hf K H locs hP hS ls hl
      rw [fX4_findGroups_L112_s] at hf
      refine z_iload C0 dX4_findGroups_112 (lv_at hl 1 rfl) ?_
      refine z_aload_n C0 dX4_findGroups_114 rfl (lv_at hl 0 rfl) ?_
      refine zgX4_101 C0 hP 0 rfl (.int (zI r59.1)) rfl dX4_findGroups_115 ?_
      refine z_icmpge C0 236 dX4_findGroups_118 (by decide) (fun c119 => ?_) (fun c119 => ?_)
      · have hf := zif_pos hf c119
        cases hf
        exact K _ _ hP hS ls (lv_sub hl [] rfl)
      · have hf := zif_neg hf c119
        refine z_aload_n C0 dX4_findGroups_121 rfl (lv_at hl 0 rfl) ?_
        refine zgX4_114 C0 hP 0 rfl (.int (zI k81)) rfl dX4_findGroups_122 ?_
        obtain ⟨r91, hE118, hf⟩ := zbind hf
        have J92 : ∀ (H : Heap) (locs : List Loc), va_P D vwCl ((wM h cI cZ lagV deadV mannerV settingV leastOfV mostOfV keptV planeOfV momentOfV stripOfV lateV isOverV r1.1 r1.2 r59.1 r59.2.1 r59.2.2 k80 r91.1 r91.2.1 r91.2.2 agreesV agreeSetV missedV bestAV bestBV bestAgreesV bestMissedV)) H → va_S A s.heap H locs → ∀ ls : Array Slot, lv_has ls 6 [(0, .ref (h 0)), (4, .int (zI i62))] → W p l e rmX4_findGroups s m args below meth c H locs 0 0 Q (F0 m 217 ls []) := by
          intro H locs hP hS ls hl
          refine z_aload_n C0 dX4_findGroups_217 rfl (lv_at hl 0 rfl) ?_
          refine zgX4_50 C0 hP 0 rfl (.ref (h 14)) rfl dX4_findGroups_218 ?_
          refine z_iload C0 dX4_findGroups_221 (lv_at hl 1 rfl) ?_
          refine z_aload_n C0 dX4_findGroups_223 rfl (lv_at hl 0 rfl) ?_
          refine zgX4_114 C0 hP 0 rfl (.int (zI r91.1)) rfl dX4_findGroups_224 ?_
          refine z_iconst C0 dX4_findGroups_227 ?_
          refine z_isub C0 dX4_findGroups_228 ?_
          obtain ⟨g93, hf⟩ := zg_some hf
          refine z_iast C0 hP (zD hD rfl) hS 14 rfl (Nat.le_of_ble_eq_true rfl) g93 dX4_findGroups_229 (fun H locs hP hS => ?_)
          have hP : va_P D vwCl ((wM h cI cZ lagV deadV mannerV settingV leastOfV mostOfV keptV planeOfV momentOfV stripOfV lateV isOverV r1.1 r1.2 r59.1 r59.2.1 r59.2.2 (zu k80 i62 (r91.1 - 1)) r91.1 r91.2.1 r91.2.2 agreesV agreeSetV missedV bestAV bestBV bestAgreesV bestMissedV)) H := hP
          refine z_iinc C0 [(4, .int (zI (i62 + 1))), (0, .ref (h 0))] dX4_findGroups_230 hl 1 rfl (by decide) rfl (fun ls hl => ?_)
          refine z_goto C0 112 dX4_findGroups_233 (by decide) ?_
          exact ih (i62 + 1) (zu k80 i62 (r91.1 - 1)) r91.1 r91.2.1 r91.2.2 out hf K _ _ hP hS ls (lv_sub hl [1, 0] rfl)
        have hf := hE118
        refine z_ifeq C0 161 dX4_findGroups_125 (by decide) (fun c117 => ?_) (fun c117 => ?_)
        · have hf := zif_pos hf c117
          refine z_aload_n C0 dX4_findGroups_161 rfl (lv_at hl 0 rfl) ?_
          refine zgX4_53 C0 hP 0 rfl (.ref (h 15)) rfl dX4_findGroups_162 ?_
          refine z_aload_n C0 dX4_findGroups_165 rfl (lv_at hl 0 rfl) ?_
          refine zgX4_114 C0 hP 0 rfl (.int (zI k81)) rfl dX4_findGroups_166 ?_
          refine z_iload C0 dX4_findGroups_169 (lv_at hl 1 rfl) ?_
          obtain ⟨g94, hf⟩ := zg_some hf
          refine z_iast C0 hP (zD hD rfl) hS 15 rfl (Nat.le_of_ble_eq_true rfl) g94 dX4_findGroups_171 (fun H locs hP hS => ?_)
          have hP : va_P D vwCl ((wM h cI cZ lagV deadV mannerV settingV leastOfV mostOfV keptV planeOfV momentOfV stripOfV lateV isOverV r1.1 r1.2 r59.1 r59.2.1 r59.2.2 k80 k81 k82 (zu k83 k81 i62) agreesV agreeSetV missedV bestAV bestBV bestAgreesV bestMissedV)) H := hP
          refine z_aload_n C0 dX4_findGroups_172 rfl (lv_at hl 0 rfl) ?_
          refine z_dup C0 dX4_findGroups_173 rfl ?_
          refine zgX4_114 C0 hP 0 rfl (.int (zI k81)) rfl dX4_findGroups_174 ?_
          refine z_iconst C0 dX4_findGroups_177 ?_
          refine z_iadd C0 dX4_findGroups_178 ?_
          refine zpX4_114 C0 hP (zD hD rfl) hS 0 rfl (Nat.le_of_ble_eq_true rfl) dX4_findGroups_179 (fun H locs hP hS => ?_)
          have hP : va_P D vwCl ((wM h cI cZ lagV deadV mannerV settingV leastOfV mostOfV keptV planeOfV momentOfV stripOfV lateV isOverV r1.1 r1.2 r59.1 r59.2.1 r59.2.2 k80 (k81 + 1) k82 (zu k83 k81 i62) agreesV agreeSetV missedV bestAV bestBV bestAgreesV bestMissedV)) H := hP
          refine z_aload_n C0 dX4_findGroups_182 rfl (lv_at hl 0 rfl) ?_
          refine z_dup C0 dX4_findGroups_183 rfl ?_
          refine zgX4_117 C0 hP 0 rfl (.int (zI k82)) rfl dX4_findGroups_184 ?_
          refine z_aload_n C0 dX4_findGroups_187 rfl (lv_at hl 0 rfl) ?_
          refine zgX4_44 C0 hP 0 rfl (.ref (h 12)) rfl dX4_findGroups_188 ?_
          refine z_iload C0 dX4_findGroups_191 (lv_at hl 1 rfl) ?_
          obtain ⟨g95, hf⟩ := zg_some hf
          refine z_iald C0 hP 12 rfl (Nat.le_of_ble_eq_true rfl) g95 dX4_findGroups_193 ?_
          refine z_aload_n C0 dX4_findGroups_194 rfl (lv_at hl 0 rfl) ?_
          refine zgX4_19 C0 hP 0 rfl (.ref (h 4)) rfl dX4_findGroups_195 ?_
          refine z_iconst C0 dX4_findGroups_198 ?_
          obtain ⟨g96, hf⟩ := zg_some hf
          refine z_iald C0 hP 4 rfl (Nat.le_of_ble_eq_true rfl) g96 dX4_findGroups_199 ?_
          refine z_iadd C0 dX4_findGroups_200 ?_
          refine z_aload_n C0 dX4_findGroups_201 rfl (lv_at hl 0 rfl) ?_
          obtain ⟨r97, hc98, hf⟩ := zbind hf
          refine z_callFi (rest := [.int (zI ((r59.2.1 (Int.toNat i62)) + (settingV (Int.toNat 1)))), .int (zI k82), .ref (h 0)]) C0 hP (zD hD rfl) hS (zmX4_edge l D cI cZ h _ lagV deadV mannerV settingV leastOfV mostOfV keptV planeOfV momentOfV stripOfV lateV isOverV r1.1 r1.2 r59.1 r59.2.1 r59.2.2 k80 (k81 + 1) k82 (zu k83 k81 i62) agreesV agreeSetV missedV bestAV bestBV bestAgreesV bestMissedV r97 hc98) (zkX4_107 ⟨by decide, by decide⟩ C0.2.2.2.2.1) 4 rfl rfl rfl rfl hl.1 (Nat.le_of_ble_eq_true rfl) dX4_findGroups_202 ⟨Nat.zero_le _, Nat.zero_le _⟩ (fun H locs hP hS => ?_)
          have hP : va_P D vwCl ((wM h cI cZ lagV deadV mannerV settingV leastOfV mostOfV keptV planeOfV momentOfV stripOfV lateV isOverV r1.1 r1.2 r59.1 r59.2.1 r59.2.2 k80 (k81 + 1) k82 (zu k83 k81 i62) agreesV agreeSetV missedV bestAV bestBV bestAgreesV bestMissedV)) H := hP
          obtain ⟨r99, hE102, hf⟩ := zbind hf
          have J100 : ∀ (H : Heap) (locs : List Loc), va_P D vwCl ((wM h cI cZ lagV deadV mannerV settingV leastOfV mostOfV keptV planeOfV momentOfV stripOfV lateV isOverV r1.1 r1.2 r59.1 r59.2.1 r59.2.2 k80 (k81 + 1) k82 (zu k83 k81 i62) agreesV agreeSetV missedV bestAV bestBV bestAgreesV bestMissedV)) H → va_S A s.heap H locs → ∀ ls : Array Slot, lv_has ls 6 [(0, .ref (h 0)), (4, .int (zI i62))] → W p l e rmX4_findGroups s m args below meth c H locs 0 0 Q (F0 m 213 ls [.int (zI r99), .int (zI k82), .ref (h 0)]) := by
            intro H locs hP hS ls hl
            refine z_iadd C0 dX4_findGroups_213 ?_
            refine zpX4_117 C0 hP (zD hD rfl) hS 0 rfl (Nat.le_of_ble_eq_true rfl) dX4_findGroups_214 (fun H locs hP hS => ?_)
            have hP : va_P D vwCl ((wM h cI cZ lagV deadV mannerV settingV leastOfV mostOfV keptV planeOfV momentOfV stripOfV lateV isOverV r1.1 r1.2 r59.1 r59.2.1 r59.2.2 k80 (k81 + 1) (k82 + r99) (zu k83 k81 i62) agreesV agreeSetV missedV bestAV bestBV bestAgreesV bestMissedV)) H := hP
            cases hf
            exact J92 _ _ hP hS ls (lv_sub hl [0, 1] rfl)
          have hf := hE102
          refine z_icmpge C0 212 dX4_findGroups_205 (by decide) (fun c101 => ?_) (fun c101 => ?_)
          · have hf := zif_pos hf c101
            refine z_iconst C0 dX4_findGroups_212 ?_
            cases hf
            exact J100 _ _ hP hS ls (lv_sub hl [0, 1] rfl)
          · have hf := zif_neg hf c101
            refine z_iconst C0 dX4_findGroups_208 ?_
            refine z_goto C0 213 dX4_findGroups_209 (by decide) ?_
            cases hf
            exact J100 _ _ hP hS ls (lv_sub hl [0, 1] rfl)
        · have hf := zif_neg hf c117
          refine z_aload_n C0 dX4_findGroups_128 rfl (lv_at hl 0 rfl) ?_
          refine zgX4_44 C0 hP 0 rfl (.ref (h 12)) rfl dX4_findGroups_129 ?_
          refine z_iload C0 dX4_findGroups_132 (lv_at hl 1 rfl) ?_
          obtain ⟨g103, hf⟩ := zg_some hf
          refine z_iald C0 hP 12 rfl (Nat.le_of_ble_eq_true rfl) g103 dX4_findGroups_134 ?_
          refine z_aload_n C0 dX4_findGroups_135 rfl (lv_at hl 0 rfl) ?_
          refine zgX4_44 C0 hP 0 rfl (.ref (h 12)) rfl dX4_findGroups_136 ?_
          refine z_aload_n C0 dX4_findGroups_139 rfl (lv_at hl 0 rfl) ?_
          refine zgX4_53 C0 hP 0 rfl (.ref (h 15)) rfl dX4_findGroups_140 ?_
          refine z_aload_n C0 dX4_findGroups_143 rfl (lv_at hl 0 rfl) ?_
          refine zgX4_114 C0 hP 0 rfl (.int (zI k81)) rfl dX4_findGroups_144 ?_
          refine z_iconst C0 dX4_findGroups_147 ?_
          refine z_isub C0 dX4_findGroups_148 ?_
          obtain ⟨g104, hf⟩ := zg_some hf
          refine z_iald C0 hP 15 rfl (Nat.le_of_ble_eq_true rfl) g104 dX4_findGroups_149 ?_
          obtain ⟨g105, hf⟩ := zg_some hf
          refine z_iald C0 hP 12 rfl (Nat.le_of_ble_eq_true rfl) g105 dX4_findGroups_150 ?_
          refine z_aload_n C0 dX4_findGroups_151 rfl (lv_at hl 0 rfl) ?_
          refine zgX4_19 C0 hP 0 rfl (.ref (h 4)) rfl dX4_findGroups_152 ?_
          refine z_iconst C0 dX4_findGroups_155 ?_
          obtain ⟨g106, hf⟩ := zg_some hf
          refine z_iald C0 hP 4 rfl (Nat.le_of_ble_eq_true rfl) g106 dX4_findGroups_156 ?_
          refine z_iadd C0 dX4_findGroups_157 ?_
          refine z_icmple C0 217 dX4_findGroups_158 (by decide) (fun c116 => ?_) (fun c116 => ?_)
          · have hf := zif_pos hf c116
            cases hf
            exact J92 _ _ hP hS ls (lv_sub hl [0, 1] rfl)
          · have hf := zif_neg hf c116
            refine z_aload_n C0 dX4_findGroups_161 rfl (lv_at hl 0 rfl) ?_
            refine zgX4_53 C0 hP 0 rfl (.ref (h 15)) rfl dX4_findGroups_162 ?_
            refine z_aload_n C0 dX4_findGroups_165 rfl (lv_at hl 0 rfl) ?_
            refine zgX4_114 C0 hP 0 rfl (.int (zI k81)) rfl dX4_findGroups_166 ?_
            refine z_iload C0 dX4_findGroups_169 (lv_at hl 1 rfl) ?_
            obtain ⟨g107, hf⟩ := zg_some hf
            refine z_iast C0 hP (zD hD rfl) hS 15 rfl (Nat.le_of_ble_eq_true rfl) g107 dX4_findGroups_171 (fun H locs hP hS => ?_)
            have hP : va_P D vwCl ((wM h cI cZ lagV deadV mannerV settingV leastOfV mostOfV keptV planeOfV momentOfV stripOfV lateV isOverV r1.1 r1.2 r59.1 r59.2.1 r59.2.2 k80 k81 k82 (zu k83 k81 i62) agreesV agreeSetV missedV bestAV bestBV bestAgreesV bestMissedV)) H := hP
            refine z_aload_n C0 dX4_findGroups_172 rfl (lv_at hl 0 rfl) ?_
            refine z_dup C0 dX4_findGroups_173 rfl ?_
            refine zgX4_114 C0 hP 0 rfl (.int (zI k81)) rfl dX4_findGroups_174 ?_
            refine z_iconst C0 dX4_findGroups_177 ?_
            refine z_iadd C0 dX4_findGroups_178 ?_
            refine zpX4_114 C0 hP (zD hD rfl) hS 0 rfl (Nat.le_of_ble_eq_true rfl) dX4_findGroups_179 (fun H locs hP hS => ?_)
            have hP : va_P D vwCl ((wM h cI cZ lagV deadV mannerV settingV leastOfV mostOfV keptV planeOfV momentOfV stripOfV lateV isOverV r1.1 r1.2 r59.1 r59.2.1 r59.2.2 k80 (k81 + 1) k82 (zu k83 k81 i62) agreesV agreeSetV missedV bestAV bestBV bestAgreesV bestMissedV)) H := hP
            refine z_aload_n C0 dX4_findGroups_182 rfl (lv_at hl 0 rfl) ?_
            refine z_dup C0 dX4_findGroups_183 rfl ?_
            refine zgX4_117 C0 hP 0 rfl (.int (zI k82)) rfl dX4_findGroups_184 ?_
            refine z_aload_n C0 dX4_findGroups_187 rfl (lv_at hl 0 rfl) ?_
            refine zgX4_44 C0 hP 0 rfl (.ref (h 12)) rfl dX4_findGroups_188 ?_
            refine z_iload C0 dX4_findGroups_191 (lv_at hl 1 rfl) ?_
            obtain ⟨g108, hf⟩ := zg_some hf
            refine z_iald C0 hP 12 rfl (Nat.le_of_ble_eq_true rfl) g108 dX4_findGroups_193 ?_
            refine z_aload_n C0 dX4_findGroups_194 rfl (lv_at hl 0 rfl) ?_
            refine zgX4_19 C0 hP 0 rfl (.ref (h 4)) rfl dX4_findGroups_195 ?_
            refine z_iconst C0 dX4_findGroups_198 ?_
            obtain ⟨g109, hf⟩ := zg_some hf
            refine z_iald C0 hP 4 rfl (Nat.le_of_ble_eq_true rfl) g109 dX4_findGroups_199 ?_
            refine z_iadd C0 dX4_findGroups_200 ?_
            refine z_aload_n C0 dX4_findGroups_201 rfl (lv_at hl 0 rfl) ?_
            obtain ⟨r110, hc111, hf⟩ := zbind hf
            refine z_callFi (rest := [.int (zI ((r59.2.1 (Int.toNat i62)) + (settingV (Int.toNat 1)))), .int (zI k82), .ref (h 0)]) C0 hP (zD hD rfl) hS (zmX4_edge l D cI cZ h _ lagV deadV mannerV settingV leastOfV mostOfV keptV planeOfV momentOfV stripOfV lateV isOverV r1.1 r1.2 r59.1 r59.2.1 r59.2.2 k80 (k81 + 1) k82 (zu k83 k81 i62) agreesV agreeSetV missedV bestAV bestBV bestAgreesV bestMissedV r110 hc111) (zkX4_107 ⟨by decide, by decide⟩ C0.2.2.2.2.1) 4 rfl rfl rfl rfl hl.1 (Nat.le_of_ble_eq_true rfl) dX4_findGroups_202 ⟨Nat.zero_le _, Nat.zero_le _⟩ (fun H locs hP hS => ?_)
            have hP : va_P D vwCl ((wM h cI cZ lagV deadV mannerV settingV leastOfV mostOfV keptV planeOfV momentOfV stripOfV lateV isOverV r1.1 r1.2 r59.1 r59.2.1 r59.2.2 k80 (k81 + 1) k82 (zu k83 k81 i62) agreesV agreeSetV missedV bestAV bestBV bestAgreesV bestMissedV)) H := hP
            obtain ⟨r112, hE115, hf⟩ := zbind hf
            have J113 : ∀ (H : Heap) (locs : List Loc), va_P D vwCl ((wM h cI cZ lagV deadV mannerV settingV leastOfV mostOfV keptV planeOfV momentOfV stripOfV lateV isOverV r1.1 r1.2 r59.1 r59.2.1 r59.2.2 k80 (k81 + 1) k82 (zu k83 k81 i62) agreesV agreeSetV missedV bestAV bestBV bestAgreesV bestMissedV)) H → va_S A s.heap H locs → ∀ ls : Array Slot, lv_has ls 6 [(0, .ref (h 0)), (4, .int (zI i62))] → W p l e rmX4_findGroups s m args below meth c H locs 0 0 Q (F0 m 213 ls [.int (zI r112), .int (zI k82), .ref (h 0)]) := by
              intro H locs hP hS ls hl
              refine z_iadd C0 dX4_findGroups_213 ?_
              refine zpX4_117 C0 hP (zD hD rfl) hS 0 rfl (Nat.le_of_ble_eq_true rfl) dX4_findGroups_214 (fun H locs hP hS => ?_)
              have hP : va_P D vwCl ((wM h cI cZ lagV deadV mannerV settingV leastOfV mostOfV keptV planeOfV momentOfV stripOfV lateV isOverV r1.1 r1.2 r59.1 r59.2.1 r59.2.2 k80 (k81 + 1) (k82 + r112) (zu k83 k81 i62) agreesV agreeSetV missedV bestAV bestBV bestAgreesV bestMissedV)) H := hP
              cases hf
              exact J92 _ _ hP hS ls (lv_sub hl [0, 1] rfl)
            have hf := hE115
            refine z_icmpge C0 212 dX4_findGroups_205 (by decide) (fun c114 => ?_) (fun c114 => ?_)
            · have hf := zif_pos hf c114
              refine z_iconst C0 dX4_findGroups_212 ?_
              cases hf
              exact J113 _ _ hP hS ls (lv_sub hl [0, 1] rfl)
            · have hf := zif_neg hf c114
              refine z_iconst C0 dX4_findGroups_208 ?_
              refine z_goto C0 213 dX4_findGroups_209 (by decide) ?_
              cases hf
              exact J113 _ _ hP hS ls (lv_sub hl [0, 1] rfl)
  obtain ⟨r121, hE122, hf⟩ := zbind hf
  refine L120 _ 0 groupOfV 0 0 firstOfV r121 hE122 ?_ _ _ hP hS ls (lv_sub hl [1, 0] rfl)
  intro H locs hP hS ls hl
  cases hf
  exact hret hP hS dX4_findGroups_236
