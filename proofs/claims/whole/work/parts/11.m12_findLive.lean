set_option maxHeartbeats 4000000 in
set_option maxRecDepth 100000 in
theorem zmX4_findLive (l : Launch) (D : va_G) (cI cZ : ClassId) (h : Nat → Nat) (sz : Nat) (lagV : (Nat → Int)) (deadV : (Nat → Int)) (mannerV : (Nat → Int)) (settingV : (Nat → Int)) (leastOfV : (Nat → Int)) (mostOfV : (Nat → Int)) (keptV : Int) (planeOfV : (Nat → Int)) (momentOfV : (Nat → Int)) (stripOfV : (Nat → Int)) (lateV : Int) (isOverV : Int) (isLiveV : (Nat → Int)) (endOfV : (Nat → Int)) (knownV : Int) (timeOfV : (Nat → Int)) (pulseOfV : (Nat → Int)) (groupOfV : (Nat → Int)) (groupsV : Int) (shutV : Int) (firstOfV : (Nat → Int)) (agreesV : Int) (agreeSetV : Int) (missedV : Int) (bestAV : Int) (bestBV : Int) (bestAgreesV : Int) (bestMissedV : Int)  (o : (Nat → Int) × (Nat → Int)) (hf : fX4_findLive (zk_M lagV deadV mannerV settingV leastOfV mostOfV keptV planeOfV momentOfV stripOfV lateV isOverV isLiveV endOfV knownV timeOfV pulseOfV groupOfV groupsV shutV firstOfV agreesV agreeSetV missedV bestAV bestBV bestAgreesV bestMissedV) = some o) : Met l yX4_findLive (zW yX4_findLive cX4_findLive 4 none) rmX4_findLive (va_Pc [.ref (h 0)] (zPre D cI cZ ((wM h cI cZ lagV deadV mannerV settingV leastOfV mostOfV keptV planeOfV momentOfV stripOfV lateV isOverV isLiveV endOfV knownV timeOfV pulseOfV groupOfV groupsV shutV firstOfV agreesV agreeSetV missedV bestAV bestBV bestAgreesV bestMissedV)) sz)) (va_Qv (fun (_ : Unit) => True) (fun _ t => va_P D vwCl ((wM h cI cZ lagV deadV mannerV settingV leastOfV mostOfV keptV planeOfV momentOfV stripOfV lateV isOverV o.1 o.2 knownV timeOfV pulseOfV groupOfV groupsV shutV firstOfV agreesV agreeSetV missedV bestAV bestBV bestAgreesV bestMissedV)) t.heap) (va_A ((wM h cI cZ lagV deadV mannerV settingV leastOfV mostOfV keptV planeOfV momentOfV stripOfV lateV isOverV isLiveV endOfV knownV timeOfV pulseOfV groupOfV groupsV shutV firstOfV agreesV agreeSetV missedV bestAV bestBV bestAgreesV bestMissedV)) sz)) 0 0 (va_A ((wM h cI cZ lagV deadV mannerV settingV leastOfV mostOfV keptV planeOfV momentOfV stripOfV lateV isOverV isLiveV endOfV knownV timeOfV pulseOfV groupOfV groupsV shutV firstOfV agreesV agreeSetV missedV bestAV bestBV bestAgreesV bestMissedV)) sz) := by
  unfold fX4_findLive at hf
  refine z_enter_v (own := RX4) (by decide +kernel) rfl (Nat.le_of_ble_eq_true rfl) ?_
  intro p e s m args below meth c A Q C0 hP hD hS hret ls hl
  have hl : lv_has ls 4 [(0, .ref (h 0))] := hl
  refine z_iconst C0 dX4_findLive_0 ?_
  refine z_istore_n C0 [(1, .int (zI 0)), (0, .ref (h 0))] dX4_findLive_1 rfl hl (by decide) rfl (fun ls hl => ?_)
  have L33 : ∀ (zn : Nat) (i2 : Int) (k16 : (Nat → Int)) (out : (Nat → Int)), fX4_findLive_L2 zn (zk_M lagV deadV mannerV settingV leastOfV mostOfV keptV planeOfV momentOfV stripOfV lateV isOverV isLiveV endOfV knownV timeOfV pulseOfV groupOfV groupsV shutV firstOfV agreesV agreeSetV missedV bestAV bestBV bestAgreesV bestMissedV) i2 k16 = some out → (∀ (H : Heap) (locs : List Loc), va_P D vwCl ((wM h cI cZ lagV deadV mannerV settingV leastOfV mostOfV keptV planeOfV momentOfV stripOfV lateV isOverV isLiveV out knownV timeOfV pulseOfV groupOfV groupsV shutV firstOfV agreesV agreeSetV missedV bestAV bestBV bestAgreesV bestMissedV)) H → va_S A s.heap H locs → ∀ ls : Array Slot, lv_has ls 4 [(0, .ref (h 0))] → W p l e rmX4_findLive s m args below meth c H locs 0 0 Q (F0 m 21 ls [])) → ∀ (H : Heap) (locs : List Loc), va_P D vwCl ((wM h cI cZ lagV deadV mannerV settingV leastOfV mostOfV keptV planeOfV momentOfV stripOfV lateV isOverV isLiveV k16 knownV timeOfV pulseOfV groupOfV groupsV shutV firstOfV agreesV agreeSetV missedV bestAV bestBV bestAgreesV bestMissedV)) H → va_S A s.heap H locs → ∀ ls : Array Slot, lv_has ls 4 [(0, .ref (h 0)), (1, .int (zI i2))] → W p l e rmX4_findLive s m args below meth c H locs 0 0 Q (F0 m 2 ls []) := by
    intro zn
    induction zn with
    | zero =>
      intro i2 k16 out hf
      rw [fX4_findLive_L2_z] at hf
      cases hf
    | succ zn ih =>
      intro i2 k16 out hf K H locs hP hS ls hl
      rw [fX4_findLive_L2_s] at hf
      refine z_iload_n C0 dX4_findLive_2 rfl (lv_at hl 1 rfl) ?_
      refine z_bipush C0 dX4_findLive_3 (by decide +kernel) ?_
      refine z_icmpge C0 21 dX4_findLive_5 (by decide) (fun c32 => ?_) (fun c32 => ?_)
      · have hf := zif_pos hf c32
        cases hf
        exact K _ _ hP hS ls (lv_sub hl [0] rfl)
      · have hf := zif_neg hf c32
        refine z_aload_n C0 dX4_findLive_8 rfl (lv_at hl 0 rfl) ?_
        refine zgX4_41 C0 hP 0 rfl (.ref (h 11)) rfl dX4_findLive_9 ?_
        refine z_iload_n C0 dX4_findLive_12 rfl (lv_at hl 1 rfl) ?_
        refine z_iconst C0 dX4_findLive_13 ?_
        obtain ⟨g31, hf⟩ := zg_some hf
        refine z_iast C0 hP (zD hD rfl) hS 11 rfl (Nat.le_of_ble_eq_true rfl) g31 dX4_findLive_14 (fun H locs hP hS => ?_)
        have hP : va_P D vwCl ((wM h cI cZ lagV deadV mannerV settingV leastOfV mostOfV keptV planeOfV momentOfV stripOfV lateV isOverV isLiveV (zu k16 i2 0) knownV timeOfV pulseOfV groupOfV groupsV shutV firstOfV agreesV agreeSetV missedV bestAV bestBV bestAgreesV bestMissedV)) H := hP
        refine z_iinc C0 [(1, .int (zI (i2 + 1))), (0, .ref (h 0))] dX4_findLive_15 hl 1 rfl (by decide) rfl (fun ls hl => ?_)
        refine z_goto C0 2 dX4_findLive_18 (by decide) ?_
        exact ih (i2 + 1) (zu k16 i2 0) out hf K _ _ hP hS ls (lv_sub hl [1, 0] rfl)
  obtain ⟨r34, hE35, hf⟩ := zbind hf
  refine L33 _ 0 endOfV r34 hE35 ?_ _ _ hP hS ls (lv_sub hl [1, 0] rfl)
  intro H locs hP hS ls hl
  refine z_aload_n C0 dX4_findLive_21 rfl (lv_at hl 0 rfl) ?_
  obtain ⟨r36, hc37, hf⟩ := zbind hf
  refine z_callFi (rest := []) C0 hP (zD hD rfl) hS (zmX4_settled l D cI cZ h _ lagV deadV mannerV settingV leastOfV mostOfV keptV planeOfV momentOfV stripOfV lateV isOverV isLiveV r34 knownV timeOfV pulseOfV groupOfV groupsV shutV firstOfV agreesV agreeSetV missedV bestAV bestBV bestAgreesV bestMissedV r36 hc37) (zkX4_87 ⟨by decide, by decide⟩ C0.2.2.2.2.1) 4 rfl rfl rfl rfl hl.1 (Nat.le_of_ble_eq_true rfl) dX4_findLive_22 ⟨Nat.zero_le _, Nat.zero_le _⟩ (fun H locs hP hS => ?_)
  have hP : va_P D vwCl ((wM h cI cZ lagV deadV mannerV settingV leastOfV mostOfV keptV planeOfV momentOfV stripOfV lateV isOverV isLiveV r34 knownV timeOfV pulseOfV groupOfV groupsV shutV firstOfV agreesV agreeSetV missedV bestAV bestBV bestAgreesV bestMissedV)) H := hP
  refine z_istore_n C0 [(1, .int (zI r36)), (0, .ref (h 0))] dX4_findLive_25 rfl hl (by decide) rfl (fun ls hl => ?_)
  refine z_iconst C0 dX4_findLive_26 ?_
  refine z_istore_n C0 [(2, .int (zI 0)), (1, .int (zI r36)), (0, .ref (h 0))] dX4_findLive_27 rfl hl (by decide) rfl (fun ls hl => ?_)
  have L93 : ∀ (zn : Nat) (i40 : Int) (k53 : (Nat → Int)) (k54 : (Nat → Int)) (out : (Nat → Int) × (Nat → Int)), fX4_findLive_L28 zn (zk_M lagV deadV mannerV settingV leastOfV mostOfV keptV planeOfV momentOfV stripOfV lateV isOverV isLiveV endOfV knownV timeOfV pulseOfV groupOfV groupsV shutV firstOfV agreesV agreeSetV missedV bestAV bestBV bestAgreesV bestMissedV) r36 i40 k53 k54 = some out → (∀ (H : Heap) (locs : List Loc), va_P D vwCl ((wM h cI cZ lagV deadV mannerV settingV leastOfV mostOfV keptV planeOfV momentOfV stripOfV lateV isOverV out.1 out.2 knownV timeOfV pulseOfV groupOfV groupsV shutV firstOfV agreesV agreeSetV missedV bestAV bestBV bestAgreesV bestMissedV)) H → va_S A s.heap H locs → ∀ ls : Array Slot, lv_has ls 4 [] → W p l e rmX4_findLive s m args below meth c H locs 0 0 Q (F0 m 119 ls [])) → ∀ (H : Heap) (locs : List Loc), va_P D vwCl ((wM h cI cZ lagV deadV mannerV settingV leastOfV mostOfV keptV planeOfV momentOfV stripOfV lateV isOverV k53 k54 knownV timeOfV pulseOfV groupOfV groupsV shutV firstOfV agreesV agreeSetV missedV bestAV bestBV bestAgreesV bestMissedV)) H → va_S A s.heap H locs → ∀ ls : Array Slot, lv_has ls 4 [(0, .ref (h 0)), (1, .int (zI r36)), (2, .int (zI i40))] → W p l e rmX4_findLive s m args below meth c H locs 0 0 Q (F0 m 28 ls []) := by
    intro zn
    induction zn with
    | zero =>
      intro i40 k53 k54 out hf
      rw [fX4_findLive_L28_z] at hf
      cases hf
    | succ zn ih =>
      intro i40 k53 k54 out hf K H locs hP hS ls hl
      rw [fX4_findLive_L28_s] at hf
      refine z_iload_n C0 dX4_findLive_28 rfl (lv_at hl 2 rfl) ?_
      refine z_iload_n C0 dX4_findLive_29 rfl (lv_at hl 1 rfl) ?_
      refine z_icmpge C0 119 dX4_findLive_30 (by decide) (fun c92 => ?_) (fun c92 => ?_)
      · have hf := zif_pos hf c92
        cases hf
        exact K _ _ hP hS ls (lv_sub hl [] rfl)
      · have hf := zif_neg hf c92
        refine z_aload_n C0 dX4_findLive_33 rfl (lv_at hl 0 rfl) ?_
        refine zgX4_28 C0 hP 0 rfl (.ref (h 7)) rfl dX4_findLive_34 ?_
        refine z_iload_n C0 dX4_findLive_37 rfl (lv_at hl 2 rfl) ?_
        obtain ⟨g69, hf⟩ := zg_some hf
        refine z_iald C0 hP 7 rfl (Nat.le_of_ble_eq_true rfl) g69 dX4_findLive_38 ?_
        obtain ⟨v70, hv70, hf⟩ := zl_some hf
        refine z_name hv70 ?_
        refine z_istore_n C0 [(3, .int (zI v70)), (0, .ref (h 0)), (1, .int (zI r36)), (2, .int (zI i40))] dX4_findLive_39 rfl hl (by decide) rfl (fun ls hl => ?_)
        refine z_aload_n C0 dX4_findLive_40 rfl (lv_at hl 1 rfl) ?_
        refine zgX4_37 C0 hP 0 rfl (.ref (h 10)) rfl dX4_findLive_41 ?_
        refine z_iload_n C0 dX4_findLive_44 rfl (lv_at hl 3 rfl) ?_
        refine z_aload_n C0 dX4_findLive_45 rfl (lv_at hl 1 rfl) ?_
        refine zgX4_31 C0 hP 0 rfl (.ref (h 8)) rfl dX4_findLive_46 ?_
        refine z_iload_n C0 dX4_findLive_49 rfl (lv_at hl 3 rfl) ?_
        obtain ⟨g71, hf⟩ := zg_some hf
        refine z_iald C0 hP 8 rfl (Nat.le_of_ble_eq_true rfl) g71 dX4_findLive_50 ?_
        refine z_aload_n C0 dX4_findLive_51 rfl (lv_at hl 1 rfl) ?_
        refine zgX4_41 C0 hP 0 rfl (.ref (h 11)) rfl dX4_findLive_52 ?_
        refine z_iload_n C0 dX4_findLive_55 rfl (lv_at hl 0 rfl) ?_
        obtain ⟨g72, hf⟩ := zg_some hf
        refine z_iald C0 hP 11 rfl (Nat.le_of_ble_eq_true rfl) g72 dX4_findLive_56 ?_
        obtain ⟨r73, hE91, hf⟩ := zbind hf
        have J74 : ∀ (H : Heap) (locs : List Loc), va_P D vwCl ((wM h cI cZ lagV deadV mannerV settingV leastOfV mostOfV keptV planeOfV momentOfV stripOfV lateV isOverV k53 k54 knownV timeOfV pulseOfV groupOfV groupsV shutV firstOfV agreesV agreeSetV missedV bestAV bestBV bestAgreesV bestMissedV)) H → va_S A s.heap H locs → ∀ ls : Array Slot, lv_has ls 4 [(0, .ref (h 0)), (1, .int (zI r36)), (2, .int (zI i40)), (3, .int (zI v70))] → W p l e rmX4_findLive s m args below meth c H locs 0 0 Q (F0 m 65 ls [.int (zI r73), .int (zI i40), .ref (h 10)]) := by
          intro H locs hP hS ls hl
          obtain ⟨g75, hf⟩ := zg_some hf
          obtain ⟨g76, hf⟩ := zg_some hf
          refine z_zast C0 hP (zD hD rfl) hS 10 rfl (Nat.le_of_ble_eq_true rfl) g75 g76 dX4_findLive_65 (fun H locs hP hS => ?_)
          have hP : va_P D vwCl ((wM h cI cZ lagV deadV mannerV settingV leastOfV mostOfV keptV planeOfV momentOfV stripOfV lateV isOverV (zu k53 i40 r73) k54 knownV timeOfV pulseOfV groupOfV groupsV shutV firstOfV agreesV agreeSetV missedV bestAV bestBV bestAgreesV bestMissedV)) H := hP
          refine z_aload_n C0 dX4_findLive_66 rfl (lv_at hl 0 rfl) ?_
          refine zgX4_41 C0 hP 0 rfl (.ref (h 11)) rfl dX4_findLive_67 ?_
          refine z_iload_n C0 dX4_findLive_70 rfl (lv_at hl 3 rfl) ?_
          refine z_aload_n C0 dX4_findLive_71 rfl (lv_at hl 0 rfl) ?_
          refine zgX4_37 C0 hP 0 rfl (.ref (h 10)) rfl dX4_findLive_72 ?_
          refine z_iload_n C0 dX4_findLive_75 rfl (lv_at hl 2 rfl) ?_
          obtain ⟨g77, hf⟩ := zg_some hf
          refine z_zald C0 hP 10 rfl (Nat.le_of_ble_eq_true rfl) g77 dX4_findLive_76 ?_
          obtain ⟨r78, hE89, hf⟩ := zbind hf
          have J79 : ∀ (H : Heap) (locs : List Loc), va_P D vwCl ((wM h cI cZ lagV deadV mannerV settingV leastOfV mostOfV keptV planeOfV momentOfV stripOfV lateV isOverV (zu k53 i40 r73) k54 knownV timeOfV pulseOfV groupOfV groupsV shutV firstOfV agreesV agreeSetV missedV bestAV bestBV bestAgreesV bestMissedV)) H → va_S A s.heap H locs → ∀ ls : Array Slot, lv_has ls 4 [(0, .ref (h 0)), (1, .int (zI r36)), (2, .int (zI i40))] → W p l e rmX4_findLive s m args below meth c H locs 0 0 Q (F0 m 112 ls [.int (zI r78), .int (zI v70), .ref (h 11)]) := by
            intro H locs hP hS ls hl
            obtain ⟨g80, hf⟩ := zg_some hf
            refine z_iast C0 hP (zD hD rfl) hS 11 rfl (Nat.le_of_ble_eq_true rfl) g80 dX4_findLive_112 (fun H locs hP hS => ?_)
            have hP : va_P D vwCl ((wM h cI cZ lagV deadV mannerV settingV leastOfV mostOfV keptV planeOfV momentOfV stripOfV lateV isOverV (zu k53 i40 r73) (zu k54 v70 r78) knownV timeOfV pulseOfV groupOfV groupsV shutV firstOfV agreesV agreeSetV missedV bestAV bestBV bestAgreesV bestMissedV)) H := hP
            refine z_iinc C0 [(2, .int (zI (i40 + 1))), (0, .ref (h 0)), (1, .int (zI r36))] dX4_findLive_113 hl 2 rfl (by decide) rfl (fun ls hl => ?_)
            refine z_goto C0 28 dX4_findLive_116 (by decide) ?_
            exact ih (i40 + 1) (zu k53 i40 r73) (zu k54 v70 r78) out hf K _ _ hP hS ls (lv_sub hl [1, 2, 0] rfl)
          have hf := hE89
          refine z_ifne C0 90 dX4_findLive_77 (by decide) (fun c88 => ?_) (fun c88 => ?_)
          · have hf := zif_neg hf c88
            refine z_aload_n C0 dX4_findLive_90 rfl (lv_at hl 0 rfl) ?_
            refine zgX4_31 C0 hP 0 rfl (.ref (h 8)) rfl dX4_findLive_91 ?_
            refine z_iload_n C0 dX4_findLive_94 rfl (lv_at hl 2 rfl) ?_
            obtain ⟨g81, hf⟩ := zg_some hf
            refine z_iald C0 hP 8 rfl (Nat.le_of_ble_eq_true rfl) g81 dX4_findLive_95 ?_
            refine z_aload_n C0 dX4_findLive_96 rfl (lv_at hl 0 rfl) ?_
            refine zgX4_13 C0 hP 0 rfl (.ref (h 2)) rfl dX4_findLive_97 ?_
            refine z_iload_n C0 dX4_findLive_100 rfl (lv_at hl 3 rfl) ?_
            obtain ⟨g82, hf⟩ := zg_some hf
            refine z_iald C0 hP 2 rfl (Nat.le_of_ble_eq_true rfl) g82 dX4_findLive_101 ?_
            refine z_iadd C0 dX4_findLive_102 ?_
            refine z_goto C0 112 dX4_findLive_103 (by decide) ?_
            cases hf
            exact J79 _ _ hP hS ls (lv_sub hl [0, 1, 2] rfl)
          · have hf := zif_pos hf c88
            refine z_aload_n C0 dX4_findLive_80 rfl (lv_at hl 0 rfl) ?_
            refine zgX4_16 C0 hP 0 rfl (.ref (h 3)) rfl dX4_findLive_81 ?_
            refine z_iload_n C0 dX4_findLive_84 rfl (lv_at hl 3 rfl) ?_
            obtain ⟨g83, hf⟩ := zg_some hf
            refine z_iald C0 hP 3 rfl (Nat.le_of_ble_eq_true rfl) g83 dX4_findLive_85 ?_
            refine z_iconst C0 dX4_findLive_86 ?_
            refine z_icmpne C0 106 dX4_findLive_87 (by decide) (fun c87 => ?_) (fun c87 => ?_)
            · have hf := zif_neg hf c87
              refine z_aload_n C0 dX4_findLive_106 rfl (lv_at hl 0 rfl) ?_
              refine zgX4_41 C0 hP 0 rfl (.ref (h 11)) rfl dX4_findLive_107 ?_
              refine z_iload_n C0 dX4_findLive_110 rfl (lv_at hl 3 rfl) ?_
              obtain ⟨g84, hf⟩ := zg_some hf
              refine z_iald C0 hP 11 rfl (Nat.le_of_ble_eq_true rfl) g84 dX4_findLive_111 ?_
              cases hf
              exact J79 _ _ hP hS ls (lv_sub hl [0, 1, 2] rfl)
            · have hf := zif_pos hf c87
              refine z_aload_n C0 dX4_findLive_90 rfl (lv_at hl 0 rfl) ?_
              refine zgX4_31 C0 hP 0 rfl (.ref (h 8)) rfl dX4_findLive_91 ?_
              refine z_iload_n C0 dX4_findLive_94 rfl (lv_at hl 2 rfl) ?_
              obtain ⟨g85, hf⟩ := zg_some hf
              refine z_iald C0 hP 8 rfl (Nat.le_of_ble_eq_true rfl) g85 dX4_findLive_95 ?_
              refine z_aload_n C0 dX4_findLive_96 rfl (lv_at hl 0 rfl) ?_
              refine zgX4_13 C0 hP 0 rfl (.ref (h 2)) rfl dX4_findLive_97 ?_
              refine z_iload_n C0 dX4_findLive_100 rfl (lv_at hl 3 rfl) ?_
              obtain ⟨g86, hf⟩ := zg_some hf
              refine z_iald C0 hP 2 rfl (Nat.le_of_ble_eq_true rfl) g86 dX4_findLive_101 ?_
              refine z_iadd C0 dX4_findLive_102 ?_
              refine z_goto C0 112 dX4_findLive_103 (by decide) ?_
              cases hf
              exact J79 _ _ hP hS ls (lv_sub hl [0, 1, 2] rfl)
        have hf := hE91
        refine z_icmplt C0 64 dX4_findLive_57 (by decide) (fun c90 => ?_) (fun c90 => ?_)
        · have hf := zif_pos hf c90
          refine z_iconst C0 dX4_findLive_64 ?_
          cases hf
          exact J74 _ _ hP hS ls (lv_sub hl [1, 2, 3, 0] rfl)
        · have hf := zif_neg hf c90
          refine z_iconst C0 dX4_findLive_60 ?_
          refine z_goto C0 65 dX4_findLive_61 (by decide) ?_
          cases hf
          exact J74 _ _ hP hS ls (lv_sub hl [1, 2, 3, 0] rfl)
  obtain ⟨r94, hE95, hf⟩ := zbind hf
  refine L93 _ 0 isLiveV r34 r94 hE95 ?_ _ _ hP hS ls (lv_sub hl [2, 1, 0] rfl)
  intro H locs hP hS ls hl
  cases hf
  exact hret hP hS dX4_findLive_119
