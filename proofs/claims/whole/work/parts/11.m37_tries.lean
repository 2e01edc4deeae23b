set_option maxHeartbeats 4000000 in
set_option maxRecDepth 100000 in
theorem zmX4_tries (l : Launch) (D : va_G) (cI cZ : ClassId) (h : Nat → Nat) (sz : Nat) (lagV : (Nat → Int)) (deadV : (Nat → Int)) (mannerV : (Nat → Int)) (settingV : (Nat → Int)) (leastOfV : (Nat → Int)) (mostOfV : (Nat → Int)) (keptV : Int) (planeOfV : (Nat → Int)) (momentOfV : (Nat → Int)) (stripOfV : (Nat → Int)) (lateV : Int) (isOverV : Int) (isLiveV : (Nat → Int)) (endOfV : (Nat → Int)) (knownV : Int) (timeOfV : (Nat → Int)) (pulseOfV : (Nat → Int)) (groupOfV : (Nat → Int)) (groupsV : Int) (shutV : Int) (firstOfV : (Nat → Int)) (agreesV : Int) (agreeSetV : Int) (missedV : Int) (bestAV : Int) (bestBV : Int) (bestAgreesV : Int) (bestMissedV : Int) (p1 : Int) (p2 : Int) (p3 : Int) (o : Int × Int × Int) (hf : fX4_tries (zk_M lagV deadV mannerV settingV leastOfV mostOfV keptV planeOfV momentOfV stripOfV lateV isOverV isLiveV endOfV knownV timeOfV pulseOfV groupOfV groupsV shutV firstOfV agreesV agreeSetV missedV bestAV bestBV bestAgreesV bestMissedV) p1 p2 p3 = some o) : Met l yX4_tries (zW yX4_tries cX4_tries 7 none) rmX4_tries (va_Pc [.ref (h 0), .int (zI p1), .int (zI p2), .int (zI p3)] (zPre D cI cZ ((wM h cI cZ lagV deadV mannerV settingV leastOfV mostOfV keptV planeOfV momentOfV stripOfV lateV isOverV isLiveV endOfV knownV timeOfV pulseOfV groupOfV groupsV shutV firstOfV agreesV agreeSetV missedV bestAV bestBV bestAgreesV bestMissedV)) sz)) (va_Qv (fun (_ : Unit) => True) (fun _ t => va_P D vwCl ((wM h cI cZ lagV deadV mannerV settingV leastOfV mostOfV keptV planeOfV momentOfV stripOfV lateV isOverV isLiveV endOfV knownV timeOfV pulseOfV groupOfV groupsV shutV firstOfV o.1 o.2.1 o.2.2 bestAV bestBV bestAgreesV bestMissedV)) t.heap) (va_A ((wM h cI cZ lagV deadV mannerV settingV leastOfV mostOfV keptV planeOfV momentOfV stripOfV lateV isOverV isLiveV endOfV knownV timeOfV pulseOfV groupOfV groupsV shutV firstOfV agreesV agreeSetV missedV bestAV bestBV bestAgreesV bestMissedV)) sz)) 0 0 (va_A ((wM h cI cZ lagV deadV mannerV settingV leastOfV mostOfV keptV planeOfV momentOfV stripOfV lateV isOverV isLiveV endOfV knownV timeOfV pulseOfV groupOfV groupsV shutV firstOfV agreesV agreeSetV missedV bestAV bestBV bestAgreesV bestMissedV)) sz) := by
  unfold fX4_tries at hf
  refine z_enter_v (own := RX4) (by decide +kernel) rfl (Nat.le_of_ble_eq_true rfl) ?_
  intro p e s m args below meth c A Q C0 hP hD hS hret ls hl
  have hl : lv_has ls 7 [(0, .ref (h 0)), (1, .int (zI p1)), (2, .int (zI p2)), (3, .int (zI p3))] := hl
  refine z_aload_n C0 dX4_tries_0 rfl (lv_at hl 0 rfl) ?_
  refine z_iconst C0 dX4_tries_1 ?_
  refine zpX4_154 C0 hP (zD hD rfl) hS 0 rfl (Nat.le_of_ble_eq_true rfl) dX4_tries_2 (fun H locs hP hS => ?_)
  have hP : va_P D vwCl ((wM h cI cZ lagV deadV mannerV settingV leastOfV mostOfV keptV planeOfV momentOfV stripOfV lateV isOverV isLiveV endOfV knownV timeOfV pulseOfV groupOfV groupsV shutV firstOfV 0 agreeSetV missedV bestAV bestBV bestAgreesV bestMissedV)) H := hP
  refine z_aload_n C0 dX4_tries_5 rfl (lv_at hl 0 rfl) ?_
  refine z_iconst C0 dX4_tries_6 ?_
  refine zpX4_157 C0 hP (zD hD rfl) hS 0 rfl (Nat.le_of_ble_eq_true rfl) dX4_tries_7 (fun H locs hP hS => ?_)
  have hP : va_P D vwCl ((wM h cI cZ lagV deadV mannerV settingV leastOfV mostOfV keptV planeOfV momentOfV stripOfV lateV isOverV isLiveV endOfV knownV timeOfV pulseOfV groupOfV groupsV shutV firstOfV 0 0 missedV bestAV bestBV bestAgreesV bestMissedV)) H := hP
  refine z_aload_n C0 dX4_tries_10 rfl (lv_at hl 0 rfl) ?_
  refine z_iconst C0 dX4_tries_11 ?_
  refine zpX4_160 C0 hP (zD hD rfl) hS 0 rfl (Nat.le_of_ble_eq_true rfl) dX4_tries_12 (fun H locs hP hS => ?_)
  have hP : va_P D vwCl ((wM h cI cZ lagV deadV mannerV settingV leastOfV mostOfV keptV planeOfV momentOfV stripOfV lateV isOverV isLiveV endOfV knownV timeOfV pulseOfV groupOfV groupsV shutV firstOfV 0 0 0 bestAV bestBV bestAgreesV bestMissedV)) H := hP
  refine z_iconst C0 dX4_tries_15 ?_
  refine z_istore C0 [(4, .int (zI 0)), (0, .ref (h 0)), (1, .int (zI p1)), (2, .int (zI p2)), (3, .int (zI p3))] dX4_tries_16 hl (by decide) rfl (fun ls hl => ?_)
  have L53 : ∀ (zn : Nat) (i5 : Int) (k27 : Int) (k28 : Int) (k29 : Int) (out : Int × Int × Int), fX4_tries_L18 zn (zk_M lagV deadV mannerV settingV leastOfV mostOfV keptV planeOfV momentOfV stripOfV lateV isOverV isLiveV endOfV knownV timeOfV pulseOfV groupOfV groupsV shutV firstOfV agreesV agreeSetV missedV bestAV bestBV bestAgreesV bestMissedV) p1 p2 p3 i5 k27 k28 k29 = some out → (∀ (H : Heap) (locs : List Loc), va_P D vwCl ((wM h cI cZ lagV deadV mannerV settingV leastOfV mostOfV keptV planeOfV momentOfV stripOfV lateV isOverV isLiveV endOfV knownV timeOfV pulseOfV groupOfV groupsV shutV firstOfV out.1 out.2.1 out.2.2 bestAV bestBV bestAgreesV bestMissedV)) H → va_S A s.heap H locs → ∀ ls : Array Slot, lv_has ls 7 [] → W p l e rmX4_tries s m args below meth c H locs 0 0 Q (F0 m 139 ls [])) → ∀ (H : Heap) (locs : List Loc), va_P D vwCl ((wM h cI cZ lagV deadV mannerV settingV leastOfV mostOfV keptV planeOfV momentOfV stripOfV lateV isOverV isLiveV endOfV knownV timeOfV pulseOfV groupOfV groupsV shutV firstOfV k27 k28 k29 bestAV bestBV bestAgreesV bestMissedV)) H → va_S A s.heap H locs → ∀ ls : Array Slot, lv_has ls 7 [(0, .ref (h 0)), (1, .int (zI p1)), (2, .int (zI p2)), (3, .int (zI p3)), (4, .int (zI i5))] → W p l e rmX4_tries s m args below meth c H locs 0 0 Q (F0 m 18 ls []) := by
    intro zn
    induction zn with
    | zero =>
      intro i5 k27 k28 k29 out hf
      rw [fX4_tries_L18_z] at hf
      cases hf
    | succ zn ih =>
      intro i5 k27 k28 k29 out hf K H locs hP hS ls hl
      rw [fX4_tries_L18_s] at hf
      refine z_iload C0 dX4_tries_18 (lv_at hl 4 rfl) ?_
      refine z_bipush C0 dX4_tries_20 (by decide +kernel) ?_
      refine z_icmpge C0 139 dX4_tries_22 (by decide) (fun c52 => ?_) (fun c52 => ?_)
      · have hf := zif_pos hf c52
        cases hf
        exact K _ _ hP hS ls (lv_sub hl [] rfl)
      · have hf := zif_neg hf c52
        refine z_aload_n C0 dX4_tries_25 rfl (lv_at hl 0 rfl) ?_
        refine z_iload_n C0 dX4_tries_26 rfl (lv_at hl 1 rfl) ?_
        refine z_iload C0 dX4_tries_27 (lv_at hl 4 rfl) ?_
        obtain ⟨r34, hc35, hf⟩ := zbind hf
        refine z_callFi (rest := []) C0 hP (zD hD rfl) hS (zmX4_memberIn l D cI cZ h _ lagV deadV mannerV settingV leastOfV mostOfV keptV planeOfV momentOfV stripOfV lateV isOverV isLiveV endOfV knownV timeOfV pulseOfV groupOfV groupsV shutV firstOfV k27 k28 k29 bestAV bestBV bestAgreesV bestMissedV p1 i5 r34 hc35) (zkX4_135 ⟨by decide, by decide⟩ C0.2.2.2.2.1) 4 rfl rfl rfl rfl hl.1 (Nat.le_of_ble_eq_true rfl) dX4_tries_29 ⟨Nat.zero_le _, Nat.zero_le _⟩ (fun H locs hP hS => ?_)
        have hP : va_P D vwCl ((wM h cI cZ lagV deadV mannerV settingV leastOfV mostOfV keptV planeOfV momentOfV stripOfV lateV isOverV isLiveV endOfV knownV timeOfV pulseOfV groupOfV groupsV shutV firstOfV k27 k28 k29 bestAV bestBV bestAgreesV bestMissedV)) H := hP
        refine z_istore C0 [(5, .int (zI r34)), (0, .ref (h 0)), (1, .int (zI p1)), (2, .int (zI p2)), (3, .int (zI p3)), (4, .int (zI i5))] dX4_tries_32 hl (by decide) rfl (fun ls hl => ?_)
        refine z_iload C0 dX4_tries_34 (lv_at hl 0 rfl) ?_
        refine z_bipush C0 dX4_tries_36 (by decide +kernel) ?_
        obtain ⟨r36, hE51, hf⟩ := zbind hf
        have J37 : ∀ (H : Heap) (locs : List Loc), va_P D vwCl ((wM h cI cZ lagV deadV mannerV settingV leastOfV mostOfV keptV planeOfV momentOfV stripOfV lateV isOverV isLiveV endOfV knownV timeOfV pulseOfV groupOfV groupsV shutV firstOfV k27 k28 k29 bestAV bestBV bestAgreesV bestMissedV)) H → va_S A s.heap H locs → ∀ ls : Array Slot, lv_has ls 7 [(0, .ref (h 0)), (1, .int (zI p1)), (2, .int (zI p2)), (3, .int (zI p3)), (4, .int (zI i5)), (5, .int (zI r34))] → W p l e rmX4_tries s m args below meth c H locs 0 0 Q (F0 m 64 ls [.int (zI r36)]) := by
          intro H locs hP hS ls hl
          refine z_istore C0 [(6, .int (zI r36)), (0, .ref (h 0)), (1, .int (zI p1)), (2, .int (zI p2)), (3, .int (zI p3)), (4, .int (zI i5)), (5, .int (zI r34))] dX4_tries_64 hl (by decide) rfl (fun ls hl => ?_)
          refine z_iload C0 dX4_tries_66 (lv_at hl 0 rfl) ?_
          obtain ⟨r38, hE47, hf⟩ := zbind hf
          have J39 : ∀ (H : Heap) (locs : List Loc), va_P D vwCl ((wM h cI cZ lagV deadV mannerV settingV leastOfV mostOfV keptV planeOfV momentOfV stripOfV lateV isOverV isLiveV endOfV knownV timeOfV pulseOfV groupOfV groupsV shutV firstOfV k27 k28 k29 bestAV bestBV bestAgreesV bestMissedV)) H → va_S A s.heap H locs → ∀ ls : Array Slot, lv_has ls 7 [(0, .ref (h 0)), (1, .int (zI p1)), (2, .int (zI p2)), (3, .int (zI p3)), (4, .int (zI i5)), (5, .int (zI r34))] → W p l e rmX4_tries s m args below meth c H locs 0 0 Q (F0 m 79 ls [.int (zI r38)]) := by
            intro H locs hP hS ls hl
            refine z_istore C0 [(6, .int (zI r38)), (0, .ref (h 0)), (1, .int (zI p1)), (2, .int (zI p2)), (3, .int (zI p3)), (4, .int (zI i5)), (5, .int (zI r34))] dX4_tries_79 hl (by decide) rfl (fun ls hl => ?_)
            refine z_iload C0 dX4_tries_81 (lv_at hl 6 rfl) ?_
            refine z_bipush C0 dX4_tries_83 (by decide +kernel) ?_
            obtain ⟨r40, hE45, hf⟩ := zbind hf
            have J41 : ∀ (H : Heap) (locs : List Loc), va_P D vwCl ((wM h cI cZ lagV deadV mannerV settingV leastOfV mostOfV keptV planeOfV momentOfV stripOfV lateV isOverV isLiveV endOfV knownV timeOfV pulseOfV groupOfV groupsV shutV firstOfV r40.1 r40.2.1 r40.2.2 bestAV bestBV bestAgreesV bestMissedV)) H → va_S A s.heap H locs → ∀ ls : Array Slot, lv_has ls 7 [(0, .ref (h 0)), (1, .int (zI p1)), (2, .int (zI p2)), (3, .int (zI p3)), (4, .int (zI i5))] → W p l e rmX4_tries s m args below meth c H locs 0 0 Q (F0 m 133 ls []) := by
              intro H locs hP hS ls hl
              refine z_iinc C0 [(4, .int (zI (i5 + 1))), (0, .ref (h 0)), (1, .int (zI p1)), (2, .int (zI p2)), (3, .int (zI p3))] dX4_tries_133 hl 4 rfl (by decide) rfl (fun ls hl => ?_)
              refine z_goto C0 18 dX4_tries_136 (by decide) ?_
              exact ih (i5 + 1) r40.1 r40.2.1 r40.2.2 out hf K _ _ hP hS ls (lv_sub hl [1, 2, 3, 4, 0] rfl)
            have hf := hE45
            refine z_icmpeq C0 133 dX4_tries_85 (by decide) (fun c44 => ?_) (fun c44 => ?_)
            · have hf := zif_pos hf c44
              cases hf
              exact J41 _ _ hP hS ls (lv_sub hl [1, 2, 3, 4, 5] rfl)
            · have hf := zif_neg hf c44
              refine z_iload C0 dX4_tries_88 (lv_at hl 0 rfl) ?_
              refine z_aload_n C0 dX4_tries_90 rfl (lv_at hl 1 rfl) ?_
              refine zgX4_19 C0 hP 0 rfl (.ref (h 4)) rfl dX4_tries_91 ?_
              refine z_iconst C0 dX4_tries_94 ?_
              obtain ⟨g42, hf⟩ := zg_some hf
              refine z_iald C0 hP 4 rfl (Nat.le_of_ble_eq_true rfl) g42 dX4_tries_95 ?_
              refine z_icmpgt C0 133 dX4_tries_96 (by decide) (fun c43 => ?_) (fun c43 => ?_)
              · have hf := zif_pos hf c43
                cases hf
                exact J41 _ _ hP hS ls (lv_sub hl [1, 2, 3, 4, 5] rfl)
              · have hf := zif_neg hf c43
                refine z_aload_n C0 dX4_tries_99 rfl (lv_at hl 1 rfl) ?_
                refine z_dup C0 dX4_tries_100 rfl ?_
                refine zgX4_154 C0 hP 0 rfl (.int (zI k27)) rfl dX4_tries_101 ?_
                refine z_iconst C0 dX4_tries_104 ?_
                refine z_iadd C0 dX4_tries_105 ?_
                refine zpX4_154 C0 hP (zD hD rfl) hS 0 rfl (Nat.le_of_ble_eq_true rfl) dX4_tries_106 (fun H locs hP hS => ?_)
                have hP : va_P D vwCl ((wM h cI cZ lagV deadV mannerV settingV leastOfV mostOfV keptV planeOfV momentOfV stripOfV lateV isOverV isLiveV endOfV knownV timeOfV pulseOfV groupOfV groupsV shutV firstOfV (k27 + 1) k28 k29 bestAV bestBV bestAgreesV bestMissedV)) H := hP
                refine z_aload_n C0 dX4_tries_109 rfl (lv_at hl 1 rfl) ?_
                refine z_dup C0 dX4_tries_110 rfl ?_
                refine zgX4_157 C0 hP 0 rfl (.int (zI k28)) rfl dX4_tries_111 ?_
                refine z_iconst C0 dX4_tries_114 ?_
                refine z_iload C0 dX4_tries_115 (lv_at hl 5 rfl) ?_
                refine z_ishl C0 dX4_tries_117 ?_
                refine z_ior C0 dX4_tries_118 ?_
                refine zpX4_157 C0 hP (zD hD rfl) hS 0 rfl (Nat.le_of_ble_eq_true rfl) dX4_tries_119 (fun H locs hP hS => ?_)
                have hP : va_P D vwCl ((wM h cI cZ lagV deadV mannerV settingV leastOfV mostOfV keptV planeOfV momentOfV stripOfV lateV isOverV isLiveV endOfV knownV timeOfV pulseOfV groupOfV groupsV shutV firstOfV (k27 + 1) (zor k28 (zshl 1 i5)) k29 bestAV bestBV bestAgreesV bestMissedV)) H := hP
                refine z_aload_n C0 dX4_tries_122 rfl (lv_at hl 1 rfl) ?_
                refine z_dup C0 dX4_tries_123 rfl ?_
                refine zgX4_160 C0 hP 0 rfl (.int (zI k29)) rfl dX4_tries_124 ?_
                refine z_iload C0 dX4_tries_127 (lv_at hl 0 rfl) ?_
                refine z_iadd C0 dX4_tries_129 ?_
                refine zpX4_160 C0 hP (zD hD rfl) hS 0 rfl (Nat.le_of_ble_eq_true rfl) dX4_tries_130 (fun H locs hP hS => ?_)
                have hP : va_P D vwCl ((wM h cI cZ lagV deadV mannerV settingV leastOfV mostOfV keptV planeOfV momentOfV stripOfV lateV isOverV isLiveV endOfV knownV timeOfV pulseOfV groupOfV groupsV shutV firstOfV (k27 + 1) (zor k28 (zshl 1 i5)) (k29 + r38) bestAV bestBV bestAgreesV bestMissedV)) H := hP
                cases hf
                exact J41 _ _ hP hS ls (lv_sub hl [1, 2, 3, 4, 5] rfl)
          have hf := hE47
          refine z_ifge C0 77 dX4_tries_68 (by decide) (fun c46 => ?_) (fun c46 => ?_)
          · have hf := zif_pos hf c46
            refine z_iload C0 dX4_tries_77 (lv_at hl 0 rfl) ?_
            cases hf
            exact J39 _ _ hP hS ls (lv_sub hl [1, 2, 3, 4, 5, 6] rfl)
          · have hf := zif_neg hf c46
            refine z_iload C0 dX4_tries_71 (lv_at hl 0 rfl) ?_
            refine z_ineg C0 dX4_tries_73 ?_
            refine z_goto C0 79 dX4_tries_74 (by decide) ?_
            cases hf
            exact J39 _ _ hP hS ls (lv_sub hl [1, 2, 3, 4, 5, 6] rfl)
        have hf := hE51
        refine z_icmpne C0 45 dX4_tries_38 (by decide) (fun c50 => ?_) (fun c50 => ?_)
        · have hf := zif_neg hf c50
          refine z_aload_n C0 dX4_tries_45 rfl (lv_at hl 1 rfl) ?_
          refine zgX4_34 C0 hP 0 rfl (.ref (h 9)) rfl dX4_tries_46 ?_
          refine z_aload_n C0 dX4_tries_49 rfl (lv_at hl 1 rfl) ?_
          refine zgX4_47 C0 hP 0 rfl (.ref (h 13)) rfl dX4_tries_50 ?_
          refine z_iload C0 dX4_tries_53 (lv_at hl 0 rfl) ?_
          obtain ⟨g48, hf⟩ := zg_some hf
          refine z_iald C0 hP 13 rfl (Nat.le_of_ble_eq_true rfl) g48 dX4_tries_55 ?_
          obtain ⟨g49, hf⟩ := zg_some hf
          refine z_iald C0 hP 9 rfl (Nat.le_of_ble_eq_true rfl) g49 dX4_tries_56 ?_
          refine z_iload_n C0 dX4_tries_57 rfl (lv_at hl 3 rfl) ?_
          refine z_isub C0 dX4_tries_58 ?_
          refine z_iload_n C0 dX4_tries_59 rfl (lv_at hl 4 rfl) ?_
          refine z_iload C0 dX4_tries_60 (lv_at hl 5 rfl) ?_
          refine z_imul C0 dX4_tries_62 ?_
          refine z_isub C0 dX4_tries_63 ?_
          cases hf
          exact J37 _ _ hP hS ls (lv_sub hl [1, 2, 3, 4, 5, 0] rfl)
        · have hf := zif_pos hf c50
          refine z_iconst C0 dX4_tries_41 ?_
          refine z_goto C0 64 dX4_tries_42 (by decide) ?_
          cases hf
          exact J37 _ _ hP hS ls (lv_sub hl [1, 2, 3, 4, 5, 0] rfl)
  obtain ⟨r54, hE55, hf⟩ := zbind hf
  refine L53 _ 0 0 0 0 r54 hE55 ?_ _ _ hP hS ls (lv_sub hl [1, 2, 3, 4, 0] rfl)
  intro H locs hP hS ls hl
  cases hf
  exact hret hP hS dX4_tries_139
