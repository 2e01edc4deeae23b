set_option maxHeartbeats 4000000 in
set_option maxRecDepth 100000 in
theorem zmX4_twos (l : Launch) (D : va_G) (cI cZ : ClassId) (h : Nat → Nat) (sz : Nat) (lagV : (Nat → Int)) (deadV : (Nat → Int)) (mannerV : (Nat → Int)) (settingV : (Nat → Int)) (leastOfV : (Nat → Int)) (mostOfV : (Nat → Int)) (keptV : Int) (planeOfV : (Nat → Int)) (momentOfV : (Nat → Int)) (stripOfV : (Nat → Int)) (lateV : Int) (isOverV : Int) (isLiveV : (Nat → Int)) (endOfV : (Nat → Int)) (knownV : Int) (timeOfV : (Nat → Int)) (pulseOfV : (Nat → Int)) (groupOfV : (Nat → Int)) (groupsV : Int) (shutV : Int) (firstOfV : (Nat → Int)) (agreesV : Int) (agreeSetV : Int) (missedV : Int) (bestAV : Int) (bestBV : Int) (bestAgreesV : Int) (bestMissedV : Int) (p1 : Int) (p2 : Int) (p3 : Int) (o : Int × (Nat → Int) × (Nat → Int) × Int × (Nat → Int) × (Nat → Int) × (Nat → Int) × Int × Int × (Nat → Int)) (hf : fX4_twos (zk_M lagV deadV mannerV settingV leastOfV mostOfV keptV planeOfV momentOfV stripOfV lateV isOverV isLiveV endOfV knownV timeOfV pulseOfV groupOfV groupsV shutV firstOfV agreesV agreeSetV missedV bestAV bestBV bestAgreesV bestMissedV) p1 p2 p3 = some o) : Met l yX4_twos (zW yX4_twos cX4_twos 8 (some .int)) rmX4_twos (va_Pc [.ref (h 0), .int (zI p1), .int (zI p2), .int (zI p3)] (zPre D cI cZ ((wM h cI cZ lagV deadV mannerV settingV leastOfV mostOfV keptV planeOfV momentOfV stripOfV lateV isOverV isLiveV endOfV knownV timeOfV pulseOfV groupOfV groupsV shutV firstOfV agreesV agreeSetV missedV bestAV bestBV bestAgreesV bestMissedV)) sz)) (va_Qi (fun r' (_ : Unit) => r' = zI o.1) (fun _ t => va_P D vwCl ((wM h cI cZ lagV deadV mannerV settingV leastOfV mostOfV keptV planeOfV momentOfV stripOfV lateV isOverV o.2.1 o.2.2.1 o.2.2.2.1 o.2.2.2.2.1 o.2.2.2.2.2.1 o.2.2.2.2.2.2.1 o.2.2.2.2.2.2.2.1 o.2.2.2.2.2.2.2.2.1 o.2.2.2.2.2.2.2.2.2 agreesV agreeSetV missedV bestAV bestBV bestAgreesV bestMissedV)) t.heap) (va_A ((wM h cI cZ lagV deadV mannerV settingV leastOfV mostOfV keptV planeOfV momentOfV stripOfV lateV isOverV isLiveV endOfV knownV timeOfV pulseOfV groupOfV groupsV shutV firstOfV agreesV agreeSetV missedV bestAV bestBV bestAgreesV bestMissedV)) sz)) 0 0 (va_A ((wM h cI cZ lagV deadV mannerV settingV leastOfV mostOfV keptV planeOfV momentOfV stripOfV lateV isOverV isLiveV endOfV knownV timeOfV pulseOfV groupOfV groupsV shutV firstOfV agreesV agreeSetV missedV bestAV bestBV bestAgreesV bestMissedV)) sz) := by
  unfold fX4_twos at hf
  refine z_enter_i (own := RX4) (by decide +kernel) rfl (Nat.le_of_ble_eq_true rfl) ?_
  intro p e s m args below meth c A Q C0 hP hD hS hret ls hl
  have hl : lv_has ls 8 [(0, .ref (h 0)), (1, .int (zI p1)), (2, .int (zI p2)), (3, .int (zI p3))] := hl
  refine z_iload_n C0 dX4_twos_0 rfl (lv_at hl 1 rfl) ?_
  obtain ⟨r1, hc2, hf⟩ := zbind hf
  refine z_callSi (rest := []) C0 hP (zD hD rfl) hS [] rfl (zmX4_isPlane l D cI cZ _ p1 r1 hc2) (zkX4_68 ⟨by decide, by decide⟩ C0.2.2.2.2.1) rfl rfl rfl hl.1 (Nat.le_of_ble_eq_true rfl) dX4_twos_1 ⟨Nat.zero_le _, Nat.zero_le _⟩ rfl (Nat.le_of_ble_eq_true rfl) (fun H locs hP hS => ?_)
  have hP : va_P D vwCl ((wM h cI cZ lagV deadV mannerV settingV leastOfV mostOfV keptV planeOfV momentOfV stripOfV lateV isOverV isLiveV endOfV knownV timeOfV pulseOfV groupOfV groupsV shutV firstOfV agreesV agreeSetV missedV bestAV bestBV bestAgreesV bestMissedV)) H := hP
  refine z_ifeq C0 14 dX4_twos_4 (by decide) (fun c106 => ?_) (fun c106 => ?_)
  · have hf := zif_pos hf c106
    refine z_iconst C0 dX4_twos_14 ?_
    cases hf
    exact hret hP hS dX4_twos_15
  · have hf := zif_neg hf c106
    refine z_iload_n C0 dX4_twos_7 rfl (lv_at hl 2 rfl) ?_
    obtain ⟨r3, hc4, hf⟩ := zbind hf
    refine z_callSi (rest := []) C0 hP (zD hD rfl) hS [] rfl (zmX4_isPlane l D cI cZ _ p2 r3 hc4) (zkX4_68 ⟨by decide, by decide⟩ C0.2.2.2.2.1) rfl rfl rfl hl.1 (Nat.le_of_ble_eq_true rfl) dX4_twos_8 ⟨Nat.zero_le _, Nat.zero_le _⟩ rfl (Nat.le_of_ble_eq_true rfl) (fun H locs hP hS => ?_)
    have hP : va_P D vwCl ((wM h cI cZ lagV deadV mannerV settingV leastOfV mostOfV keptV planeOfV momentOfV stripOfV lateV isOverV isLiveV endOfV knownV timeOfV pulseOfV groupOfV groupsV shutV firstOfV agreesV agreeSetV missedV bestAV bestBV bestAgreesV bestMissedV)) H := hP
    refine z_ifne C0 16 dX4_twos_11 (by decide) (fun c105 => ?_) (fun c105 => ?_)
    · have hf := zif_neg hf c105
      refine z_iload_n C0 dX4_twos_16 rfl (lv_at hl 3 rfl) ?_
      refine z_sipush C0 dX4_twos_17 (by decide +kernel) ?_
      refine z_sipush C0 dX4_twos_20 (by decide +kernel) ?_
      obtain ⟨r5, hc6, hf⟩ := zbind hf
      refine z_callSi (rest := []) C0 hP (zD hD rfl) hS [] rfl (zmX4_within l D cI cZ _ p3 (-200) 200 r5 hc6) (zkX4_56 ⟨by decide, by decide⟩ C0.2.2.2.2.1) rfl rfl rfl hl.1 (Nat.le_of_ble_eq_true rfl) dX4_twos_23 ⟨Nat.zero_le _, Nat.zero_le _⟩ rfl (Nat.le_of_ble_eq_true rfl) (fun H locs hP hS => ?_)
      have hP : va_P D vwCl ((wM h cI cZ lagV deadV mannerV settingV leastOfV mostOfV keptV planeOfV momentOfV stripOfV lateV isOverV isLiveV endOfV knownV timeOfV pulseOfV groupOfV groupsV shutV firstOfV agreesV agreeSetV missedV bestAV bestBV bestAgreesV bestMissedV)) H := hP
      refine z_ifne C0 32 dX4_twos_26 (by decide) (fun c104 => ?_) (fun c104 => ?_)
      · have hf := zif_neg hf c104
        refine z_iload_n C0 dX4_twos_32 rfl (lv_at hl 1 rfl) ?_
        refine z_iload_n C0 dX4_twos_33 rfl (lv_at hl 2 rfl) ?_
        refine z_icmpne C0 40 dX4_twos_34 (by decide) (fun c103 => ?_) (fun c103 => ?_)
        · have hf := zif_neg hf c103
          refine z_aload_n C0 dX4_twos_40 rfl (lv_at hl 0 rfl) ?_
          refine z_iconst C0 dX4_twos_41 ?_
          refine z_iconst C0 dX4_twos_42 ?_
          obtain ⟨r7, hc8, hf⟩ := zbind hf
          refine z_callFv (rest := []) C0 hP (zD hD rfl) hS (zmX4_findGroups l D cI cZ h _ lagV deadV mannerV settingV leastOfV mostOfV keptV planeOfV momentOfV stripOfV lateV isOverV isLiveV endOfV knownV timeOfV pulseOfV groupOfV groupsV shutV firstOfV agreesV agreeSetV missedV bestAV bestBV bestAgreesV bestMissedV 0 0 r7 hc8) (zkX4_120 ⟨by decide, by decide⟩ C0.2.2.2.2.1) 4 rfl rfl rfl rfl hl.1 (Nat.le_of_ble_eq_true rfl) dX4_twos_43 ⟨Nat.zero_le _, Nat.zero_le _⟩ (fun H locs hP hS => ?_)
          have hP : va_P D vwCl ((wM h cI cZ lagV deadV mannerV settingV leastOfV mostOfV keptV planeOfV momentOfV stripOfV lateV isOverV r7.1 r7.2.1 r7.2.2.1 r7.2.2.2.1 r7.2.2.2.2.1 r7.2.2.2.2.2.1 r7.2.2.2.2.2.2.1 r7.2.2.2.2.2.2.2.1 r7.2.2.2.2.2.2.2.2 agreesV agreeSetV missedV bestAV bestBV bestAgreesV bestMissedV)) H := hP
          refine z_iconst C0 dX4_twos_46 ?_
          refine z_istore C0 [(4, .int (zI 0)), (0, .ref (h 0)), (1, .int (zI p1)), (2, .int (zI p2)), (3, .int (zI p3))] dX4_twos_47 hl (by decide) rfl (fun ls hl => ?_)
          refine z_iconst C0 dX4_twos_49 ?_
          refine z_istore C0 [(5, .int (zI 0)), (4, .int (zI 0)), (0, .ref (h 0)), (1, .int (zI p1)), (2, .int (zI p2)), (3, .int (zI p3))] dX4_twos_50 hl (by decide) rfl (fun ls hl => ?_)
          have L100 : ∀ (zn : Nat) (i13 : Int) (i14 : Int) (out : Int), fX4_twos_L52 zn (zk_M lagV deadV mannerV settingV leastOfV mostOfV keptV planeOfV momentOfV stripOfV lateV isOverV isLiveV endOfV knownV timeOfV pulseOfV groupOfV groupsV shutV firstOfV agreesV agreeSetV missedV bestAV bestBV bestAgreesV bestMissedV) p1 p2 p3 r7.1 r7.2.1 r7.2.2.1 r7.2.2.2.1 r7.2.2.2.2.1 r7.2.2.2.2.2.1 r7.2.2.2.2.2.2.1 r7.2.2.2.2.2.2.2.1 r7.2.2.2.2.2.2.2.2 i13 i14 = some out → (∀ (H : Heap) (locs : List Loc), va_P D vwCl ((wM h cI cZ lagV deadV mannerV settingV leastOfV mostOfV keptV planeOfV momentOfV stripOfV lateV isOverV r7.1 r7.2.1 r7.2.2.1 r7.2.2.2.1 r7.2.2.2.2.1 r7.2.2.2.2.2.1 r7.2.2.2.2.2.2.1 r7.2.2.2.2.2.2.2.1 r7.2.2.2.2.2.2.2.2 agreesV agreeSetV missedV bestAV bestBV bestAgreesV bestMissedV)) H → va_S A s.heap H locs → ∀ ls : Array Slot, lv_has ls 8 [(4, .int (zI out))] → W p l e rmX4_twos s m args below meth c H locs 0 0 Q (F0 m 158 ls [])) → ∀ (H : Heap) (locs : List Loc), va_P D vwCl ((wM h cI cZ lagV deadV mannerV settingV leastOfV mostOfV keptV planeOfV momentOfV stripOfV lateV isOverV r7.1 r7.2.1 r7.2.2.1 r7.2.2.2.1 r7.2.2.2.2.1 r7.2.2.2.2.2.1 r7.2.2.2.2.2.2.1 r7.2.2.2.2.2.2.2.1 r7.2.2.2.2.2.2.2.2 agreesV agreeSetV missedV bestAV bestBV bestAgreesV bestMissedV)) H → va_S A s.heap H locs → ∀ ls : Array Slot, lv_has ls 8 [(0, .ref (h 0)), (1, .int (zI p1)), (2, .int (zI p2)), (3, .int (zI p3)), (4, .int (zI i13)), (5, .int (zI i14))] → W p l e rmX4_twos s m args below meth c H locs 0 0 Q (F0 m 52 ls []) := by
            intro zn
            induction zn with
            | zero =>
              intro i13 i14 out hf
              rw [fX4_twos_L52_z] at hf
              cases hf
            | succ zn ih =>
              intro i13 i14 out hf K H locs hP hS ls hl
              rw [fX4_twos_L52_s] at hf
              refine z_iload C0 dX4_twos_52 (lv_at hl 5 rfl) ?_
              refine z_aload_n C0 dX4_twos_54 rfl (lv_at hl 0 rfl) ?_
              refine zgX4_101 C0 hP 0 rfl (.int (zI r7.2.2.1)) rfl dX4_twos_55 ?_
              refine z_icmpge C0 158 dX4_twos_58 (by decide) (fun c99 => ?_) (fun c99 => ?_)
              · have hf := zif_pos hf c99
                cases hf
                exact K _ _ hP hS ls (lv_sub hl [4] rfl)
              · have hf := zif_neg hf c99
                refine z_iconst C0 dX4_twos_61 ?_
                refine z_istore C0 [(6, .int (zI 0)), (0, .ref (h 0)), (1, .int (zI p1)), (2, .int (zI p2)), (3, .int (zI p3)), (4, .int (zI i13)), (5, .int (zI i14))] dX4_twos_62 hl (by decide) rfl (fun ls hl => ?_)
                have L96 : ∀ (zn : Nat) (i47 : Int) (i49 : Int) (out : Int), fX4_twos_L64 zn (zk_M lagV deadV mannerV settingV leastOfV mostOfV keptV planeOfV momentOfV stripOfV lateV isOverV isLiveV endOfV knownV timeOfV pulseOfV groupOfV groupsV shutV firstOfV agreesV agreeSetV missedV bestAV bestBV bestAgreesV bestMissedV) p1 p2 p3 i14 r7.1 r7.2.1 r7.2.2.1 r7.2.2.2.1 r7.2.2.2.2.1 r7.2.2.2.2.2.1 r7.2.2.2.2.2.2.1 r7.2.2.2.2.2.2.2.1 r7.2.2.2.2.2.2.2.2 i47 i49 = some out → (∀ (H : Heap) (locs : List Loc), va_P D vwCl ((wM h cI cZ lagV deadV mannerV settingV leastOfV mostOfV keptV planeOfV momentOfV stripOfV lateV isOverV r7.1 r7.2.1 r7.2.2.1 r7.2.2.2.1 r7.2.2.2.2.1 r7.2.2.2.2.2.1 r7.2.2.2.2.2.2.1 r7.2.2.2.2.2.2.2.1 r7.2.2.2.2.2.2.2.2 agreesV agreeSetV missedV bestAV bestBV bestAgreesV bestMissedV)) H → va_S A s.heap H locs → ∀ ls : Array Slot, lv_has ls 8 [(0, .ref (h 0)), (1, .int (zI p1)), (2, .int (zI p2)), (3, .int (zI p3)), (4, .int (zI out)), (5, .int (zI i14))] → W p l e rmX4_twos s m args below meth c H locs 0 0 Q (F0 m 152 ls [])) → ∀ (H : Heap) (locs : List Loc), va_P D vwCl ((wM h cI cZ lagV deadV mannerV settingV leastOfV mostOfV keptV planeOfV momentOfV stripOfV lateV isOverV r7.1 r7.2.1 r7.2.2.1 r7.2.2.2.1 r7.2.2.2.2.1 r7.2.2.2.2.2.1 r7.2.2.2.2.2.2.1 r7.2.2.2.2.2.2.2.1 r7.2.2.2.2.2.2.2.2 agreesV agreeSetV missedV bestAV bestBV bestAgreesV bestMissedV)) H → va_S A s.heap H locs → ∀ ls : Array Slot, lv_has ls 8 [(0, .ref (h 0)), (1, .int (zI p1)), (2, .int (zI p2)), (3, .int (zI p3)), (4, .int (zI i47)), (5, .int (zI i14)), (6, .int (zI i49))] → W p l e rmX4_twos s m args below meth c H locs 0 0 Q (F0 m 64 ls []) := by
                  intro zn
                  induction zn with
                  | zero =>
                    intro i47 i49 out hf
                    rw [fX4_twos_L64_z] at hf
                    cases hf
                  | succ zn ih =>
                    intro i47 i49 out hf K H locs hP hS ls hl
                    rw [fX4_twos_L64_s] at hf
                    refine z_iload C0 dX4_twos_64 (lv_at hl 6 rfl) ?_
                    refine z_aload_n C0 dX4_twos_66 rfl (lv_at hl 0 rfl) ?_
                    refine zgX4_101 C0 hP 0 rfl (.int (zI r7.2.2.1)) rfl dX4_twos_67 ?_
                    refine z_icmpge C0 152 dX4_twos_70 (by decide) (fun c95 => ?_) (fun c95 => ?_)
                    · have hf := zif_pos hf c95
                      cases hf
                      exact K _ _ hP hS ls (lv_sub hl [0, 1, 2, 3, 4, 5] rfl)
                    · have hf := zif_neg hf c95
                      refine z_aload_n C0 dX4_twos_73 rfl (lv_at hl 0 rfl) ?_
                      refine zgX4_28 C0 hP 0 rfl (.ref (h 7)) rfl dX4_twos_74 ?_
                      refine z_aload_n C0 dX4_twos_77 rfl (lv_at hl 0 rfl) ?_
                      refine zgX4_47 C0 hP 0 rfl (.ref (h 13)) rfl dX4_twos_78 ?_
                      refine z_iload C0 dX4_twos_81 (lv_at hl 5 rfl) ?_
                      obtain ⟨g78, hf⟩ := zg_some hf
                      refine z_iald C0 hP 13 rfl (Nat.le_of_ble_eq_true rfl) g78 dX4_twos_83 ?_
                      obtain ⟨g79, hf⟩ := zg_some hf
                      refine z_iald C0 hP 7 rfl (Nat.le_of_ble_eq_true rfl) g79 dX4_twos_84 ?_
                      refine z_iload_n C0 dX4_twos_85 rfl (lv_at hl 1 rfl) ?_
                      obtain ⟨r80, hE94, hf⟩ := zbind hf
                      have J81 : ∀ (H : Heap) (locs : List Loc), va_P D vwCl ((wM h cI cZ lagV deadV mannerV settingV leastOfV mostOfV keptV planeOfV momentOfV stripOfV lateV isOverV r7.1 r7.2.1 r7.2.2.1 r7.2.2.2.1 r7.2.2.2.2.1 r7.2.2.2.2.2.1 r7.2.2.2.2.2.2.1 r7.2.2.2.2.2.2.2.1 r7.2.2.2.2.2.2.2.2 agreesV agreeSetV missedV bestAV bestBV bestAgreesV bestMissedV)) H → va_S A s.heap H locs → ∀ ls : Array Slot, lv_has ls 8 [(0, .ref (h 0)), (1, .int (zI p1)), (2, .int (zI p2)), (3, .int (zI p3)), (4, .int (zI i47)), (5, .int (zI i14)), (6, .int (zI i49))] → W p l e rmX4_twos s m args below meth c H locs 0 0 Q (F0 m 110 ls [.int (zI r80)]) := by
                        intro H locs hP hS ls hl
                        refine z_istore C0 [(7, .int (zI r80)), (0, .ref (h 0)), (1, .int (zI p1)), (2, .int (zI p2)), (3, .int (zI p3)), (4, .int (zI i47)), (5, .int (zI i14)), (6, .int (zI i49))] dX4_twos_110 hl (by decide) rfl (fun ls hl => ?_)
                        refine z_iload C0 dX4_twos_112 (lv_at hl 5 rfl) ?_
                        refine z_iload C0 dX4_twos_114 (lv_at hl 0 rfl) ?_
                        obtain ⟨r82, hE89, hf⟩ := zbind hf
                        have J83 : ∀ (H : Heap) (locs : List Loc), va_P D vwCl ((wM h cI cZ lagV deadV mannerV settingV leastOfV mostOfV keptV planeOfV momentOfV stripOfV lateV isOverV r7.1 r7.2.1 r7.2.2.1 r7.2.2.2.1 r7.2.2.2.2.1 r7.2.2.2.2.2.1 r7.2.2.2.2.2.2.1 r7.2.2.2.2.2.2.2.1 r7.2.2.2.2.2.2.2.2 agreesV agreeSetV missedV bestAV bestBV bestAgreesV bestMissedV)) H → va_S A s.heap H locs → ∀ ls : Array Slot, lv_has ls 8 [(0, .ref (h 0)), (1, .int (zI p1)), (2, .int (zI p2)), (3, .int (zI p3)), (5, .int (zI i14)), (6, .int (zI i49))] → W p l e rmX4_twos s m args below meth c H locs 0 0 Q (F0 m 143 ls [.int (zI r82), .int (zI i47)]) := by
                          intro H locs hP hS ls hl
                          refine z_iadd C0 dX4_twos_143 ?_
                          obtain ⟨v84, hv84, hf⟩ := zl_some hf
                          refine z_name hv84 ?_
                          refine z_istore C0 [(4, .int (zI v84)), (0, .ref (h 0)), (1, .int (zI p1)), (2, .int (zI p2)), (3, .int (zI p3)), (5, .int (zI i14)), (6, .int (zI i49))] dX4_twos_144 hl (by decide) rfl (fun ls hl => ?_)
                          refine z_iinc C0 [(6, .int (zI (i49 + 1))), (4, .int (zI v84)), (0, .ref (h 0)), (1, .int (zI p1)), (2, .int (zI p2)), (3, .int (zI p3)), (5, .int (zI i14))] dX4_twos_146 hl 6 rfl (by decide) rfl (fun ls hl => ?_)
                          refine z_goto C0 64 dX4_twos_149 (by decide) ?_
                          exact ih v84 (i49 + 1) out hf K _ _ hP hS ls (lv_sub hl [2, 3, 4, 5, 1, 6, 0] rfl)
                        have hf := hE89
                        refine z_ifeq C0 142 dX4_twos_116 (by decide) (fun c88 => ?_) (fun c88 => ?_)
                        · have hf := zif_pos hf c88
                          refine z_iconst C0 dX4_twos_142 ?_
                          cases hf
                          exact J83 _ _ hP hS ls (lv_sub hl [1, 2, 3, 4, 6, 7] rfl)
                        · have hf := zif_neg hf c88
                          refine z_aload_n C0 dX4_twos_119 rfl (lv_at hl 1 rfl) ?_
                          refine zgX4_44 C0 hP 0 rfl (.ref (h 12)) rfl dX4_twos_120 ?_
                          refine z_iload C0 dX4_twos_123 (lv_at hl 7 rfl) ?_
                          obtain ⟨g85, hf⟩ := zg_some hf
                          refine z_iald C0 hP 12 rfl (Nat.le_of_ble_eq_true rfl) g85 dX4_twos_125 ?_
                          refine z_aload_n C0 dX4_twos_126 rfl (lv_at hl 1 rfl) ?_
                          refine zgX4_44 C0 hP 0 rfl (.ref (h 12)) rfl dX4_twos_127 ?_
                          refine z_iload C0 dX4_twos_130 (lv_at hl 6 rfl) ?_
                          obtain ⟨g86, hf⟩ := zg_some hf
                          refine z_iald C0 hP 12 rfl (Nat.le_of_ble_eq_true rfl) g86 dX4_twos_132 ?_
                          refine z_isub C0 dX4_twos_133 ?_
                          refine z_iload_n C0 dX4_twos_134 rfl (lv_at hl 4 rfl) ?_
                          refine z_icmpne C0 142 dX4_twos_135 (by decide) (fun c87 => ?_) (fun c87 => ?_)
                          · have hf := zif_neg hf c87
                            refine z_iconst C0 dX4_twos_142 ?_
                            cases hf
                            exact J83 _ _ hP hS ls (lv_sub hl [1, 2, 3, 4, 6, 7] rfl)
                          · have hf := zif_pos hf c87
                            refine z_iconst C0 dX4_twos_138 ?_
                            refine z_goto C0 143 dX4_twos_139 (by decide) ?_
                            cases hf
                            exact J83 _ _ hP hS ls (lv_sub hl [1, 2, 3, 4, 6, 7] rfl)
                      have hf := hE94
                      refine z_icmpne C0 109 dX4_twos_86 (by decide) (fun c93 => ?_) (fun c93 => ?_)
                      · have hf := zif_neg hf c93
                        refine z_iconst C0 dX4_twos_109 ?_
                        cases hf
                        exact J81 _ _ hP hS ls (lv_sub hl [0, 1, 2, 3, 4, 5, 6] rfl)
                      · have hf := zif_pos hf c93
                        refine z_aload_n C0 dX4_twos_89 rfl (lv_at hl 0 rfl) ?_
                        refine zgX4_28 C0 hP 0 rfl (.ref (h 7)) rfl dX4_twos_90 ?_
                        refine z_aload_n C0 dX4_twos_93 rfl (lv_at hl 0 rfl) ?_
                        refine zgX4_47 C0 hP 0 rfl (.ref (h 13)) rfl dX4_twos_94 ?_
                        refine z_iload C0 dX4_twos_97 (lv_at hl 6 rfl) ?_
                        obtain ⟨g90, hf⟩ := zg_some hf
                        refine z_iald C0 hP 13 rfl (Nat.le_of_ble_eq_true rfl) g90 dX4_twos_99 ?_
                        obtain ⟨g91, hf⟩ := zg_some hf
                        refine z_iald C0 hP 7 rfl (Nat.le_of_ble_eq_true rfl) g91 dX4_twos_100 ?_
                        refine z_iload_n C0 dX4_twos_101 rfl (lv_at hl 2 rfl) ?_
                        refine z_icmpne C0 109 dX4_twos_102 (by decide) (fun c92 => ?_) (fun c92 => ?_)
                        · have hf := zif_neg hf c92
                          refine z_iconst C0 dX4_twos_109 ?_
                          cases hf
                          exact J81 _ _ hP hS ls (lv_sub hl [0, 1, 2, 3, 4, 5, 6] rfl)
                        · have hf := zif_pos hf c92
                          refine z_iconst C0 dX4_twos_105 ?_
                          refine z_goto C0 110 dX4_twos_106 (by decide) ?_
                          cases hf
                          exact J81 _ _ hP hS ls (lv_sub hl [0, 1, 2, 3, 4, 5, 6] rfl)
                obtain ⟨r97, hE98, hf⟩ := zbind hf
                refine L96 _ i13 0 r97 hE98 ?_ _ _ hP hS ls (lv_sub hl [1, 2, 3, 4, 5, 6, 0] rfl)
                intro H locs hP hS ls hl
                refine z_iinc C0 [(5, .int (zI (i14 + 1))), (0, .ref (h 0)), (1, .int (zI p1)), (2, .int (zI p2)), (3, .int (zI p3)), (4, .int (zI r97))] dX4_twos_152 hl 5 rfl (by decide) rfl (fun ls hl => ?_)
                refine z_goto C0 52 dX4_twos_155 (by decide) ?_
                exact ih r97 (i14 + 1) out hf K _ _ hP hS ls (lv_sub hl [1, 2, 3, 4, 5, 0] rfl)
          obtain ⟨r101, hE102, hf⟩ := zbind hf
          refine L100 _ 0 0 r101 hE102 ?_ _ _ hP hS ls (lv_sub hl [2, 3, 4, 5, 1, 0] rfl)
          intro H locs hP hS ls hl
          refine z_iload C0 dX4_twos_158 (lv_at hl 0 rfl) ?_
          cases hf
          exact hret hP hS dX4_twos_160
        · have hf := zif_pos hf c103
          refine z_bipush C0 dX4_twos_37 (by decide +kernel) ?_
          cases hf
          exact hret hP hS dX4_twos_39
      · have hf := zif_pos hf c104
        refine z_bipush C0 dX4_twos_29 (by decide +kernel) ?_
        cases hf
        exact hret hP hS dX4_twos_31
    · have hf := zif_pos hf c105
      refine z_iconst C0 dX4_twos_14 ?_
      cases hf
      exact hret hP hS dX4_twos_15
