set_option maxHeartbeats 4000000 in
set_option maxRecDepth 100000 in
theorem zmX4_pulse (l : Launch) (D : va_G) (cI cZ : ClassId) (h : Nat → Nat) (sz : Nat) (lagV : (Nat → Int)) (deadV : (Nat → Int)) (mannerV : (Nat → Int)) (settingV : (Nat → Int)) (leastOfV : (Nat → Int)) (mostOfV : (Nat → Int)) (keptV : Int) (planeOfV : (Nat → Int)) (momentOfV : (Nat → Int)) (stripOfV : (Nat → Int)) (lateV : Int) (isOverV : Int) (isLiveV : (Nat → Int)) (endOfV : (Nat → Int)) (knownV : Int) (timeOfV : (Nat → Int)) (pulseOfV : (Nat → Int)) (groupOfV : (Nat → Int)) (groupsV : Int) (shutV : Int) (firstOfV : (Nat → Int)) (agreesV : Int) (agreeSetV : Int) (missedV : Int) (bestAV : Int) (bestBV : Int) (bestAgreesV : Int) (bestMissedV : Int) (p1 : Int) (p2 : Int) (p3 : Int) (o : Int × Int × (Nat → Int) × (Nat → Int) × (Nat → Int) × Int) (hf : fX4_pulse (zk_M lagV deadV mannerV settingV leastOfV mostOfV keptV planeOfV momentOfV stripOfV lateV isOverV isLiveV endOfV knownV timeOfV pulseOfV groupOfV groupsV shutV firstOfV agreesV agreeSetV missedV bestAV bestBV bestAgreesV bestMissedV) p1 p2 p3 = some o) : Met l yX4_pulse (zW yX4_pulse cX4_pulse 5 (some .int)) rmX4_pulse (va_Pc [.ref (h 0), .int (zI p1), .int (zI p2), .int (zI p3)] (zPre D cI cZ ((wM h cI cZ lagV deadV mannerV settingV leastOfV mostOfV keptV planeOfV momentOfV stripOfV lateV isOverV isLiveV endOfV knownV timeOfV pulseOfV groupOfV groupsV shutV firstOfV agreesV agreeSetV missedV bestAV bestBV bestAgreesV bestMissedV)) sz)) (va_Qi (fun r' (_ : Unit) => r' = zI o.1) (fun _ t => va_P D vwCl ((wM h cI cZ lagV deadV mannerV settingV leastOfV mostOfV o.2.1 o.2.2.1 o.2.2.2.1 o.2.2.2.2.1 o.2.2.2.2.2 isOverV isLiveV endOfV knownV timeOfV pulseOfV groupOfV groupsV shutV firstOfV agreesV agreeSetV missedV bestAV bestBV bestAgreesV bestMissedV)) t.heap) (va_A ((wM h cI cZ lagV deadV mannerV settingV leastOfV mostOfV keptV planeOfV momentOfV stripOfV lateV isOverV isLiveV endOfV knownV timeOfV pulseOfV groupOfV groupsV shutV firstOfV agreesV agreeSetV missedV bestAV bestBV bestAgreesV bestMissedV)) sz)) 0 0 (va_A ((wM h cI cZ lagV deadV mannerV settingV leastOfV mostOfV keptV planeOfV momentOfV stripOfV lateV isOverV isLiveV endOfV knownV timeOfV pulseOfV groupOfV groupsV shutV firstOfV agreesV agreeSetV missedV bestAV bestBV bestAgreesV bestMissedV)) sz) := by
  unfold fX4_pulse at hf
  refine z_enter_i (own := RX4) (by decide +kernel) rfl (Nat.le_of_ble_eq_true rfl) ?_
  intro p e s m args below meth c A Q C0 hP hD hS hret ls hl
  have hl : lv_has ls 5 [(0, .ref (h 0)), (1, .int (zI p1)), (2, .int (zI p2)), (3, .int (zI p3))] := hl
  refine z_iload_n C0 dX4_pulse_0 rfl (lv_at hl 1 rfl) ?_
  obtain ⟨r1, hc2, hf⟩ := zbind hf
  refine z_callSi (rest := []) C0 hP (zD hD rfl) hS [] rfl (zmX4_isPlane l D cI cZ _ p1 r1 hc2) (zkX4_68 ⟨by decide, by decide⟩ C0.2.2.2.2.1) rfl rfl rfl hl.1 (Nat.le_of_ble_eq_true rfl) dX4_pulse_1 ⟨Nat.zero_le _, Nat.zero_le _⟩ rfl (Nat.le_of_ble_eq_true rfl) (fun H locs hP hS => ?_)
  have hP : va_P D vwCl ((wM h cI cZ lagV deadV mannerV settingV leastOfV mostOfV keptV planeOfV momentOfV stripOfV lateV isOverV isLiveV endOfV knownV timeOfV pulseOfV groupOfV groupsV shutV firstOfV agreesV agreeSetV missedV bestAV bestBV bestAgreesV bestMissedV)) H := hP
  refine z_ifne C0 9 dX4_pulse_4 (by decide) (fun c63 => ?_) (fun c63 => ?_)
  · have hf := zif_neg hf c63
    refine z_iload_n C0 dX4_pulse_9 rfl (lv_at hl 2 rfl) ?_
    refine z_iconst C0 dX4_pulse_10 ?_
    refine z_sipush C0 dX4_pulse_11 (by decide +kernel) ?_
    obtain ⟨r3, hc4, hf⟩ := zbind hf
    refine z_callSi (rest := []) C0 hP (zD hD rfl) hS [] rfl (zmX4_within l D cI cZ _ p2 0 9999 r3 hc4) (zkX4_56 ⟨by decide, by decide⟩ C0.2.2.2.2.1) rfl rfl rfl hl.1 (Nat.le_of_ble_eq_true rfl) dX4_pulse_14 ⟨Nat.zero_le _, Nat.zero_le _⟩ rfl (Nat.le_of_ble_eq_true rfl) (fun H locs hP hS => ?_)
    have hP : va_P D vwCl ((wM h cI cZ lagV deadV mannerV settingV leastOfV mostOfV keptV planeOfV momentOfV stripOfV lateV isOverV isLiveV endOfV knownV timeOfV pulseOfV groupOfV groupsV shutV firstOfV agreesV agreeSetV missedV bestAV bestBV bestAgreesV bestMissedV)) H := hP
    refine z_ifeq C0 30 dX4_pulse_17 (by decide) (fun c62 => ?_) (fun c62 => ?_)
    · have hf := zif_pos hf c62
      refine z_bipush C0 dX4_pulse_30 (by decide +kernel) ?_
      cases hf
      exact hret hP hS dX4_pulse_32
    · have hf := zif_neg hf c62
      refine z_iload_n C0 dX4_pulse_20 rfl (lv_at hl 3 rfl) ?_
      refine z_iconst C0 dX4_pulse_21 ?_
      refine z_bipush C0 dX4_pulse_22 (by decide +kernel) ?_
      obtain ⟨r5, hc6, hf⟩ := zbind hf
      refine z_callSi (rest := []) C0 hP (zD hD rfl) hS [] rfl (zmX4_within l D cI cZ _ p3 0 15 r5 hc6) (zkX4_56 ⟨by decide, by decide⟩ C0.2.2.2.2.1) rfl rfl rfl hl.1 (Nat.le_of_ble_eq_true rfl) dX4_pulse_24 ⟨Nat.zero_le _, Nat.zero_le _⟩ rfl (Nat.le_of_ble_eq_true rfl) (fun H locs hP hS => ?_)
      have hP : va_P D vwCl ((wM h cI cZ lagV deadV mannerV settingV leastOfV mostOfV keptV planeOfV momentOfV stripOfV lateV isOverV isLiveV endOfV knownV timeOfV pulseOfV groupOfV groupsV shutV firstOfV agreesV agreeSetV missedV bestAV bestBV bestAgreesV bestMissedV)) H := hP
      refine z_ifne C0 33 dX4_pulse_27 (by decide) (fun c61 => ?_) (fun c61 => ?_)
      · have hf := zif_neg hf c61
        refine z_aload_n C0 dX4_pulse_33 rfl (lv_at hl 0 rfl) ?_
        refine zgX4_64 C0 hP 0 rfl (.int (zI isOverV)) rfl dX4_pulse_34 ?_
        refine z_ifeq C0 43 dX4_pulse_37 (by decide) (fun c60 => ?_) (fun c60 => ?_)
        · have hf := zif_pos hf c60
          refine z_iload_n C0 dX4_pulse_43 rfl (lv_at hl 2 rfl) ?_
          refine z_aload_n C0 dX4_pulse_44 rfl (lv_at hl 0 rfl) ?_
          obtain ⟨r7, hc8, hf⟩ := zbind hf
          refine z_callFi (rest := [.int (zI p2)]) C0 hP (zD hD rfl) hS (zmX4_horizon l D cI cZ h _ lagV deadV mannerV settingV leastOfV mostOfV keptV planeOfV momentOfV stripOfV lateV isOverV isLiveV endOfV knownV timeOfV pulseOfV groupOfV groupsV shutV firstOfV agreesV agreeSetV missedV bestAV bestBV bestAgreesV bestMissedV r7 hc8) (zkX4_76 ⟨by decide, by decide⟩ C0.2.2.2.2.1) 4 rfl rfl rfl rfl hl.1 (Nat.le_of_ble_eq_true rfl) dX4_pulse_45 ⟨Nat.zero_le _, Nat.zero_le _⟩ (fun H locs hP hS => ?_)
          have hP : va_P D vwCl ((wM h cI cZ lagV deadV mannerV settingV leastOfV mostOfV keptV planeOfV momentOfV stripOfV lateV isOverV isLiveV endOfV knownV timeOfV pulseOfV groupOfV groupsV shutV firstOfV agreesV agreeSetV missedV bestAV bestBV bestAgreesV bestMissedV)) H := hP
          refine z_icmpge C0 63 dX4_pulse_48 (by decide) (fun c59 => ?_) (fun c59 => ?_)
          · have hf := zif_pos hf c59
            refine z_aload_n C0 dX4_pulse_63 rfl (lv_at hl 0 rfl) ?_
            refine zgX4_60 C0 hP 0 rfl (.int (zI keptV)) rfl dX4_pulse_64 ?_
            refine z_sipush C0 dX4_pulse_67 (by decide +kernel) ?_
            refine z_icmpne C0 76 dX4_pulse_70 (by decide) (fun c58 => ?_) (fun c58 => ?_)
            · have hf := zif_neg hf c58
              refine z_aload_n C0 dX4_pulse_76 rfl (lv_at hl 0 rfl) ?_
              refine zgX4_60 C0 hP 0 rfl (.int (zI keptV)) rfl dX4_pulse_77 ?_
              refine z_istore C0 [(4, .int (zI keptV)), (0, .ref (h 0)), (1, .int (zI p1)), (2, .int (zI p2)), (3, .int (zI p3))] dX4_pulse_80 hl (by decide) rfl (fun ls hl => ?_)
              have L52 : ∀ (zn : Nat) (i13 : Int) (k21 : (Nat → Int)) (k22 : (Nat → Int)) (k23 : (Nat → Int)) (out : Int × (Nat → Int) × (Nat → Int) × (Nat → Int)), fX4_pulse_L82 zn (zk_M lagV deadV mannerV settingV leastOfV mostOfV keptV planeOfV momentOfV stripOfV lateV isOverV isLiveV endOfV knownV timeOfV pulseOfV groupOfV groupsV shutV firstOfV agreesV agreeSetV missedV bestAV bestBV bestAgreesV bestMissedV) p1 p2 p3 i13 k21 k22 k23 = some out → (∀ (H : Heap) (locs : List Loc), va_P D vwCl ((wM h cI cZ lagV deadV mannerV settingV leastOfV mostOfV keptV out.2.1 out.2.2.1 out.2.2.2 lateV isOverV isLiveV endOfV knownV timeOfV pulseOfV groupOfV groupsV shutV firstOfV agreesV agreeSetV missedV bestAV bestBV bestAgreesV bestMissedV)) H → va_S A s.heap H locs → ∀ ls : Array Slot, lv_has ls 5 [(0, .ref (h 0)), (1, .int (zI p1)), (2, .int (zI p2)), (3, .int (zI p3)), (4, .int (zI out.1))] → W p l e rmX4_pulse s m args below meth c H locs 0 0 Q (F0 m 155 ls [])) → ∀ (H : Heap) (locs : List Loc), va_P D vwCl ((wM h cI cZ lagV deadV mannerV settingV leastOfV mostOfV keptV k21 k22 k23 lateV isOverV isLiveV endOfV knownV timeOfV pulseOfV groupOfV groupsV shutV firstOfV agreesV agreeSetV missedV bestAV bestBV bestAgreesV bestMissedV)) H → va_S A s.heap H locs → ∀ ls : Array Slot, lv_has ls 5 [(0, .ref (h 0)), (1, .int (zI p1)), (2, .int (zI p2)), (3, .int (zI p3)), (4, .int (zI i13))] → W p l e rmX4_pulse s m args below meth c H locs 0 0 Q (F0 m 82 ls []) := by
                intro zn
                induction zn with
                | zero =>
                  intro i13 k21 k22 k23 out hf
                  rw [fX4_pulse_L82_z] at hf
                  cases hf
                | succ zn ih =>
                  intro i13 k21 k22 k23 out hf K H locs hP hS ls hl
                  rw [fX4_pulse_L82_s] at hf
                  refine z_iload C0 dX4_pulse_82 (lv_at hl 4 rfl) ?_
                  refine z_ifle C0 155 dX4_pulse_84 (by decide) (fun c51 => ?_) (fun c51 => ?_)
                  · have hf := zif_pos hf c51
                    cases hf
                    exact K _ _ hP hS ls (lv_sub hl [0, 1, 2, 3, 4] rfl)
                  · have hf := zif_neg hf c51
                    refine z_aload_n C0 dX4_pulse_87 rfl (lv_at hl 0 rfl) ?_
                    refine z_iload C0 dX4_pulse_88 (lv_at hl 4 rfl) ?_
                    refine z_iconst C0 dX4_pulse_90 ?_
                    refine z_isub C0 dX4_pulse_91 ?_
                    refine z_iload_n C0 dX4_pulse_92 rfl (lv_at hl 1 rfl) ?_
                    refine z_iload_n C0 dX4_pulse_93 rfl (lv_at hl 2 rfl) ?_
                    refine z_iload_n C0 dX4_pulse_94 rfl (lv_at hl 3 rfl) ?_
                    obtain ⟨r42, hc43, hf⟩ := zbind hf
                    refine z_callFi (rest := []) C0 hP (zD hD rfl) hS (zmX4_isBehind l D cI cZ h _ lagV deadV mannerV settingV leastOfV mostOfV keptV k21 k22 k23 lateV isOverV isLiveV endOfV knownV timeOfV pulseOfV groupOfV groupsV shutV firstOfV agreesV agreeSetV missedV bestAV bestBV bestAgreesV bestMissedV (i13 - 1) p1 p2 p3 r42 hc43) (zkX4_83 ⟨by decide, by decide⟩ C0.2.2.2.2.1) 4 rfl rfl rfl rfl hl.1 (Nat.le_of_ble_eq_true rfl) dX4_pulse_95 ⟨Nat.zero_le _, Nat.zero_le _⟩ (fun H locs hP hS => ?_)
                    have hP : va_P D vwCl ((wM h cI cZ lagV deadV mannerV settingV leastOfV mostOfV keptV k21 k22 k23 lateV isOverV isLiveV endOfV knownV timeOfV pulseOfV groupOfV groupsV shutV firstOfV agreesV agreeSetV missedV bestAV bestBV bestAgreesV bestMissedV)) H := hP
                    refine z_ifeq C0 155 dX4_pulse_98 (by decide) (fun c50 => ?_) (fun c50 => ?_)
                    · have hf := zif_pos hf c50
                      cases hf
                      exact K _ _ hP hS ls (lv_sub hl [0, 1, 2, 3, 4] rfl)
                    · have hf := zif_neg hf c50
                      refine z_aload_n C0 dX4_pulse_101 rfl (lv_at hl 0 rfl) ?_
                      refine zgX4_28 C0 hP 0 rfl (.ref (h 7)) rfl dX4_pulse_102 ?_
                      refine z_iload C0 dX4_pulse_105 (lv_at hl 4 rfl) ?_
                      refine z_aload_n C0 dX4_pulse_107 rfl (lv_at hl 0 rfl) ?_
                      refine zgX4_28 C0 hP 0 rfl (.ref (h 7)) rfl dX4_pulse_108 ?_
                      refine z_iload C0 dX4_pulse_111 (lv_at hl 4 rfl) ?_
                      refine z_iconst C0 dX4_pulse_113 ?_
                      refine z_isub C0 dX4_pulse_114 ?_
                      obtain ⟨g44, hf⟩ := zg_some hf
                      refine z_iald C0 hP 7 rfl (Nat.le_of_ble_eq_true rfl) g44 dX4_pulse_115 ?_
                      obtain ⟨g45, hf⟩ := zg_some hf
                      refine z_iast C0 hP (zD hD rfl) hS 7 rfl (Nat.le_of_ble_eq_true rfl) g45 dX4_pulse_116 (fun H locs hP hS => ?_)
                      have hP : va_P D vwCl ((wM h cI cZ lagV deadV mannerV settingV leastOfV mostOfV keptV (zu k21 i13 (k21 (Int.toNat (i13 - 1)))) k22 k23 lateV isOverV isLiveV endOfV knownV timeOfV pulseOfV groupOfV groupsV shutV firstOfV agreesV agreeSetV missedV bestAV bestBV bestAgreesV bestMissedV)) H := hP
                      refine z_aload_n C0 dX4_pulse_117 rfl (lv_at hl 0 rfl) ?_
                      refine zgX4_31 C0 hP 0 rfl (.ref (h 8)) rfl dX4_pulse_118 ?_
                      refine z_iload C0 dX4_pulse_121 (lv_at hl 4 rfl) ?_
                      refine z_aload_n C0 dX4_pulse_123 rfl (lv_at hl 0 rfl) ?_
                      refine zgX4_31 C0 hP 0 rfl (.ref (h 8)) rfl dX4_pulse_124 ?_
                      refine z_iload C0 dX4_pulse_127 (lv_at hl 4 rfl) ?_
                      refine z_iconst C0 dX4_pulse_129 ?_
                      refine z_isub C0 dX4_pulse_130 ?_
                      obtain ⟨g46, hf⟩ := zg_some hf
                      refine z_iald C0 hP 8 rfl (Nat.le_of_ble_eq_true rfl) g46 dX4_pulse_131 ?_
                      obtain ⟨g47, hf⟩ := zg_some hf
                      refine z_iast C0 hP (zD hD rfl) hS 8 rfl (Nat.le_of_ble_eq_true rfl) g47 dX4_pulse_132 (fun H locs hP hS => ?_)
                      have hP : va_P D vwCl ((wM h cI cZ lagV deadV mannerV settingV leastOfV mostOfV keptV (zu k21 i13 (k21 (Int.toNat (i13 - 1)))) (zu k22 i13 (k22 (Int.toNat (i13 - 1)))) k23 lateV isOverV isLiveV endOfV knownV timeOfV pulseOfV groupOfV groupsV shutV firstOfV agreesV agreeSetV missedV bestAV bestBV bestAgreesV bestMissedV)) H := hP
                      refine z_aload_n C0 dX4_pulse_133 rfl (lv_at hl 0 rfl) ?_
                      refine zgX4_34 C0 hP 0 rfl (.ref (h 9)) rfl dX4_pulse_134 ?_
                      refine z_iload C0 dX4_pulse_137 (lv_at hl 4 rfl) ?_
                      refine z_aload_n C0 dX4_pulse_139 rfl (lv_at hl 0 rfl) ?_
                      refine zgX4_34 C0 hP 0 rfl (.ref (h 9)) rfl dX4_pulse_140 ?_
                      refine z_iload C0 dX4_pulse_143 (lv_at hl 4 rfl) ?_
                      refine z_iconst C0 dX4_pulse_145 ?_
                      refine z_isub C0 dX4_pulse_146 ?_
                      obtain ⟨g48, hf⟩ := zg_some hf
                      refine z_iald C0 hP 9 rfl (Nat.le_of_ble_eq_true rfl) g48 dX4_pulse_147 ?_
                      obtain ⟨g49, hf⟩ := zg_some hf
                      refine z_iast C0 hP (zD hD rfl) hS 9 rfl (Nat.le_of_ble_eq_true rfl) g49 dX4_pulse_148 (fun H locs hP hS => ?_)
                      have hP : va_P D vwCl ((wM h cI cZ lagV deadV mannerV settingV leastOfV mostOfV keptV (zu k21 i13 (k21 (Int.toNat (i13 - 1)))) (zu k22 i13 (k22 (Int.toNat (i13 - 1)))) (zu k23 i13 (k23 (Int.toNat (i13 - 1)))) lateV isOverV isLiveV endOfV knownV timeOfV pulseOfV groupOfV groupsV shutV firstOfV agreesV agreeSetV missedV bestAV bestBV bestAgreesV bestMissedV)) H := hP
                      refine z_iinc C0 [(4, .int (zI (i13 + (-1)))), (0, .ref (h 0)), (1, .int (zI p1)), (2, .int (zI p2)), (3, .int (zI p3))] dX4_pulse_149 hl 4 rfl (by decide) rfl (fun ls hl => ?_)
                      refine z_goto C0 82 dX4_pulse_152 (by decide) ?_
                      exact ih (i13 + (-1)) (zu k21 i13 (k21 (Int.toNat (i13 - 1)))) (zu k22 i13 (k22 (Int.toNat (i13 - 1)))) (zu k23 i13 (k23 (Int.toNat (i13 - 1)))) out hf K _ _ hP hS ls (lv_sub hl [1, 2, 3, 4, 0] rfl)
              obtain ⟨r53, hE54, hf⟩ := zbind hf
              refine L52 _ keptV planeOfV momentOfV stripOfV r53 hE54 ?_ _ _ hP hS ls (lv_sub hl [1, 2, 3, 4, 0] rfl)
              intro H locs hP hS ls hl
              refine z_aload_n C0 dX4_pulse_155 rfl (lv_at hl 0 rfl) ?_
              refine zgX4_28 C0 hP 0 rfl (.ref (h 7)) rfl dX4_pulse_156 ?_
              refine z_iload C0 dX4_pulse_159 (lv_at hl 4 rfl) ?_
              refine z_iload_n C0 dX4_pulse_161 rfl (lv_at hl 1 rfl) ?_
              obtain ⟨g55, hf⟩ := zg_some hf
              refine z_iast C0 hP (zD hD rfl) hS 7 rfl (Nat.le_of_ble_eq_true rfl) g55 dX4_pulse_162 (fun H locs hP hS => ?_)
              have hP : va_P D vwCl ((wM h cI cZ lagV deadV mannerV settingV leastOfV mostOfV keptV (zu r53.2.1 r53.1 p1) r53.2.2.1 r53.2.2.2 lateV isOverV isLiveV endOfV knownV timeOfV pulseOfV groupOfV groupsV shutV firstOfV agreesV agreeSetV missedV bestAV bestBV bestAgreesV bestMissedV)) H := hP
              refine z_aload_n C0 dX4_pulse_163 rfl (lv_at hl 0 rfl) ?_
              refine zgX4_31 C0 hP 0 rfl (.ref (h 8)) rfl dX4_pulse_164 ?_
              refine z_iload C0 dX4_pulse_167 (lv_at hl 4 rfl) ?_
              refine z_iload_n C0 dX4_pulse_169 rfl (lv_at hl 2 rfl) ?_
              obtain ⟨g56, hf⟩ := zg_some hf
              refine z_iast C0 hP (zD hD rfl) hS 8 rfl (Nat.le_of_ble_eq_true rfl) g56 dX4_pulse_170 (fun H locs hP hS => ?_)
              have hP : va_P D vwCl ((wM h cI cZ lagV deadV mannerV settingV leastOfV mostOfV keptV (zu r53.2.1 r53.1 p1) (zu r53.2.2.1 r53.1 p2) r53.2.2.2 lateV isOverV isLiveV endOfV knownV timeOfV pulseOfV groupOfV groupsV shutV firstOfV agreesV agreeSetV missedV bestAV bestBV bestAgreesV bestMissedV)) H := hP
              refine z_aload_n C0 dX4_pulse_171 rfl (lv_at hl 0 rfl) ?_
              refine zgX4_34 C0 hP 0 rfl (.ref (h 9)) rfl dX4_pulse_172 ?_
              refine z_iload C0 dX4_pulse_175 (lv_at hl 4 rfl) ?_
              refine z_iload_n C0 dX4_pulse_177 rfl (lv_at hl 3 rfl) ?_
              obtain ⟨g57, hf⟩ := zg_some hf
              refine z_iast C0 hP (zD hD rfl) hS 9 rfl (Nat.le_of_ble_eq_true rfl) g57 dX4_pulse_178 (fun H locs hP hS => ?_)
              have hP : va_P D vwCl ((wM h cI cZ lagV deadV mannerV settingV leastOfV mostOfV keptV (zu r53.2.1 r53.1 p1) (zu r53.2.2.1 r53.1 p2) (zu r53.2.2.2 r53.1 p3) lateV isOverV isLiveV endOfV knownV timeOfV pulseOfV groupOfV groupsV shutV firstOfV agreesV agreeSetV missedV bestAV bestBV bestAgreesV bestMissedV)) H := hP
              refine z_aload_n C0 dX4_pulse_179 rfl (lv_at hl 0 rfl) ?_
              refine z_dup C0 dX4_pulse_180 rfl ?_
              refine zgX4_60 C0 hP 0 rfl (.int (zI keptV)) rfl dX4_pulse_181 ?_
              refine z_iconst C0 dX4_pulse_184 ?_
              refine z_iadd C0 dX4_pulse_185 ?_
              refine zpX4_60 C0 hP (zD hD rfl) hS 0 rfl (Nat.le_of_ble_eq_true rfl) dX4_pulse_186 (fun H locs hP hS => ?_)
              have hP : va_P D vwCl ((wM h cI cZ lagV deadV mannerV settingV leastOfV mostOfV (keptV + 1) (zu r53.2.1 r53.1 p1) (zu r53.2.2.1 r53.1 p2) (zu r53.2.2.2 r53.1 p3) lateV isOverV isLiveV endOfV knownV timeOfV pulseOfV groupOfV groupsV shutV firstOfV agreesV agreeSetV missedV bestAV bestBV bestAgreesV bestMissedV)) H := hP
              refine z_iconst C0 dX4_pulse_189 ?_
              cases hf
              exact hret hP hS dX4_pulse_190
            · have hf := zif_pos hf c58
              refine z_bipush C0 dX4_pulse_73 (by decide +kernel) ?_
              cases hf
              exact hret hP hS dX4_pulse_75
          · have hf := zif_neg hf c59
            refine z_aload_n C0 dX4_pulse_51 rfl (lv_at hl 0 rfl) ?_
            refine z_dup C0 dX4_pulse_52 rfl ?_
            refine zgX4_80 C0 hP 0 rfl (.int (zI lateV)) rfl dX4_pulse_53 ?_
            refine z_iconst C0 dX4_pulse_56 ?_
            refine z_iadd C0 dX4_pulse_57 ?_
            refine zpX4_80 C0 hP (zD hD rfl) hS 0 rfl (Nat.le_of_ble_eq_true rfl) dX4_pulse_58 (fun H locs hP hS => ?_)
            have hP : va_P D vwCl ((wM h cI cZ lagV deadV mannerV settingV leastOfV mostOfV keptV planeOfV momentOfV stripOfV (lateV + 1) isOverV isLiveV endOfV knownV timeOfV pulseOfV groupOfV groupsV shutV firstOfV agreesV agreeSetV missedV bestAV bestBV bestAgreesV bestMissedV)) H := hP
            refine z_iconst C0 dX4_pulse_61 ?_
            cases hf
            exact hret hP hS dX4_pulse_62
        · have hf := zif_neg hf c60
          refine z_bipush C0 dX4_pulse_40 (by decide +kernel) ?_
          cases hf
          exact hret hP hS dX4_pulse_42
      · have hf := zif_pos hf c61
        refine z_bipush C0 dX4_pulse_30 (by decide +kernel) ?_
        cases hf
        exact hret hP hS dX4_pulse_32
  · have hf := zif_pos hf c63
    refine z_iconst C0 dX4_pulse_7 ?_
    cases hf
    exact hret hP hS dX4_pulse_8
