set_option maxHeartbeats 4000000 in
set_option maxRecDepth 100000 in
theorem zmX4_findTrack (l : Launch) (D : va_G) (cI cZ : ClassId) (h : Nat → Nat) (sz : Nat) (lagV : (Nat → Int)) (deadV : (Nat → Int)) (mannerV : (Nat → Int)) (settingV : (Nat → Int)) (leastOfV : (Nat → Int)) (mostOfV : (Nat → Int)) (keptV : Int) (planeOfV : (Nat → Int)) (momentOfV : (Nat → Int)) (stripOfV : (Nat → Int)) (lateV : Int) (isOverV : Int) (isLiveV : (Nat → Int)) (endOfV : (Nat → Int)) (knownV : Int) (timeOfV : (Nat → Int)) (pulseOfV : (Nat → Int)) (groupOfV : (Nat → Int)) (groupsV : Int) (shutV : Int) (firstOfV : (Nat → Int)) (agreesV : Int) (agreeSetV : Int) (missedV : Int) (bestAV : Int) (bestBV : Int) (bestAgreesV : Int) (bestMissedV : Int) (p1 : Int) (o : Int × Int × Int × Int × Int × Int × Int × Int) (hf : fX4_findTrack (zk_M lagV deadV mannerV settingV leastOfV mostOfV keptV planeOfV momentOfV stripOfV lateV isOverV isLiveV endOfV knownV timeOfV pulseOfV groupOfV groupsV shutV firstOfV agreesV agreeSetV missedV bestAV bestBV bestAgreesV bestMissedV) p1 = some o) : Met l yX4_findTrack (zW yX4_findTrack cX4_findTrack 4 (some .boolean)) rmX4_findTrack (va_Pc [.ref (h 0), .int (zI p1)] (zPre D cI cZ ((wM h cI cZ lagV deadV mannerV settingV leastOfV mostOfV keptV planeOfV momentOfV stripOfV lateV isOverV isLiveV endOfV knownV timeOfV pulseOfV groupOfV groupsV shutV firstOfV agreesV agreeSetV missedV bestAV bestBV bestAgreesV bestMissedV)) sz)) (va_Qi (fun r' (_ : Unit) => r' = zI o.1) (fun _ t => va_P D vwCl ((wM h cI cZ lagV deadV mannerV settingV leastOfV mostOfV keptV planeOfV momentOfV stripOfV lateV isOverV isLiveV endOfV knownV timeOfV pulseOfV groupOfV groupsV shutV firstOfV o.2.1 o.2.2.1 o.2.2.2.1 o.2.2.2.2.1 o.2.2.2.2.2.1 o.2.2.2.2.2.2.1 o.2.2.2.2.2.2.2)) t.heap) (va_A ((wM h cI cZ lagV deadV mannerV settingV leastOfV mostOfV keptV planeOfV momentOfV stripOfV lateV isOverV isLiveV endOfV knownV timeOfV pulseOfV groupOfV groupsV shutV firstOfV agreesV agreeSetV missedV bestAV bestBV bestAgreesV bestMissedV)) sz)) 0 0 (va_A ((wM h cI cZ lagV deadV mannerV settingV leastOfV mostOfV keptV planeOfV momentOfV stripOfV lateV isOverV isLiveV endOfV knownV timeOfV pulseOfV groupOfV groupsV shutV firstOfV agreesV agreeSetV missedV bestAV bestBV bestAgreesV bestMissedV)) sz) := by
  unfold fX4_findTrack at hf
  refine z_enter_z (own := RX4) (by decide +kernel) rfl (Nat.le_of_ble_eq_true rfl) ?_
  intro p e s m args below meth c A Q C0 hP hD hS hret ls hl
  have hl : lv_has ls 4 [(0, .ref (h 0)), (1, .int (zI p1))] := hl
  refine z_aload_n C0 dX4_findTrack_0 rfl (lv_at hl 0 rfl) ?_
  refine z_iconst C0 dX4_findTrack_1 ?_
  refine zpX4_163 C0 hP (zD hD rfl) hS 0 rfl (Nat.le_of_ble_eq_true rfl) dX4_findTrack_2 (fun H locs hP hS => ?_)
  have hP : va_P D vwCl ((wM h cI cZ lagV deadV mannerV settingV leastOfV mostOfV keptV planeOfV momentOfV stripOfV lateV isOverV isLiveV endOfV knownV timeOfV pulseOfV groupOfV groupsV shutV firstOfV agreesV agreeSetV missedV bestAV bestBV (-1) bestMissedV)) H := hP
  refine z_iconst C0 dX4_findTrack_5 ?_
  refine z_istore_n C0 [(2, .int (zI 0)), (0, .ref (h 0)), (1, .int (zI p1))] dX4_findTrack_6 rfl hl (by decide) rfl (fun ls hl => ?_)
  have L77 : ∀ (zn : Nat) (i3 : Int) (k25 : Int) (k26 : Int) (k27 : Int) (k28 : Int) (k29 : Int) (k30 : Int) (k31 : Int) (out : Int × Int × Int × Int × Int × Int × Int), fX4_findTrack_L7 zn (zk_M lagV deadV mannerV settingV leastOfV mostOfV keptV planeOfV momentOfV stripOfV lateV isOverV isLiveV endOfV knownV timeOfV pulseOfV groupOfV groupsV shutV firstOfV agreesV agreeSetV missedV bestAV bestBV bestAgreesV bestMissedV) p1 i3 k25 k26 k27 k28 k29 k30 k31 = some out → (∀ (H : Heap) (locs : List Loc), va_P D vwCl ((wM h cI cZ lagV deadV mannerV settingV leastOfV mostOfV keptV planeOfV momentOfV stripOfV lateV isOverV isLiveV endOfV knownV timeOfV pulseOfV groupOfV groupsV shutV firstOfV out.1 out.2.1 out.2.2.1 out.2.2.2.1 out.2.2.2.2.1 out.2.2.2.2.2.1 out.2.2.2.2.2.2)) H → va_S A s.heap H locs → ∀ ls : Array Slot, lv_has ls 4 [(0, .ref (h 0))] → W p l e rmX4_findTrack s m args below meth c H locs 0 0 Q (F0 m 74 ls [])) → ∀ (H : Heap) (locs : List Loc), va_P D vwCl ((wM h cI cZ lagV deadV mannerV settingV leastOfV mostOfV keptV planeOfV momentOfV stripOfV lateV isOverV isLiveV endOfV knownV timeOfV pulseOfV groupOfV groupsV shutV firstOfV k25 k26 k27 k28 k29 k30 k31)) H → va_S A s.heap H locs → ∀ ls : Array Slot, lv_has ls 4 [(0, .ref (h 0)), (1, .int (zI p1)), (2, .int (zI i3))] → W p l e rmX4_findTrack s m args below meth c H locs 0 0 Q (F0 m 7 ls []) := by
    intro zn
    induction zn with
    | zero =>
      intro i3 k25 k26 k27 k28 k29 k30 k31 out hf
      rw [fX4_findTrack_L7_z] at hf
      cases hf
    | succ zn ih =>
      intro i3 k25 k26 k27 k28 k29 k30 k31 out hf K H locs hP hS ls hl
      rw [fX4_findTrack_L7_s] at hf
      refine z_iload_n C0 dX4_findTrack_7 rfl (lv_at hl 2 rfl) ?_
      refine z_bipush C0 dX4_findTrack_8 (by decide +kernel) ?_
      refine z_icmpgt C0 74 dX4_findTrack_10 (by decide) (fun c76 => ?_) (fun c76 => ?_)
      · have hf := zif_pos hf c76
        cases hf
        exact K _ _ hP hS ls (lv_sub hl [0] rfl)
      · have hf := zif_neg hf c76
        refine z_bipush C0 dX4_findTrack_13 (by decide +kernel) ?_
        refine z_istore_n C0 [(3, .int (zI (-3))), (0, .ref (h 0)), (1, .int (zI p1)), (2, .int (zI i3))] dX4_findTrack_15 rfl hl (by decide) rfl (fun ls hl => ?_)
        have L73 : ∀ (zn : Nat) (i35 : Int) (k57 : Int) (k58 : Int) (k59 : Int) (k60 : Int) (k61 : Int) (k62 : Int) (k63 : Int) (out : Int × Int × Int × Int × Int × Int × Int), fX4_findTrack_L16 zn (zk_M lagV deadV mannerV settingV leastOfV mostOfV keptV planeOfV momentOfV stripOfV lateV isOverV isLiveV endOfV knownV timeOfV pulseOfV groupOfV groupsV shutV firstOfV agreesV agreeSetV missedV bestAV bestBV bestAgreesV bestMissedV) p1 i3 i35 k57 k58 k59 k60 k61 k62 k63 = some out → (∀ (H : Heap) (locs : List Loc), va_P D vwCl ((wM h cI cZ lagV deadV mannerV settingV leastOfV mostOfV keptV planeOfV momentOfV stripOfV lateV isOverV isLiveV endOfV knownV timeOfV pulseOfV groupOfV groupsV shutV firstOfV out.1 out.2.1 out.2.2.1 out.2.2.2.1 out.2.2.2.2.1 out.2.2.2.2.2.1 out.2.2.2.2.2.2)) H → va_S A s.heap H locs → ∀ ls : Array Slot, lv_has ls 4 [(0, .ref (h 0)), (1, .int (zI p1)), (2, .int (zI i3))] → W p l e rmX4_findTrack s m args below meth c H locs 0 0 Q (F0 m 68 ls [])) → ∀ (H : Heap) (locs : List Loc), va_P D vwCl ((wM h cI cZ lagV deadV mannerV settingV leastOfV mostOfV keptV planeOfV momentOfV stripOfV lateV isOverV isLiveV endOfV knownV timeOfV pulseOfV groupOfV groupsV shutV firstOfV k57 k58 k59 k60 k61 k62 k63)) H → va_S A s.heap H locs → ∀ ls : Array Slot, lv_has ls 4 [(0, .ref (h 0)), (1, .int (zI p1)), (2, .int (zI i3)), (3, .int (zI i35))] → W p l e rmX4_findTrack s m args below meth c H locs 0 0 Q (F0 m 16 ls []) := by
          intro zn
          induction zn with
          | zero =>
            intro i35 k57 k58 k59 k60 k61 k62 k63 out hf
            rw [fX4_findTrack_L16_z] at hf
            cases hf
          | succ zn ih =>
            intro i35 k57 k58 k59 k60 k61 k62 k63 out hf K H locs hP hS ls hl
            rw [fX4_findTrack_L16_s] at hf
            refine z_iload_n C0 dX4_findTrack_16 rfl (lv_at hl 3 rfl) ?_
            refine z_iconst C0 dX4_findTrack_17 ?_
            refine z_icmpgt C0 68 dX4_findTrack_18 (by decide) (fun c72 => ?_) (fun c72 => ?_)
            · have hf := zif_pos hf c72
              cases hf
              exact K _ _ hP hS ls (lv_sub hl [0, 1, 2] rfl)
            · have hf := zif_neg hf c72
              refine z_aload_n C0 dX4_findTrack_21 rfl (lv_at hl 0 rfl) ?_
              refine z_iload_n C0 dX4_findTrack_22 rfl (lv_at hl 1 rfl) ?_
              refine z_iload_n C0 dX4_findTrack_23 rfl (lv_at hl 2 rfl) ?_
              refine z_iload_n C0 dX4_findTrack_24 rfl (lv_at hl 3 rfl) ?_
              obtain ⟨r64, hc65, hf⟩ := zbind hf
              refine z_callFv (rest := []) C0 hP (zD hD rfl) hS (zmX4_tries l D cI cZ h _ lagV deadV mannerV settingV leastOfV mostOfV keptV planeOfV momentOfV stripOfV lateV isOverV isLiveV endOfV knownV timeOfV pulseOfV groupOfV groupsV shutV firstOfV k57 k58 k59 k60 k61 k62 k63 p1 i3 i35 r64 hc65) (zkX4_175 ⟨by decide, by decide⟩ C0.2.2.2.2.1) 4 rfl rfl rfl rfl hl.1 (Nat.le_of_ble_eq_true rfl) dX4_findTrack_25 ⟨Nat.zero_le _, Nat.zero_le _⟩ (fun H locs hP hS => ?_)
              have hP : va_P D vwCl ((wM h cI cZ lagV deadV mannerV settingV leastOfV mostOfV keptV planeOfV momentOfV stripOfV lateV isOverV isLiveV endOfV knownV timeOfV pulseOfV groupOfV groupsV shutV firstOfV r64.1 r64.2.1 r64.2.2 k60 k61 k62 k63)) H := hP
              refine z_aload_n C0 dX4_findTrack_28 rfl (lv_at hl 0 rfl) ?_
              refine z_iload_n C0 dX4_findTrack_29 rfl (lv_at hl 3 rfl) ?_
              obtain ⟨r66, hc67, hf⟩ := zbind hf
              refine z_callFi (rest := []) C0 hP (zD hD rfl) hS (zmX4_isAhead l D cI cZ h _ lagV deadV mannerV settingV leastOfV mostOfV keptV planeOfV momentOfV stripOfV lateV isOverV isLiveV endOfV knownV timeOfV pulseOfV groupOfV groupsV shutV firstOfV r64.1 r64.2.1 r64.2.2 k60 k61 k62 k63 i35 r66 hc67) (zkX4_179 ⟨by decide, by decide⟩ C0.2.2.2.2.1) 4 rfl rfl rfl rfl hl.1 (Nat.le_of_ble_eq_true rfl) dX4_findTrack_30 ⟨Nat.zero_le _, Nat.zero_le _⟩ (fun H locs hP hS => ?_)
              have hP : va_P D vwCl ((wM h cI cZ lagV deadV mannerV settingV leastOfV mostOfV keptV planeOfV momentOfV stripOfV lateV isOverV isLiveV endOfV knownV timeOfV pulseOfV groupOfV groupsV shutV firstOfV r64.1 r64.2.1 r64.2.2 k60 k61 k62 k63)) H := hP
              obtain ⟨r68, hE71, hf⟩ := zbind hf
              have J69 : ∀ (H : Heap) (locs : List Loc), va_P D vwCl ((wM h cI cZ lagV deadV mannerV settingV leastOfV mostOfV keptV planeOfV momentOfV stripOfV lateV isOverV isLiveV endOfV knownV timeOfV pulseOfV groupOfV groupsV shutV firstOfV r64.1 r64.2.1 r64.2.2 r68.1 r68.2.1 r68.2.2.1 r68.2.2.2)) H → va_S A s.heap H locs → ∀ ls : Array Slot, lv_has ls 4 [(0, .ref (h 0)), (1, .int (zI p1)), (2, .int (zI i3)), (3, .int (zI i35))] → W p l e rmX4_findTrack s m args below meth c H locs 0 0 Q (F0 m 62 ls []) := by
                intro H locs hP hS ls hl
                refine z_iinc C0 [(3, .int (zI (i35 + 1))), (0, .ref (h 0)), (1, .int (zI p1)), (2, .int (zI i3))] dX4_findTrack_62 hl 3 rfl (by decide) rfl (fun ls hl => ?_)
                refine z_goto C0 16 dX4_findTrack_65 (by decide) ?_
                exact ih (i35 + 1) r64.1 r64.2.1 r64.2.2 r68.1 r68.2.1 r68.2.2.1 r68.2.2.2 out hf K _ _ hP hS ls (lv_sub hl [1, 2, 3, 0] rfl)
              have hf := hE71
              refine z_ifeq C0 62 dX4_findTrack_33 (by decide) (fun c70 => ?_) (fun c70 => ?_)
              · have hf := zif_pos hf c70
                cases hf
                exact J69 _ _ hP hS ls (lv_sub hl [0, 1, 2, 3] rfl)
              · have hf := zif_neg hf c70
                refine z_aload_n C0 dX4_findTrack_36 rfl (lv_at hl 0 rfl) ?_
                refine z_iload_n C0 dX4_findTrack_37 rfl (lv_at hl 2 rfl) ?_
                refine zpX4_182 C0 hP (zD hD rfl) hS 0 rfl (Nat.le_of_ble_eq_true rfl) dX4_findTrack_38 (fun H locs hP hS => ?_)
                have hP : va_P D vwCl ((wM h cI cZ lagV deadV mannerV settingV leastOfV mostOfV keptV planeOfV momentOfV stripOfV lateV isOverV isLiveV endOfV knownV timeOfV pulseOfV groupOfV groupsV shutV firstOfV r64.1 r64.2.1 r64.2.2 i3 k61 k62 k63)) H := hP
                refine z_aload_n C0 dX4_findTrack_41 rfl (lv_at hl 0 rfl) ?_
                refine z_iload_n C0 dX4_findTrack_42 rfl (lv_at hl 3 rfl) ?_
                refine zpX4_172 C0 hP (zD hD rfl) hS 0 rfl (Nat.le_of_ble_eq_true rfl) dX4_findTrack_43 (fun H locs hP hS => ?_)
                have hP : va_P D vwCl ((wM h cI cZ lagV deadV mannerV settingV leastOfV mostOfV keptV planeOfV momentOfV stripOfV lateV isOverV isLiveV endOfV knownV timeOfV pulseOfV groupOfV groupsV shutV firstOfV r64.1 r64.2.1 r64.2.2 i3 i35 k62 k63)) H := hP
                refine z_aload_n C0 dX4_findTrack_46 rfl (lv_at hl 0 rfl) ?_
                refine z_aload_n C0 dX4_findTrack_47 rfl (lv_at hl 0 rfl) ?_
                refine zgX4_154 C0 hP 0 rfl (.int (zI r64.1)) rfl dX4_findTrack_48 ?_
                refine zpX4_163 C0 hP (zD hD rfl) hS 0 rfl (Nat.le_of_ble_eq_true rfl) dX4_findTrack_51 (fun H locs hP hS => ?_)
                have hP : va_P D vwCl ((wM h cI cZ lagV deadV mannerV settingV leastOfV mostOfV keptV planeOfV momentOfV stripOfV lateV isOverV isLiveV endOfV knownV timeOfV pulseOfV groupOfV groupsV shutV firstOfV r64.1 r64.2.1 r64.2.2 i3 i35 r64.1 k63)) H := hP
                refine z_aload_n C0 dX4_findTrack_54 rfl (lv_at hl 0 rfl) ?_
                refine z_aload_n C0 dX4_findTrack_55 rfl (lv_at hl 0 rfl) ?_
                refine zgX4_160 C0 hP 0 rfl (.int (zI r64.2.2)) rfl dX4_findTrack_56 ?_
                refine zpX4_166 C0 hP (zD hD rfl) hS 0 rfl (Nat.le_of_ble_eq_true rfl) dX4_findTrack_59 (fun H locs hP hS => ?_)
                have hP : va_P D vwCl ((wM h cI cZ lagV deadV mannerV settingV leastOfV mostOfV keptV planeOfV momentOfV stripOfV lateV isOverV isLiveV endOfV knownV timeOfV pulseOfV groupOfV groupsV shutV firstOfV r64.1 r64.2.1 r64.2.2 i3 i35 r64.1 r64.2.2)) H := hP
                cases hf
                exact J69 _ _ hP hS ls (lv_sub hl [0, 1, 2, 3] rfl)
        obtain ⟨r74, hE75, hf⟩ := zbind hf
        refine L73 _ (-3) k25 k26 k27 k28 k29 k30 k31 r74 hE75 ?_ _ _ hP hS ls (lv_sub hl [1, 2, 3, 0] rfl)
        intro H locs hP hS ls hl
        refine z_iinc C0 [(2, .int (zI (i3 + 1))), (0, .ref (h 0)), (1, .int (zI p1))] dX4_findTrack_68 hl 2 rfl (by decide) rfl (fun ls hl => ?_)
        refine z_goto C0 7 dX4_findTrack_71 (by decide) ?_
        exact ih (i3 + 1) r74.1 r74.2.1 r74.2.2.1 r74.2.2.2.1 r74.2.2.2.2.1 r74.2.2.2.2.2.1 r74.2.2.2.2.2.2 out hf K _ _ hP hS ls (lv_sub hl [1, 2, 0] rfl)
  obtain ⟨r78, hE79, hf⟩ := zbind hf
  refine L77 _ 0 agreesV agreeSetV missedV bestAV bestBV (-1) bestMissedV r78 hE79 ?_ _ _ hP hS ls (lv_sub hl [1, 2, 0] rfl)
  intro H locs hP hS ls hl
  refine z_aload_n C0 dX4_findTrack_74 rfl (lv_at hl 0 rfl) ?_
  refine zgX4_163 C0 hP 0 rfl (.int (zI r78.2.2.2.2.2.1)) rfl dX4_findTrack_75 ?_
  refine z_aload_n C0 dX4_findTrack_78 rfl (lv_at hl 0 rfl) ?_
  refine zgX4_19 C0 hP 0 rfl (.ref (h 4)) rfl dX4_findTrack_79 ?_
  refine z_iconst C0 dX4_findTrack_82 ?_
  obtain ⟨g80, hf⟩ := zg_some hf
  refine z_iald C0 hP 4 rfl (Nat.le_of_ble_eq_true rfl) g80 dX4_findTrack_83 ?_
  refine z_icmplt C0 91 dX4_findTrack_84 (by decide) (fun c81 => ?_) (fun c81 => ?_)
  · have hf := zif_pos hf c81
    refine z_iconst C0 dX4_findTrack_91 ?_
    cases hf
    exact hret (Or.inl rfl) hP hS dX4_findTrack_92
  · have hf := zif_neg hf c81
    refine z_iconst C0 dX4_findTrack_87 ?_
    refine z_goto C0 92 dX4_findTrack_88 (by decide) ?_
    cases hf
    exact hret (Or.inr rfl) hP hS dX4_findTrack_92
