set_option maxHeartbeats 4000000 in
set_option maxRecDepth 100000 in
theorem zmX3_end (l : Launch) (D : va_G) (cI cZ : ClassId) (h : Nat → Nat) (sz : Nat) (lagV : (Nat → Int)) (deadV : (Nat → Int)) (mannerV : (Nat → Int)) (settingV : (Nat → Int)) (keptRowV : zRowT) (liveRowV : zRowT) (shiftedRowV : zRowT) (groupsV : zGrT) (searchV : zLsT) (deadUntilV : (Nat → Int)) (settledV : Int) (knownV : Int) (tooLateV : Int) (endedV : Int)  (o : Int × zRowT × zGrT × zLsT × (Nat → Int) × Int × Int × Int) (hf : fX3_end (zk_X lagV deadV mannerV settingV keptRowV liveRowV shiftedRowV groupsV searchV deadUntilV settledV knownV tooLateV endedV) = some o) : Met l yX3_end (zW yX3_end cX3_end 2 (some .int)) rmX3_end (va_Pc [.ref (h 0)] (zPreS D cI cZ ((wX h cI lagV deadV mannerV settingV keptRowV liveRowV shiftedRowV groupsV searchV deadUntilV settledV knownV tooLateV endedV)) sz)) (va_Qi (fun r' (_ : Unit) => r' = zI o.1) (fun _ t => va_P D vwCl ((wX h cI lagV deadV mannerV settingV keptRowV o.2.1 shiftedRowV o.2.2.1 o.2.2.2.1 o.2.2.2.2.1 o.2.2.2.2.2.1 o.2.2.2.2.2.2.1 tooLateV o.2.2.2.2.2.2.2)) t.heap) (va_A ((wX h cI lagV deadV mannerV settingV keptRowV liveRowV shiftedRowV groupsV searchV deadUntilV settledV knownV tooLateV endedV)) sz)) 0 0 (va_A ((wX h cI lagV deadV mannerV settingV keptRowV liveRowV shiftedRowV groupsV searchV deadUntilV settledV knownV tooLateV endedV)) sz) := by
  unfold fX3_end at hf
  refine z_enterS_i (own := RX3) (by decide +kernel) rfl (Nat.le_of_ble_eq_true rfl) ?_
  intro p e s m args below meth c A Q C0 hP hD hS hZ hret ls hl
  have hl : lv_has ls 2 [(0, .ref (h 0))] := hl
  refine z_aload_n C0 dX3_end_0 rfl (lv_at hl 0 rfl) ?_
  refine zgX3_98 C0 hP 0 rfl (.int (zI endedV)) rfl dX3_end_1 ?_
  refine z_ifeq C0 10 dX3_end_4 (by decide) (fun c3 => ?_) (fun c3 => ?_)
  · have hf := zif_pos hf c3
    refine z_aload_n C0 dX3_end_10 rfl (lv_at hl 0 rfl) ?_
    refine zgX3_86 C0 hP 0 rfl (.int (zI settledV)) rfl dX3_end_11 ?_
    refine z_istore_n C0 [(1, .int (zI settledV)), (0, .ref (h 0))] dX3_end_14 rfl hl (by decide) rfl (fun ls hl => ?_)
    refine z_aload_n C0 dX3_end_15 rfl (lv_at hl 1 rfl) ?_
    refine z_iconst C0 dX3_end_16 ?_
    refine zpX3_98 C0 hP (zD hD rfl) hS 0 rfl (Or.inr rfl) (Nat.le_of_ble_eq_true rfl) dX3_end_17 (fun H locs hP hS => ?_)
    have hP : va_P D vwCl ((wX h cI lagV deadV mannerV settingV keptRowV liveRowV shiftedRowV groupsV searchV deadUntilV settledV knownV tooLateV 1)) H := hP
    refine z_aload_n C0 dX3_end_20 rfl (lv_at hl 1 rfl) ?_
    obtain ⟨r1, hc2, hf⟩ := zbind hf
    refine z_callFvS (rest := []) C0 hP (zD hD rfl) hS hZ (zmX3_follow l D cI cZ h _ lagV deadV mannerV settingV keptRowV liveRowV shiftedRowV groupsV searchV deadUntilV settledV knownV tooLateV 1 r1 hc2) (zkX3_113 ⟨by decide, by decide⟩ C0.2.2.2.2.1) 3 rfl rfl rfl rfl hl.1 (Nat.le_of_ble_eq_true rfl) dX3_end_21 ⟨Nat.zero_le _, Nat.zero_le _⟩ (fun H locs hP hS => ?_)
    have hP : va_P D vwCl ((wX h cI lagV deadV mannerV settingV keptRowV r1.1 shiftedRowV r1.2.1 r1.2.2.1 r1.2.2.2.1 r1.2.2.2.2.1 r1.2.2.2.2.2 tooLateV 1)) H := hP
    refine z_aload_n C0 dX3_end_24 rfl (lv_at hl 1 rfl) ?_
    refine zgX3_86 C0 hP 0 rfl (.int (zI r1.2.2.2.2.1)) rfl dX3_end_25 ?_
    refine z_iload_n C0 dX3_end_28 rfl (lv_at hl 0 rfl) ?_
    refine z_isub C0 dX3_end_29 ?_
    cases hf
    exact hret hP hS dX3_end_30
  · have hf := zif_neg hf c3
    refine z_bipush C0 dX3_end_7 (by decide +kernel) ?_
    cases hf
    exact hret hP hS dX3_end_9
