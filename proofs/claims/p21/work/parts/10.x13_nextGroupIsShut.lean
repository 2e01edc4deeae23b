set_option maxHeartbeats 4000000 in
set_option maxRecDepth 100000 in
theorem zmX3_nextGroupIsShut (l : Launch) (D : va_G) (cI cZ : ClassId) (h : Nat → Nat) (sz : Nat) (lagV : (Nat → Int)) (deadV : (Nat → Int)) (mannerV : (Nat → Int)) (settingV : (Nat → Int)) (keptRowV : zRowT) (liveRowV : zRowT) (shiftedRowV : zRowT) (groupsV : zGrT) (searchV : zLsT) (deadUntilV : (Nat → Int)) (settledV : Int) (knownV : Int) (tooLateV : Int) (endedV : Int) (p1 : Int) (o : Int) (hf : fX3_nextGroupIsShut (zk_X lagV deadV mannerV settingV keptRowV liveRowV shiftedRowV groupsV searchV deadUntilV settledV knownV tooLateV endedV) p1 = some o) : Met l yX3_nextGroupIsShut (zW yX3_nextGroupIsShut cX3_nextGroupIsShut 3 (some .boolean)) rmX3_nextGroupIsShut (va_Pc [.ref (h 0), .int (zI p1)] (zPre D cI cZ ((wX h cI lagV deadV mannerV settingV keptRowV liveRowV shiftedRowV groupsV searchV deadUntilV settledV knownV tooLateV endedV)) sz)) (va_Qi (fun r' (_ : Unit) => r' = zI o) (fun _ t => va_P D vwCl ((wX h cI lagV deadV mannerV settingV keptRowV liveRowV shiftedRowV groupsV searchV deadUntilV settledV knownV tooLateV endedV)) t.heap) (va_A ((wX h cI lagV deadV mannerV settingV keptRowV liveRowV shiftedRowV groupsV searchV deadUntilV settledV knownV tooLateV endedV)) sz)) 0 0 (va_A ((wX h cI lagV deadV mannerV settingV keptRowV liveRowV shiftedRowV groupsV searchV deadUntilV settledV knownV tooLateV endedV)) sz) := by
  unfold fX3_nextGroupIsShut at hf
  refine z_enter_z (own := RX3) (by decide +kernel) rfl (Nat.le_of_ble_eq_true rfl) ?_
  intro p e s m args below meth c A Q C0 hP hD hS hret ls hl
  have hl : lv_has ls 3 [(0, .ref (h 0)), (1, .int (zI p1))] := hl
  refine z_aload_n C0 dX3_nextGroupIsShut_0 rfl (lv_at hl 0 rfl) ?_
  refine zgX3_48 C0 hP 0 rfl (.ref (h 17)) rfl dX3_nextGroupIsShut_1 ?_
  obtain ⟨r1, hc2, hf⟩ := zbind hf
  refine z_callVi (rest := []) C0 hP (zD hD rfl) hS [17, 18, 19, 20, 21, 22, 23] rfl (zmX0_pulses l D cI cZ (h 17) (h 18) (h 19) (h 20) (h 21) (h 22) (h 23) _ (zg_end groupsV) (zg_set groupsV) (zg_trackStart groupsV) (zg_trackSlope groupsV) (zg_trackSet groupsV) (zg_trackMisses groupsV) (zg_size groupsV) r1 hc2) (zkX3_203 ⟨by decide, by decide⟩ C0.2.2.2.2.1) rfl 0 rfl rfl rfl rfl hl.1 (Nat.le_of_ble_eq_true rfl) dX3_nextGroupIsShut_4 ⟨Nat.zero_le _, Nat.zero_le _⟩ rfl (Nat.le_of_ble_eq_true rfl) (fun H locs hP hS => ?_)
  have hP : va_P D vwCl ((wX h cI lagV deadV mannerV settingV keptRowV liveRowV shiftedRowV groupsV searchV deadUntilV settledV knownV tooLateV endedV)) H := hP
  refine z_istore_n C0 [(2, .int (zI r1)), (0, .ref (h 0)), (1, .int (zI p1))] dX3_nextGroupIsShut_7 rfl hl (by decide) rfl (fun ls hl => ?_)
  refine z_iload_n C0 dX3_nextGroupIsShut_8 rfl (lv_at hl 0 rfl) ?_
  refine z_aload_n C0 dX3_nextGroupIsShut_9 rfl (lv_at hl 1 rfl) ?_
  refine zgX3_123 C0 hP 0 rfl (.int (zI knownV)) rfl dX3_nextGroupIsShut_10 ?_
  refine z_icmpge C0 39 dX3_nextGroupIsShut_13 (by decide) (fun c7 => ?_) (fun c7 => ?_)
  · have hf := zif_pos hf c7
    refine z_iconst C0 dX3_nextGroupIsShut_39 ?_
    cases hf
    exact hret (Or.inl rfl) hP hS dX3_nextGroupIsShut_40
  · have hf := zif_neg hf c7
    refine z_aload_n C0 dX3_nextGroupIsShut_16 rfl (lv_at hl 1 rfl) ?_
    refine zgX3_39 C0 hP 0 rfl (.ref (h 9)) rfl dX3_nextGroupIsShut_17 ?_
    refine z_iload_n C0 dX3_nextGroupIsShut_20 rfl (lv_at hl 0 rfl) ?_
    obtain ⟨r3, hc4, hf⟩ := zbind hf
    refine z_callVi (rest := []) C0 hP (zD hD rfl) hS [9, 10, 11, 12] rfl (zmX2_whenAt l D cI cZ (h 9) (h 10) (h 11) (h 12) _ (zr_when liveRowV) (zr_plane liveRowV) (zr_strip liveRowV) (zr_size liveRowV) r1 r3 hc4) (zkX3_132 ⟨by decide, by decide⟩ C0.2.2.2.2.1) rfl 2 rfl rfl rfl rfl hl.1 (Nat.le_of_ble_eq_true rfl) dX3_nextGroupIsShut_21 ⟨Nat.zero_le _, Nat.zero_le _⟩ rfl (Nat.le_of_ble_eq_true rfl) (fun H locs hP hS => ?_)
    have hP : va_P D vwCl ((wX h cI lagV deadV mannerV settingV keptRowV liveRowV shiftedRowV groupsV searchV deadUntilV settledV knownV tooLateV endedV)) H := hP
    refine z_aload_n C0 dX3_nextGroupIsShut_24 rfl (lv_at hl 1 rfl) ?_
    refine zgX3_29 C0 hP 0 rfl (.ref (h 4)) rfl dX3_nextGroupIsShut_25 ?_
    refine z_iconst C0 dX3_nextGroupIsShut_28 ?_
    obtain ⟨g5, hf⟩ := zg_some hf
    refine z_iald C0 hP 4 rfl (Nat.le_of_ble_eq_true rfl) g5 dX3_nextGroupIsShut_29 ?_
    refine z_iadd C0 dX3_nextGroupIsShut_30 ?_
    refine z_iload_n C0 dX3_nextGroupIsShut_31 rfl (lv_at hl 2 rfl) ?_
    refine z_icmpge C0 39 dX3_nextGroupIsShut_32 (by decide) (fun c6 => ?_) (fun c6 => ?_)
    · have hf := zif_pos hf c6
      refine z_iconst C0 dX3_nextGroupIsShut_39 ?_
      cases hf
      exact hret (Or.inl rfl) hP hS dX3_nextGroupIsShut_40
    · have hf := zif_neg hf c6
      refine z_iconst C0 dX3_nextGroupIsShut_35 ?_
      refine z_goto C0 40 dX3_nextGroupIsShut_36 (by decide) ?_
      cases hf
      exact hret (Or.inr rfl) hP hS dX3_nextGroupIsShut_40
