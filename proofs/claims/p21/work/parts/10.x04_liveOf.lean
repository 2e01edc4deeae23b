set_option maxHeartbeats 4000000 in
set_option maxRecDepth 100000 in
theorem zmX3_liveOf (l : Launch) (D : va_G) (cI cZ : ClassId) (h : Nat → Nat) (sz : Nat) (lagV : (Nat → Int)) (deadV : (Nat → Int)) (mannerV : (Nat → Int)) (settingV : (Nat → Int)) (keptRowV : zRowT) (liveRowV : zRowT) (shiftedRowV : zRowT) (groupsV : zGrT) (searchV : zLsT) (deadUntilV : (Nat → Int)) (settledV : Int) (knownV : Int) (tooLateV : Int) (endedV : Int) (p1 : Int) (o : Int) (hf : fX3_liveOf (zk_X lagV deadV mannerV settingV keptRowV liveRowV shiftedRowV groupsV searchV deadUntilV settledV knownV tooLateV endedV) p1 = some o) : Met l yX3_liveOf (zW yX3_liveOf cX3_liveOf 2 (some .int)) rmX3_liveOf (va_Pc [.ref (h 0), .int (zI p1)] (zPre D cI cZ ((wX h cI lagV deadV mannerV settingV keptRowV liveRowV shiftedRowV groupsV searchV deadUntilV settledV knownV tooLateV endedV)) sz)) (va_Qi (fun r' (_ : Unit) => r' = zI o) (fun _ t => va_P D vwCl ((wX h cI lagV deadV mannerV settingV keptRowV liveRowV shiftedRowV groupsV searchV deadUntilV settledV knownV tooLateV endedV)) t.heap) (va_A ((wX h cI lagV deadV mannerV settingV keptRowV liveRowV shiftedRowV groupsV searchV deadUntilV settledV knownV tooLateV endedV)) sz)) 0 0 (va_A ((wX h cI lagV deadV mannerV settingV keptRowV liveRowV shiftedRowV groupsV searchV deadUntilV settledV knownV tooLateV endedV)) sz) := by
  unfold fX3_liveOf at hf
  refine z_enter_i (own := RX3) (by decide +kernel) rfl (Nat.le_of_ble_eq_true rfl) ?_
  intro p e s m args below meth c A Q C0 hP hD hS hret ls hl
  have hl : lv_has ls 2 [(0, .ref (h 0)), (1, .int (zI p1))] := hl
  refine z_aload_n C0 dX3_liveOf_0 rfl (lv_at hl 0 rfl) ?_
  refine zgX3_39 C0 hP 0 rfl (.ref (h 9)) rfl dX3_liveOf_1 ?_
  refine z_iload_n C0 dX3_liveOf_4 rfl (lv_at hl 1 rfl) ?_
  refine z_aload_n C0 dX3_liveOf_5 rfl (lv_at hl 0 rfl) ?_
  refine zgX3_39 C0 hP 0 rfl (.ref (h 9)) rfl dX3_liveOf_6 ?_
  refine zgX3_74 C0 hP 9 rfl (.int (zI (zr_size liveRowV))) rfl dX3_liveOf_9 ?_
  obtain ⟨r1, hc2, hf⟩ := zbind hf
  refine z_callVi (rest := []) C0 hP (zD hD rfl) hS [9, 10, 11, 12] rfl (zmX2_countOf l D cI cZ (h 9) (h 10) (h 11) (h 12) _ (zr_when liveRowV) (zr_plane liveRowV) (zr_strip liveRowV) (zr_size liveRowV) p1 (zr_size liveRowV) r1 hc2) (zkX3_78 ⟨by decide, by decide⟩ C0.2.2.2.2.1) rfl 2 rfl rfl rfl rfl hl.1 (Nat.le_of_ble_eq_true rfl) dX3_liveOf_12 ⟨Nat.zero_le _, Nat.zero_le _⟩ rfl (Nat.le_of_ble_eq_true rfl) (fun H locs hP hS => ?_)
  have hP : va_P D vwCl ((wX h cI lagV deadV mannerV settingV keptRowV liveRowV shiftedRowV groupsV searchV deadUntilV settledV knownV tooLateV endedV)) H := hP
  cases hf
  exact hret hP hS dX3_liveOf_15
