set_option maxHeartbeats 4000000 in
set_option maxRecDepth 100000 in
theorem zmX3_isGroup (l : Launch) (D : va_G) (cI cZ : ClassId) (h : Nat → Nat) (sz : Nat) (lagV : (Nat → Int)) (deadV : (Nat → Int)) (mannerV : (Nat → Int)) (settingV : (Nat → Int)) (keptRowV : zRowT) (liveRowV : zRowT) (shiftedRowV : zRowT) (groupsV : zGrT) (searchV : zLsT) (deadUntilV : (Nat → Int)) (settledV : Int) (knownV : Int) (tooLateV : Int) (endedV : Int) (p1 : Int) (o : Int) (hf : fX3_isGroup (zk_X lagV deadV mannerV settingV keptRowV liveRowV shiftedRowV groupsV searchV deadUntilV settledV knownV tooLateV endedV) p1 = some o) : Met l yX3_isGroup (zW yX3_isGroup cX3_isGroup 2 (some .boolean)) rmX3_isGroup (va_Pc [.ref (h 0), .int (zI p1)] (zPre D cI cZ ((wX h cI lagV deadV mannerV settingV keptRowV liveRowV shiftedRowV groupsV searchV deadUntilV settledV knownV tooLateV endedV)) sz)) (va_Qi (fun r' (_ : Unit) => r' = zI o) (fun _ t => va_P D vwCl ((wX h cI lagV deadV mannerV settingV keptRowV liveRowV shiftedRowV groupsV searchV deadUntilV settledV knownV tooLateV endedV)) t.heap) (va_A ((wX h cI lagV deadV mannerV settingV keptRowV liveRowV shiftedRowV groupsV searchV deadUntilV settledV knownV tooLateV endedV)) sz)) 0 0 (va_A ((wX h cI lagV deadV mannerV settingV keptRowV liveRowV shiftedRowV groupsV searchV deadUntilV settledV knownV tooLateV endedV)) sz) := by
  unfold fX3_isGroup at hf
  refine z_enter_z (own := RX3) (by decide +kernel) rfl (Nat.le_of_ble_eq_true rfl) ?_
  intro p e s m args below meth c A Q C0 hP hD hS hret ls hl
  have hl : lv_has ls 2 [(0, .ref (h 0)), (1, .int (zI p1))] := hl
  refine z_iload_n C0 dX3_isGroup_0 rfl (lv_at hl 1 rfl) ?_
  refine z_iconst C0 dX3_isGroup_1 ?_
  refine z_aload_n C0 dX3_isGroup_2 rfl (lv_at hl 0 rfl) ?_
  refine zgX3_48 C0 hP 0 rfl (.ref (h 17)) rfl dX3_isGroup_3 ?_
  refine zgX3_116 C0 hP 17 rfl (.int (zI (zg_size groupsV))) rfl dX3_isGroup_6 ?_
  refine z_iconst C0 dX3_isGroup_9 ?_
  refine z_isub C0 dX3_isGroup_10 ?_
  obtain ⟨r1, hc2, hf⟩ := zbind hf
  refine z_callSi (rest := []) C0 hP (zD hD rfl) hS [] rfl (zmX3_isWithin l D cI cZ _ p1 0 ((zg_size groupsV) - 1) r1 hc2) (zkX3_66 ⟨by decide, by decide⟩ C0.2.2.2.2.1) rfl rfl rfl hl.1 (Nat.le_of_ble_eq_true rfl) dX3_isGroup_11 ⟨Nat.zero_le _, Nat.zero_le _⟩ rfl (Nat.le_of_ble_eq_true rfl) (fun H locs hP hS => ?_)
  have hP : va_P D vwCl ((wX h cI lagV deadV mannerV settingV keptRowV liveRowV shiftedRowV groupsV searchV deadUntilV settledV knownV tooLateV endedV)) H := hP
  obtain ⟨g3, hf⟩ := zg_some hf
  cases hf
  exact hret g3 hP hS dX3_isGroup_14
