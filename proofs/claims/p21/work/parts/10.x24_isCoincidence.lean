set_option maxHeartbeats 4000000 in
set_option maxRecDepth 100000 in
theorem zmX3_isCoincidence (l : Launch) (D : va_G) (cI cZ : ClassId) (h : Nat → Nat) (sz : Nat) (lagV : (Nat → Int)) (deadV : (Nat → Int)) (mannerV : (Nat → Int)) (settingV : (Nat → Int)) (keptRowV : zRowT) (liveRowV : zRowT) (shiftedRowV : zRowT) (groupsV : zGrT) (searchV : zLsT) (deadUntilV : (Nat → Int)) (settledV : Int) (knownV : Int) (tooLateV : Int) (endedV : Int) (p1 : Int) (o : Int) (hf : fX3_isCoincidence (zk_X lagV deadV mannerV settingV keptRowV liveRowV shiftedRowV groupsV searchV deadUntilV settledV knownV tooLateV endedV) p1 = some o) : Met l yX3_isCoincidence (zW yX3_isCoincidence cX3_isCoincidence 2 (some .boolean)) rmX3_isCoincidence (va_Pc [.ref (h 0), .int (zI p1)] (zPre D cI cZ ((wX h cI lagV deadV mannerV settingV keptRowV liveRowV shiftedRowV groupsV searchV deadUntilV settledV knownV tooLateV endedV)) sz)) (va_Qi (fun r' (_ : Unit) => r' = zI o) (fun _ t => va_P D vwCl ((wX h cI lagV deadV mannerV settingV keptRowV liveRowV shiftedRowV groupsV searchV deadUntilV settledV knownV tooLateV endedV)) t.heap) (va_A ((wX h cI lagV deadV mannerV settingV keptRowV liveRowV shiftedRowV groupsV searchV deadUntilV settledV knownV tooLateV endedV)) sz)) 0 0 (va_A ((wX h cI lagV deadV mannerV settingV keptRowV liveRowV shiftedRowV groupsV searchV deadUntilV settledV knownV tooLateV endedV)) sz) := by
  unfold fX3_isCoincidence at hf
  refine z_enter_z (own := RX3) (by decide +kernel) rfl (Nat.le_of_ble_eq_true rfl) ?_
  intro p e s m args below meth c A Q C0 hP hD hS hret ls hl
  have hl : lv_has ls 2 [(0, .ref (h 0)), (1, .int (zI p1))] := hl
  refine z_iload_n C0 dX3_isCoincidence_0 rfl (lv_at hl 1 rfl) ?_
  obtain ⟨r1, hc2, hf⟩ := zbind hf
  refine z_callSi (rest := []) C0 hP (zD hD rfl) hS [] rfl (zmJ6_bitCount_0f7a4 l D cI cZ _ p1 r1 hc2) (zkX3_138 ⟨by decide, by decide⟩ C0.2.2.2.2.1) rfl rfl rfl hl.1 (Nat.le_of_ble_eq_true rfl) dX3_isCoincidence_1 ⟨Nat.zero_le _, Nat.zero_le _⟩ rfl (Nat.le_of_ble_eq_true rfl) (fun H locs hP hS => ?_)
  have hP : va_P D vwCl ((wX h cI lagV deadV mannerV settingV keptRowV liveRowV shiftedRowV groupsV searchV deadUntilV settledV knownV tooLateV endedV)) H := hP
  refine z_aload_n C0 dX3_isCoincidence_4 rfl (lv_at hl 0 rfl) ?_
  refine zgX3_29 C0 hP 0 rfl (.ref (h 4)) rfl dX3_isCoincidence_5 ?_
  refine z_iconst C0 dX3_isCoincidence_8 ?_
  obtain ⟨g3, hf⟩ := zg_some hf
  refine z_iald C0 hP 4 rfl (Nat.le_of_ble_eq_true rfl) g3 dX3_isCoincidence_9 ?_
  refine z_icmplt C0 17 dX3_isCoincidence_10 (by decide) (fun c4 => ?_) (fun c4 => ?_)
  · have hf := zif_pos hf c4
    refine z_iconst C0 dX3_isCoincidence_17 ?_
    cases hf
    exact hret (Or.inl rfl) hP hS dX3_isCoincidence_18
  · have hf := zif_neg hf c4
    refine z_iconst C0 dX3_isCoincidence_13 ?_
    refine z_goto C0 18 dX3_isCoincidence_14 (by decide) ?_
    cases hf
    exact hret (Or.inr rfl) hP hS dX3_isCoincidence_18
