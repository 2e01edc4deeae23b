set_option maxHeartbeats 4000000 in
set_option maxRecDepth 100000 in
theorem zmX3_latest (l : Launch) (D : va_G) (cI cZ : ClassId) (h : Nat → Nat) (sz : Nat) (lagV : (Nat → Int)) (deadV : (Nat → Int)) (mannerV : (Nat → Int)) (settingV : (Nat → Int)) (keptRowV : zRowT) (liveRowV : zRowT) (shiftedRowV : zRowT) (groupsV : zGrT) (searchV : zLsT) (deadUntilV : (Nat → Int)) (settledV : Int) (knownV : Int) (tooLateV : Int) (endedV : Int)  (o : Int) (hf : fX3_latest (zk_X lagV deadV mannerV settingV keptRowV liveRowV shiftedRowV groupsV searchV deadUntilV settledV knownV tooLateV endedV) = some o) : Met l yX3_latest (zW yX3_latest cX3_latest 2 (some .int)) rmX3_latest (va_Pc [.ref (h 0)] (zPre D cI cZ ((wX h cI lagV deadV mannerV settingV keptRowV liveRowV shiftedRowV groupsV searchV deadUntilV settledV knownV tooLateV endedV)) sz)) (va_Qi (fun r' (_ : Unit) => r' = zI o) (fun _ t => va_P D vwCl ((wX h cI lagV deadV mannerV settingV keptRowV liveRowV shiftedRowV groupsV searchV deadUntilV settledV knownV tooLateV endedV)) t.heap) (va_A ((wX h cI lagV deadV mannerV settingV keptRowV liveRowV shiftedRowV groupsV searchV deadUntilV settledV knownV tooLateV endedV)) sz)) 0 0 (va_A ((wX h cI lagV deadV mannerV settingV keptRowV liveRowV shiftedRowV groupsV searchV deadUntilV settledV knownV tooLateV endedV)) sz) := by
  unfold fX3_latest at hf
  refine z_enter_i (own := RX3) (by decide +kernel) rfl (Nat.le_of_ble_eq_true rfl) ?_
  intro p e s m args below meth c A Q C0 hP hD hS hret ls hl
  have hl : lv_has ls 2 [(0, .ref (h 0))] := hl
  refine z_aload_n C0 dX3_latest_0 rfl (lv_at hl 0 rfl) ?_
  refine zgX3_35 C0 hP 0 rfl (.ref (h 5)) rfl dX3_latest_1 ?_
  refine zgX3_74 C0 hP 5 rfl (.int (zI (zr_size keptRowV))) rfl dX3_latest_4 ?_
  refine z_iconst C0 dX3_latest_7 ?_
  refine z_isub C0 dX3_latest_8 ?_
  obtain ⟨v1, hv1, hf⟩ := zl_some hf
  refine z_name hv1 ?_
  refine z_istore_n C0 [(1, .int (zI v1)), (0, .ref (h 0))] dX3_latest_9 rfl hl (by decide) rfl (fun ls hl => ?_)
  refine z_aload_n C0 dX3_latest_10 rfl (lv_at hl 1 rfl) ?_
  refine zgX3_35 C0 hP 0 rfl (.ref (h 5)) rfl dX3_latest_11 ?_
  refine z_iload_n C0 dX3_latest_14 rfl (lv_at hl 0 rfl) ?_
  obtain ⟨r2, hc3, hf⟩ := zbind hf
  refine z_callVi (rest := []) C0 hP (zD hD rfl) hS [5, 6, 7, 8] rfl (zmX2_has l D cI cZ (h 5) (h 6) (h 7) (h 8) _ (zr_when keptRowV) (zr_plane keptRowV) (zr_strip keptRowV) (zr_size keptRowV) v1 r2 hc3) (zkX3_147 ⟨by decide, by decide⟩ C0.2.2.2.2.1) rfl 2 rfl rfl rfl rfl hl.1 (Nat.le_of_ble_eq_true rfl) dX3_latest_15 ⟨Nat.zero_le _, Nat.zero_le _⟩ rfl (Nat.le_of_ble_eq_true rfl) (fun H locs hP hS => ?_)
  have hP : va_P D vwCl ((wX h cI lagV deadV mannerV settingV keptRowV liveRowV shiftedRowV groupsV searchV deadUntilV settledV knownV tooLateV endedV)) H := hP
  refine z_ifeq C0 33 dX3_latest_18 (by decide) (fun c5 => ?_) (fun c5 => ?_)
  · have hf := zif_pos hf c5
    refine z_iconst C0 dX3_latest_33 ?_
    cases hf
    exact hret hP hS dX3_latest_34
  · have hf := zif_neg hf c5
    refine z_aload_n C0 dX3_latest_21 rfl (lv_at hl 1 rfl) ?_
    refine zgX3_35 C0 hP 0 rfl (.ref (h 5)) rfl dX3_latest_22 ?_
    refine zgX3_150 C0 hP 5 rfl (.ref (h 6)) rfl dX3_latest_25 ?_
    refine z_iload_n C0 dX3_latest_28 rfl (lv_at hl 0 rfl) ?_
    obtain ⟨g4, hf⟩ := zg_some hf
    refine z_iald C0 hP 6 rfl (Nat.le_of_ble_eq_true rfl) g4 dX3_latest_29 ?_
    refine z_goto C0 34 dX3_latest_30 (by decide) ?_
    cases hf
    exact hret hP hS dX3_latest_34
