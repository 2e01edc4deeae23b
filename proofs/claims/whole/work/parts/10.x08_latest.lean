set_option maxHeartbeats 4000000 in
set_option maxRecDepth 100000 in
theorem zmX3_latest (l : Launch) (D : va_G) (cI cZ : ClassId) (h : Nat → Nat) (sz : Nat) (lagV : (Nat → Int)) (deadV : (Nat → Int)) (mannerV : (Nat → Int)) (settingV : (Nat → Int)) (keptRowV : zRowT) (liveRowV : zRowT) (shiftedRowV : zRowT) (groupsV : zGrT) (searchV : zLsT) (deadUntilV : (Nat → Int)) (settledV : Int) (knownV : Int) (tooLateV : Int) (endedV : Int)  (o : Int) (hf : fX3_latest (zk_X lagV deadV mannerV settingV keptRowV liveRowV shiftedRowV groupsV searchV deadUntilV settledV knownV tooLateV endedV) = some o) : Met l yX3_latest (zW yX3_latest cX3_latest 1 (some .int)) rmX3_latest (va_Pc [.ref (h 0)] (zPre D cI cZ ((wX h cI lagV deadV mannerV settingV keptRowV liveRowV shiftedRowV groupsV searchV deadUntilV settledV knownV tooLateV endedV)) sz)) (va_Qi (fun r' (_ : Unit) => r' = zI o) (fun _ t => va_P D vwCl ((wX h cI lagV deadV mannerV settingV keptRowV liveRowV shiftedRowV groupsV searchV deadUntilV settledV knownV tooLateV endedV)) t.heap) (va_A ((wX h cI lagV deadV mannerV settingV keptRowV liveRowV shiftedRowV groupsV searchV deadUntilV settledV knownV tooLateV endedV)) sz)) 0 0 (va_A ((wX h cI lagV deadV mannerV settingV keptRowV liveRowV shiftedRowV groupsV searchV deadUntilV settledV knownV tooLateV endedV)) sz) := by
  unfold fX3_latest at hf
  refine z_enter_i (own := RX3) (by decide +kernel) rfl (Nat.le_of_ble_eq_true rfl) ?_
  intro p e s m args below meth c A Q C0 hP hD hS hret ls hl
  have hl : lv_has ls 1 [(0, .ref (h 0))] := hl
  refine z_aload_n C0 dX3_latest_0 rfl (lv_at hl 0 rfl) ?_
  refine zgX3_35 C0 hP 0 rfl (.ref (h 5)) rfl dX3_latest_1 ?_
  refine zgX3_74 C0 hP 5 rfl (.int (zI (zr_size keptRowV))) rfl dX3_latest_4 ?_
  refine z_ifle C0 30 dX3_latest_7 (by decide) (fun c2 => ?_) (fun c2 => ?_)
  · have hf := zif_pos hf c2
    refine z_iconst C0 dX3_latest_30 ?_
    cases hf
    exact hret hP hS dX3_latest_31
  · have hf := zif_neg hf c2
    refine z_aload_n C0 dX3_latest_10 rfl (lv_at hl 0 rfl) ?_
    refine zgX3_35 C0 hP 0 rfl (.ref (h 5)) rfl dX3_latest_11 ?_
    refine zgX3_132 C0 hP 5 rfl (.ref (h 6)) rfl dX3_latest_14 ?_
    refine z_aload_n C0 dX3_latest_17 rfl (lv_at hl 0 rfl) ?_
    refine zgX3_35 C0 hP 0 rfl (.ref (h 5)) rfl dX3_latest_18 ?_
    refine zgX3_74 C0 hP 5 rfl (.int (zI (zr_size keptRowV))) rfl dX3_latest_21 ?_
    refine z_iconst C0 dX3_latest_24 ?_
    refine z_isub C0 dX3_latest_25 ?_
    obtain ⟨g1, hf⟩ := zg_some hf
    refine z_iald C0 hP 6 rfl (Nat.le_of_ble_eq_true rfl) g1 dX3_latest_26 ?_
    refine z_goto C0 31 dX3_latest_27 (by decide) ?_
    cases hf
    exact hret hP hS dX3_latest_31
