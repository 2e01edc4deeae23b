set_option maxHeartbeats 4000000 in
set_option maxRecDepth 100000 in
theorem zmX3_horizon (l : Launch) (D : va_G) (cI cZ : ClassId) (h : Nat → Nat) (sz : Nat) (lagV : (Nat → Int)) (deadV : (Nat → Int)) (mannerV : (Nat → Int)) (settingV : (Nat → Int)) (keptRowV : zRowT) (liveRowV : zRowT) (shiftedRowV : zRowT) (groupsV : zGrT) (searchV : zLsT) (deadUntilV : (Nat → Int)) (settledV : Int) (knownV : Int) (tooLateV : Int) (endedV : Int)  (o : Int) (hf : fX3_horizon (zk_X lagV deadV mannerV settingV keptRowV liveRowV shiftedRowV groupsV searchV deadUntilV settledV knownV tooLateV endedV) = some o) : Met l yX3_horizon (zW yX3_horizon cX3_horizon 1 (some .int)) rmX3_horizon (va_Pc [.ref (h 0)] (zPre D cI cZ ((wX h cI lagV deadV mannerV settingV keptRowV liveRowV shiftedRowV groupsV searchV deadUntilV settledV knownV tooLateV endedV)) sz)) (va_Qi (fun r' (_ : Unit) => r' = zI o) (fun _ t => va_P D vwCl ((wX h cI lagV deadV mannerV settingV keptRowV liveRowV shiftedRowV groupsV searchV deadUntilV settledV knownV tooLateV endedV)) t.heap) (va_A ((wX h cI lagV deadV mannerV settingV keptRowV liveRowV shiftedRowV groupsV searchV deadUntilV settledV knownV tooLateV endedV)) sz)) 0 0 (va_A ((wX h cI lagV deadV mannerV settingV keptRowV liveRowV shiftedRowV groupsV searchV deadUntilV settledV knownV tooLateV endedV)) sz) := by
  unfold fX3_horizon at hf
  refine z_enter_i (own := RX3) (by decide +kernel) rfl (Nat.le_of_ble_eq_true rfl) ?_
  intro p e s m args below meth c A Q C0 hP hD hS hret ls hl
  have hl : lv_has ls 1 [(0, .ref (h 0))] := hl
  refine z_aload_n C0 dX3_horizon_0 rfl (lv_at hl 0 rfl) ?_
  refine zgX3_98 C0 hP 0 rfl (.int (zI endedV)) rfl dX3_horizon_1 ?_
  refine z_ifeq C0 11 dX3_horizon_4 (by decide) (fun c5 => ?_) (fun c5 => ?_)
  · have hf := zif_pos hf c5
    refine z_aload_n C0 dX3_horizon_11 rfl (lv_at hl 0 rfl) ?_
    refine zgX3_35 C0 hP 0 rfl (.ref (h 5)) rfl dX3_horizon_12 ?_
    refine zgX3_74 C0 hP 5 rfl (.int (zI (zr_size keptRowV))) rfl dX3_horizon_15 ?_
    refine z_ifne C0 25 dX3_horizon_18 (by decide) (fun c4 => ?_) (fun c4 => ?_)
    · have hf := zif_neg hf c4
      refine z_aload_n C0 dX3_horizon_25 rfl (lv_at hl 0 rfl) ?_
      obtain ⟨r1, hc2, hf⟩ := zbind hf
      refine z_callFi (rest := []) C0 hP (zD hD rfl) hS (zmX3_latest l D cI cZ h _ lagV deadV mannerV settingV keptRowV liveRowV shiftedRowV groupsV searchV deadUntilV settledV knownV tooLateV endedV r1 hc2) (zkX3_212 ⟨by decide, by decide⟩ C0.2.2.2.2.1) 3 rfl rfl rfl rfl hl.1 (Nat.le_of_ble_eq_true rfl) dX3_horizon_26 ⟨Nat.zero_le _, Nat.zero_le _⟩ (fun H locs hP hS => ?_)
      have hP : va_P D vwCl ((wX h cI lagV deadV mannerV settingV keptRowV liveRowV shiftedRowV groupsV searchV deadUntilV settledV knownV tooLateV endedV)) H := hP
      refine z_aload_n C0 dX3_horizon_29 rfl (lv_at hl 0 rfl) ?_
      refine zgX3_29 C0 hP 0 rfl (.ref (h 4)) rfl dX3_horizon_30 ?_
      refine z_iconst C0 dX3_horizon_33 ?_
      obtain ⟨g3, hf⟩ := zg_some hf
      refine z_iald C0 hP 4 rfl (Nat.le_of_ble_eq_true rfl) g3 dX3_horizon_34 ?_
      refine z_isub C0 dX3_horizon_35 ?_
      cases hf
      exact hret hP hS dX3_horizon_36
    · have hf := zif_pos hf c4
      refine z_sipush C0 dX3_horizon_21 (by decide +kernel) ?_
      cases hf
      exact hret hP hS dX3_horizon_24
  · have hf := zif_neg hf c5
    refine z_sipush C0 dX3_horizon_7 (by decide +kernel) ?_
    cases hf
    exact hret hP hS dX3_horizon_10
