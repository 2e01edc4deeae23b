set_option maxHeartbeats 4000000 in
set_option maxRecDepth 100000 in
theorem zmX3_anew (l : Launch) (D : va_G) (cI cZ : ClassId) (h : Nat → Nat) (sz : Nat) (lagV : (Nat → Int)) (deadV : (Nat → Int)) (mannerV : (Nat → Int)) (settingV : (Nat → Int)) (keptRowV : zRowT) (liveRowV : zRowT) (shiftedRowV : zRowT) (groupsV : zGrT) (searchV : zLsT) (deadUntilV : (Nat → Int)) (settledV : Int) (knownV : Int) (tooLateV : Int) (endedV : Int)  (o : Int × zRowT × zRowT × zGrT × (Nat → Int) × Int × Int × Int × Int) (hf : fX3_anew (zk_X lagV deadV mannerV settingV keptRowV liveRowV shiftedRowV groupsV searchV deadUntilV settledV knownV tooLateV endedV) = some o) : Met l yX3_anew (zW yX3_anew cX3_anew 2 (some .int)) rmX3_anew (va_Pc [.ref (h 0)] (zPre D cI cZ ((wX h cI lagV deadV mannerV settingV keptRowV liveRowV shiftedRowV groupsV searchV deadUntilV settledV knownV tooLateV endedV)) sz)) (va_Qi (fun r' (_ : Unit) => r' = zI o.1) (fun _ t => va_P D vwCl ((wX h cI lagV deadV mannerV settingV o.2.1 o.2.2.1 shiftedRowV o.2.2.2.1 searchV o.2.2.2.2.1 o.2.2.2.2.2.1 o.2.2.2.2.2.2.1 o.2.2.2.2.2.2.2.1 o.2.2.2.2.2.2.2.2)) t.heap) (va_A ((wX h cI lagV deadV mannerV settingV keptRowV liveRowV shiftedRowV groupsV searchV deadUntilV settledV knownV tooLateV endedV)) sz)) 0 0 (va_A ((wX h cI lagV deadV mannerV settingV keptRowV liveRowV shiftedRowV groupsV searchV deadUntilV settledV knownV tooLateV endedV)) sz) := by
  unfold fX3_anew at hf
  refine z_enter_i (own := RX3) (by decide +kernel) rfl (Nat.le_of_ble_eq_true rfl) ?_
  intro p e s m args below meth c A Q C0 hP hD hS hret ls hl
  have hl : lv_has ls 2 [(0, .ref (h 0))] := hl
  refine z_aload_n C0 dX3_anew_0 rfl (lv_at hl 0 rfl) ?_
  refine zgX3_35 C0 hP 0 rfl (.ref (h 5)) rfl dX3_anew_1 ?_
  refine zgX3_74 C0 hP 5 rfl (.int (zI (zr_size keptRowV))) rfl dX3_anew_4 ?_
  refine z_istore_n C0 [(1, .int (zI (zr_size keptRowV))), (0, .ref (h 0))] dX3_anew_7 rfl hl (by decide) rfl (fun ls hl => ?_)
  refine z_aload_n C0 dX3_anew_8 rfl (lv_at hl 1 rfl) ?_
  refine zgX3_35 C0 hP 0 rfl (.ref (h 5)) rfl dX3_anew_9 ?_
  refine z_iconst C0 dX3_anew_12 ?_
  refine zpX3_74 C0 hP (zD hD rfl) hS 5 rfl (Nat.le_of_ble_eq_true rfl) dX3_anew_13 (fun H locs hP hS => ?_)
  have hP : va_P D vwCl ((wX h cI lagV deadV mannerV settingV (zrs_size keptRowV 0) liveRowV shiftedRowV groupsV searchV deadUntilV settledV knownV tooLateV endedV)) H := hP
  refine z_aload_n C0 dX3_anew_16 rfl (lv_at hl 1 rfl) ?_
  refine zgX3_39 C0 hP 0 rfl (.ref (h 9)) rfl dX3_anew_17 ?_
  refine z_iconst C0 dX3_anew_20 ?_
  refine zpX3_74 C0 hP (zD hD rfl) hS 9 rfl (Nat.le_of_ble_eq_true rfl) dX3_anew_21 (fun H locs hP hS => ?_)
  have hP : va_P D vwCl ((wX h cI lagV deadV mannerV settingV (zrs_size keptRowV 0) (zrs_size liveRowV 0) shiftedRowV groupsV searchV deadUntilV settledV knownV tooLateV endedV)) H := hP
  refine z_aload_n C0 dX3_anew_24 rfl (lv_at hl 1 rfl) ?_
  refine zgX3_48 C0 hP 0 rfl (.ref (h 17)) rfl dX3_anew_25 ?_
  refine z_iconst C0 dX3_anew_28 ?_
  refine zpX3_116 C0 hP (zD hD rfl) hS 17 rfl (Nat.le_of_ble_eq_true rfl) dX3_anew_29 (fun H locs hP hS => ?_)
  have hP : va_P D vwCl ((wX h cI lagV deadV mannerV settingV (zrs_size keptRowV 0) (zrs_size liveRowV 0) shiftedRowV (zgs_size groupsV 0) searchV deadUntilV settledV knownV tooLateV endedV)) H := hP
  refine z_aload_n C0 dX3_anew_32 rfl (lv_at hl 1 rfl) ?_
  refine zgX3_59 C0 hP 0 rfl (.ref (h 26)) rfl dX3_anew_33 ?_
  refine z_iconst C0 dX3_anew_36 ?_
  obtain ⟨r1, hc2, hf⟩ := zbind hf
  refine z_callSv (rest := []) C0 hP (zD hD rfl) hS [26] rfl (zmJ7_fill_53178 l D cI cZ (h 26) _ deadUntilV 0 r1 hc2) (zkX3_117 ⟨by decide, by decide⟩ C0.2.2.2.2.1) rfl rfl rfl hl.1 (Nat.le_of_ble_eq_true rfl) dX3_anew_37 ⟨Nat.zero_le _, Nat.zero_le _⟩ rfl (Nat.le_of_ble_eq_true rfl) (fun H locs hP hS => ?_)
  have hP : va_P D vwCl ((wX h cI lagV deadV mannerV settingV (zrs_size keptRowV 0) (zrs_size liveRowV 0) shiftedRowV (zgs_size groupsV 0) searchV r1 settledV knownV tooLateV endedV)) H := hP
  refine z_aload_n C0 dX3_anew_40 rfl (lv_at hl 1 rfl) ?_
  refine z_iconst C0 dX3_anew_41 ?_
  refine zpX3_86 C0 hP (zD hD rfl) hS 0 rfl (Nat.le_of_ble_eq_true rfl) dX3_anew_42 (fun H locs hP hS => ?_)
  have hP : va_P D vwCl ((wX h cI lagV deadV mannerV settingV (zrs_size keptRowV 0) (zrs_size liveRowV 0) shiftedRowV (zgs_size groupsV 0) searchV r1 0 knownV tooLateV endedV)) H := hP
  refine z_aload_n C0 dX3_anew_45 rfl (lv_at hl 1 rfl) ?_
  refine z_iconst C0 dX3_anew_46 ?_
  refine zpX3_123 C0 hP (zD hD rfl) hS 0 rfl (Nat.le_of_ble_eq_true rfl) dX3_anew_47 (fun H locs hP hS => ?_)
  have hP : va_P D vwCl ((wX h cI lagV deadV mannerV settingV (zrs_size keptRowV 0) (zrs_size liveRowV 0) shiftedRowV (zgs_size groupsV 0) searchV r1 0 0 tooLateV endedV)) H := hP
  refine z_aload_n C0 dX3_anew_50 rfl (lv_at hl 1 rfl) ?_
  refine z_iconst C0 dX3_anew_51 ?_
  refine zpX3_106 C0 hP (zD hD rfl) hS 0 rfl (Nat.le_of_ble_eq_true rfl) dX3_anew_52 (fun H locs hP hS => ?_)
  have hP : va_P D vwCl ((wX h cI lagV deadV mannerV settingV (zrs_size keptRowV 0) (zrs_size liveRowV 0) shiftedRowV (zgs_size groupsV 0) searchV r1 0 0 0 endedV)) H := hP
  refine z_aload_n C0 dX3_anew_55 rfl (lv_at hl 1 rfl) ?_
  refine z_iconst C0 dX3_anew_56 ?_
  refine zpX3_98 C0 hP (zD hD rfl) hS 0 rfl (Or.inl rfl) (Nat.le_of_ble_eq_true rfl) dX3_anew_57 (fun H locs hP hS => ?_)
  have hP : va_P D vwCl ((wX h cI lagV deadV mannerV settingV (zrs_size keptRowV 0) (zrs_size liveRowV 0) shiftedRowV (zgs_size groupsV 0) searchV r1 0 0 0 0)) H := hP
  refine z_iload_n C0 dX3_anew_60 rfl (lv_at hl 0 rfl) ?_
  cases hf
  exact hret hP hS dX3_anew_61
