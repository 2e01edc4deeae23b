set_option maxHeartbeats 4000000 in
set_option maxRecDepth 100000 in
theorem zmX3_shutGroup (l : Launch) (D : va_G) (cI cZ : ClassId) (h : Nat → Nat) (sz : Nat) (lagV : (Nat → Int)) (deadV : (Nat → Int)) (mannerV : (Nat → Int)) (settingV : (Nat → Int)) (keptRowV : zRowT) (liveRowV : zRowT) (shiftedRowV : zRowT) (groupsV : zGrT) (searchV : zLsT) (deadUntilV : (Nat → Int)) (settledV : Int) (knownV : Int) (tooLateV : Int) (endedV : Int)  (o : zGrT × zLsT) (hf : fX3_shutGroup (zk_X lagV deadV mannerV settingV keptRowV liveRowV shiftedRowV groupsV searchV deadUntilV settledV knownV tooLateV endedV) = some o) : Met l yX3_shutGroup (zW yX3_shutGroup cX3_shutGroup 3 none) rmX3_shutGroup (va_Pc [.ref (h 0)] (zPreS D cI cZ ((wX h cI lagV deadV mannerV settingV keptRowV liveRowV shiftedRowV groupsV searchV deadUntilV settledV knownV tooLateV endedV)) sz)) (va_Qv (fun (_ : Unit) => True) (fun _ t => va_P D vwCl ((wX h cI lagV deadV mannerV settingV keptRowV liveRowV shiftedRowV o.1 o.2 deadUntilV settledV knownV tooLateV endedV)) t.heap) (va_A ((wX h cI lagV deadV mannerV settingV keptRowV liveRowV shiftedRowV groupsV searchV deadUntilV settledV knownV tooLateV endedV)) sz)) 0 0 (va_A ((wX h cI lagV deadV mannerV settingV keptRowV liveRowV shiftedRowV groupsV searchV deadUntilV settledV knownV tooLateV endedV)) sz) := by
  unfold fX3_shutGroup at hf
  refine z_enterS_v (own := RX3) (by decide +kernel) rfl (Nat.le_of_ble_eq_true rfl) ?_
  intro p e s m args below meth c A Q C0 hP hD hS hZ hret ls hl
  have hl : lv_has ls 3 [(0, .ref (h 0))] := hl
  refine z_aload_n C0 dX3_shutGroup_0 rfl (lv_at hl 0 rfl) ?_
  refine zgX3_48 C0 hP 0 rfl (.ref (h 17)) rfl dX3_shutGroup_1 ?_
  obtain ⟨r1, hc2, hf⟩ := zbind hf
  refine z_callVi (rest := []) C0 hP (zD hD rfl) hS [17, 18, 19, 20, 21, 22, 23] rfl (zmX0_pulses l D cI cZ (h 17) (h 18) (h 19) (h 20) (h 21) (h 22) (h 23) _ (zg_end groupsV) (zg_set groupsV) (zg_trackStart groupsV) (zg_trackSlope groupsV) (zg_trackSet groupsV) (zg_trackMisses groupsV) (zg_size groupsV) r1 hc2) (zkX3_203 ⟨by decide, by decide⟩ C0.2.2.2.2.1) rfl 0 rfl rfl rfl rfl hl.1 (Nat.le_of_ble_eq_true rfl) dX3_shutGroup_4 ⟨Nat.zero_le _, Nat.zero_le _⟩ rfl (Nat.le_of_ble_eq_true rfl) (fun H locs hP hS => ?_)
  have hP : va_P D vwCl ((wX h cI lagV deadV mannerV settingV keptRowV liveRowV shiftedRowV groupsV searchV deadUntilV settledV knownV tooLateV endedV)) H := hP
  refine z_istore_n C0 [(1, .int (zI r1)), (0, .ref (h 0))] dX3_shutGroup_7 rfl hl (by decide) rfl (fun ls hl => ?_)
  refine z_aload_n C0 dX3_shutGroup_8 rfl (lv_at hl 1 rfl) ?_
  refine zgX3_39 C0 hP 0 rfl (.ref (h 9)) rfl dX3_shutGroup_9 ?_
  refine z_iload_n C0 dX3_shutGroup_12 rfl (lv_at hl 0 rfl) ?_
  refine z_aload_n C0 dX3_shutGroup_13 rfl (lv_at hl 1 rfl) ?_
  refine zgX3_123 C0 hP 0 rfl (.int (zI knownV)) rfl dX3_shutGroup_14 ?_
  refine z_aload_n C0 dX3_shutGroup_17 rfl (lv_at hl 1 rfl) ?_
  refine zgX3_29 C0 hP 0 rfl (.ref (h 4)) rfl dX3_shutGroup_18 ?_
  refine z_iconst C0 dX3_shutGroup_21 ?_
  obtain ⟨g3, hf⟩ := zg_some hf
  refine z_iald C0 hP 4 rfl (Nat.le_of_ble_eq_true rfl) g3 dX3_shutGroup_22 ?_
  obtain ⟨r4, hc5, hf⟩ := zbind hf
  refine z_callVi (rest := []) C0 hP (zD hD rfl) hS [9, 10, 11, 12] rfl (zmX2_endOfGroup l D cI cZ (h 9) (h 10) (h 11) (h 12) _ (zr_when liveRowV) (zr_plane liveRowV) (zr_strip liveRowV) (zr_size liveRowV) r1 knownV (settingV (Int.toNat 1)) r4 hc5) (zkX3_160 ⟨by decide, by decide⟩ C0.2.2.2.2.1) rfl 2 rfl rfl rfl rfl hl.1 (Nat.le_of_ble_eq_true rfl) dX3_shutGroup_23 ⟨Nat.zero_le _, Nat.zero_le _⟩ rfl (Nat.le_of_ble_eq_true rfl) (fun H locs hP hS => ?_)
  have hP : va_P D vwCl ((wX h cI lagV deadV mannerV settingV keptRowV liveRowV shiftedRowV groupsV searchV deadUntilV settledV knownV tooLateV endedV)) H := hP
  refine z_istore_n C0 [(2, .int (zI r4)), (1, .int (zI r1)), (0, .ref (h 0))] dX3_shutGroup_26 rfl hl (by decide) rfl (fun ls hl => ?_)
  refine z_aload_n C0 dX3_shutGroup_27 rfl (lv_at hl 2 rfl) ?_
  refine zgX3_39 C0 hP 0 rfl (.ref (h 9)) rfl dX3_shutGroup_28 ?_
  refine z_iload_n C0 dX3_shutGroup_31 rfl (lv_at hl 1 rfl) ?_
  refine z_iload_n C0 dX3_shutGroup_32 rfl (lv_at hl 0 rfl) ?_
  refine z_aload_n C0 dX3_shutGroup_33 rfl (lv_at hl 2 rfl) ?_
  refine zgX3_55 C0 hP 0 rfl (.ref (h 24)) rfl dX3_shutGroup_34 ?_
  refine zgX3_236 C0 hP 24 rfl (.ref (h 25)) rfl dX3_shutGroup_37 ?_
  obtain ⟨r6, hc7, hf⟩ := zbind hf
  refine z_callVv (rest := []) C0 hP (zD hD rfl) hS [9, 10, 11, 12, 25] rfl (zmX2_putMemberStrips l D cI cZ (h 9) (h 10) (h 11) (h 12) (h 25) _ (zr_when liveRowV) (zr_plane liveRowV) (zr_strip liveRowV) (zr_size liveRowV) (zs_strips searchV) r1 r4 r6 hc7) (zkX3_239 ⟨by decide, by decide⟩ C0.2.2.2.2.1) rfl 2 rfl rfl rfl rfl hl.1 (Nat.le_of_ble_eq_true rfl) dX3_shutGroup_40 ⟨Nat.zero_le _, Nat.zero_le _⟩ rfl (Nat.le_of_ble_eq_true rfl) (fun H locs hP hS => ?_)
  have hP : va_P D vwCl ((wX h cI lagV deadV mannerV settingV keptRowV liveRowV shiftedRowV groupsV (zss_strips searchV r6) deadUntilV settledV knownV tooLateV endedV)) H := hP
  refine z_aload_n C0 dX3_shutGroup_43 rfl (lv_at hl 2 rfl) ?_
  refine zgX3_55 C0 hP 0 rfl (.ref (h 24)) rfl dX3_shutGroup_44 ?_
  refine z_aload_n C0 dX3_shutGroup_47 rfl (lv_at hl 2 rfl) ?_
  refine zgX3_29 C0 hP 0 rfl (.ref (h 4)) rfl dX3_shutGroup_48 ?_
  refine z_iconst C0 dX3_shutGroup_51 ?_
  obtain ⟨g8, hf⟩ := zg_some hf
  refine z_iald C0 hP 4 rfl (Nat.le_of_ble_eq_true rfl) g8 dX3_shutGroup_52 ?_
  refine z_aload_n C0 dX3_shutGroup_53 rfl (lv_at hl 2 rfl) ?_
  refine zgX3_29 C0 hP 0 rfl (.ref (h 4)) rfl dX3_shutGroup_54 ?_
  refine z_iconst C0 dX3_shutGroup_57 ?_
  obtain ⟨g9, hf⟩ := zg_some hf
  refine z_iald C0 hP 4 rfl (Nat.le_of_ble_eq_true rfl) g9 dX3_shutGroup_58 ?_
  obtain ⟨r10, hc11, hf⟩ := zbind hf
  refine z_callVvS (rest := []) C0 hP (zD hD rfl) hS hZ [24, 25] rfl (zmX1_run l D cI cZ (h 24) (h 25) _ r6 (zs_start searchV) (zs_slope searchV) (zs_set searchV) (zs_misses searchV) (settingV (Int.toNat 3)) (settingV (Int.toNat 2)) r10 hc11) (zkX3_243 ⟨by decide, by decide⟩ C0.2.2.2.2.1) rfl 1 rfl rfl rfl rfl hl.1 (Nat.le_of_ble_eq_true rfl) dX3_shutGroup_59 ⟨Nat.zero_le _, Nat.zero_le _⟩ rfl (Nat.le_of_ble_eq_true rfl) (fun H locs hP hS => ?_)
  have hP : va_P D vwCl ((wX h cI lagV deadV mannerV settingV keptRowV liveRowV shiftedRowV groupsV (zss_misses (zss_set (zss_slope (zss_start (zss_strips searchV r6) r10.1) r10.2.1) r10.2.2.1) r10.2.2.2) deadUntilV settledV knownV tooLateV endedV)) H := hP
  refine z_aload_n C0 dX3_shutGroup_62 rfl (lv_at hl 2 rfl) ?_
  refine zgX3_48 C0 hP 0 rfl (.ref (h 17)) rfl dX3_shutGroup_63 ?_
  refine z_iload_n C0 dX3_shutGroup_66 rfl (lv_at hl 0 rfl) ?_
  refine z_aload_n C0 dX3_shutGroup_67 rfl (lv_at hl 2 rfl) ?_
  refine zgX3_39 C0 hP 0 rfl (.ref (h 9)) rfl dX3_shutGroup_68 ?_
  refine z_iload_n C0 dX3_shutGroup_71 rfl (lv_at hl 1 rfl) ?_
  refine z_iload_n C0 dX3_shutGroup_72 rfl (lv_at hl 0 rfl) ?_
  obtain ⟨r12, hc13, hf⟩ := zbind hf
  refine z_callVi (rest := [.int (zI r4), .ref (h 17)]) C0 hP (zD hD rfl) hS [9, 10, 11, 12] rfl (zmX2_planesOf l D cI cZ (h 9) (h 10) (h 11) (h 12) _ (zr_when liveRowV) (zr_plane liveRowV) (zr_strip liveRowV) (zr_size liveRowV) r1 r4 r12 hc13) (zkX3_163 ⟨by decide, by decide⟩ C0.2.2.2.2.1) rfl 2 rfl rfl rfl rfl hl.1 (Nat.le_of_ble_eq_true rfl) dX3_shutGroup_73 ⟨Nat.zero_le _, Nat.zero_le _⟩ rfl (Nat.le_of_ble_eq_true rfl) (fun H locs hP hS => ?_)
  have hP : va_P D vwCl ((wX h cI lagV deadV mannerV settingV keptRowV liveRowV shiftedRowV groupsV (zss_misses (zss_set (zss_slope (zss_start (zss_strips searchV r6) r10.1) r10.2.1) r10.2.2.1) r10.2.2.2) deadUntilV settledV knownV tooLateV endedV)) H := hP
  refine z_aload_n C0 dX3_shutGroup_76 rfl (lv_at hl 2 rfl) ?_
  refine zgX3_55 C0 hP 0 rfl (.ref (h 24)) rfl dX3_shutGroup_77 ?_
  obtain ⟨r14, hc15, hf⟩ := zbind hf
  refine z_callVv (rest := []) C0 hP (zD hD rfl) hS [17, 18, 19, 20, 21, 22, 23, 24, 25] rfl (zmX0_add l D cI cZ (h 17) (h 18) (h 19) (h 20) (h 21) (h 22) (h 23) (h 24) (h 25) _ (zg_end groupsV) (zg_set groupsV) (zg_trackStart groupsV) (zg_trackSlope groupsV) (zg_trackSet groupsV) (zg_trackMisses groupsV) (zg_size groupsV) r6 r10.1 r10.2.1 r10.2.2.1 r10.2.2.2 r4 r12 r14 hc15) (zkX3_247 ⟨by decide, by decide⟩ C0.2.2.2.2.1) rfl 0 rfl rfl rfl rfl hl.1 (Nat.le_of_ble_eq_true rfl) dX3_shutGroup_80 ⟨Nat.zero_le _, Nat.zero_le _⟩ rfl (Nat.le_of_ble_eq_true rfl) (fun H locs hP hS => ?_)
  have hP : va_P D vwCl ((wX h cI lagV deadV mannerV settingV keptRowV liveRowV shiftedRowV (zgs_size (zgs_trackMisses (zgs_trackSet (zgs_trackSlope (zgs_trackStart (zgs_set (zgs_end groupsV r14.1) r14.2.1) r14.2.2.1) r14.2.2.2.1) r14.2.2.2.2.1) r14.2.2.2.2.2.1) r14.2.2.2.2.2.2) (zss_misses (zss_set (zss_slope (zss_start (zss_strips searchV r6) r10.1) r10.2.1) r10.2.2.1) r10.2.2.2) deadUntilV settledV knownV tooLateV endedV)) H := hP
  cases hf
  exact hret hP hS dX3_shutGroup_83
