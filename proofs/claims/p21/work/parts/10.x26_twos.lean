set_option maxHeartbeats 4000000 in
set_option maxRecDepth 100000 in
theorem zmX3_twos (l : Launch) (D : va_G) (cI cZ : ClassId) (h : Nat → Nat) (sz : Nat) (lagV : (Nat → Int)) (deadV : (Nat → Int)) (mannerV : (Nat → Int)) (settingV : (Nat → Int)) (keptRowV : zRowT) (liveRowV : zRowT) (shiftedRowV : zRowT) (groupsV : zGrT) (searchV : zLsT) (deadUntilV : (Nat → Int)) (settledV : Int) (knownV : Int) (tooLateV : Int) (endedV : Int) (p1 : Int) (p2 : Int) (p3 : Int) (o : Int) (hf : fX3_twos (zk_X lagV deadV mannerV settingV keptRowV liveRowV shiftedRowV groupsV searchV deadUntilV settledV knownV tooLateV endedV) p1 p2 p3 = some o) : Met l yX3_twos (zW yX3_twos cX3_twos 4 (some .int)) rmX3_twos (va_Pc [.ref (h 0), .int (zI p1), .int (zI p2), .int (zI p3)] (zPre D cI cZ ((wX h cI lagV deadV mannerV settingV keptRowV liveRowV shiftedRowV groupsV searchV deadUntilV settledV knownV tooLateV endedV)) sz)) (va_Qi (fun r' (_ : Unit) => r' = zI o) (fun _ t => va_P D vwCl ((wX h cI lagV deadV mannerV settingV keptRowV liveRowV shiftedRowV groupsV searchV deadUntilV settledV knownV tooLateV endedV)) t.heap) (va_A ((wX h cI lagV deadV mannerV settingV keptRowV liveRowV shiftedRowV groupsV searchV deadUntilV settledV knownV tooLateV endedV)) sz)) 0 0 (va_A ((wX h cI lagV deadV mannerV settingV keptRowV liveRowV shiftedRowV groupsV searchV deadUntilV settledV knownV tooLateV endedV)) sz) := by
  unfold fX3_twos at hf
  refine z_enter_i (own := RX3) (by decide +kernel) rfl (Nat.le_of_ble_eq_true rfl) ?_
  intro p e s m args below meth c A Q C0 hP hD hS hret ls hl
  have hl : lv_has ls 4 [(0, .ref (h 0)), (1, .int (zI p1)), (2, .int (zI p2)), (3, .int (zI p3))] := hl
  refine z_iload_n C0 dX3_twos_0 rfl (lv_at hl 1 rfl) ?_
  obtain ⟨r1, hc2, hf⟩ := zbind hf
  refine z_callSi (rest := []) C0 hP (zD hD rfl) hS [] rfl (zmX3_isPlane l D cI cZ _ p1 r1 hc2) (zkX3_62 ⟨by decide, by decide⟩ C0.2.2.2.2.1) rfl rfl rfl hl.1 (Nat.le_of_ble_eq_true rfl) dX3_twos_1 ⟨Nat.zero_le _, Nat.zero_le _⟩ rfl (Nat.le_of_ble_eq_true rfl) (fun H locs hP hS => ?_)
  have hP : va_P D vwCl ((wX h cI lagV deadV mannerV settingV keptRowV liveRowV shiftedRowV groupsV searchV deadUntilV settledV knownV tooLateV endedV)) H := hP
  refine z_ifeq C0 14 dX3_twos_4 (by decide) (fun c12 => ?_) (fun c12 => ?_)
  · have hf := zif_pos hf c12
    refine z_iconst C0 dX3_twos_14 ?_
    cases hf
    exact hret hP hS dX3_twos_15
  · have hf := zif_neg hf c12
    refine z_iload_n C0 dX3_twos_7 rfl (lv_at hl 2 rfl) ?_
    obtain ⟨r3, hc4, hf⟩ := zbind hf
    refine z_callSi (rest := []) C0 hP (zD hD rfl) hS [] rfl (zmX3_isPlane l D cI cZ _ p2 r3 hc4) (zkX3_62 ⟨by decide, by decide⟩ C0.2.2.2.2.1) rfl rfl rfl hl.1 (Nat.le_of_ble_eq_true rfl) dX3_twos_8 ⟨Nat.zero_le _, Nat.zero_le _⟩ rfl (Nat.le_of_ble_eq_true rfl) (fun H locs hP hS => ?_)
    have hP : va_P D vwCl ((wX h cI lagV deadV mannerV settingV keptRowV liveRowV shiftedRowV groupsV searchV deadUntilV settledV knownV tooLateV endedV)) H := hP
    refine z_ifne C0 16 dX3_twos_11 (by decide) (fun c11 => ?_) (fun c11 => ?_)
    · have hf := zif_neg hf c11
      refine z_iload_n C0 dX3_twos_16 rfl (lv_at hl 3 rfl) ?_
      refine z_sipush C0 dX3_twos_17 (by decide +kernel) ?_
      refine z_sipush C0 dX3_twos_20 (by decide +kernel) ?_
      obtain ⟨r5, hc6, hf⟩ := zbind hf
      refine z_callSi (rest := []) C0 hP (zD hD rfl) hS [] rfl (zmX3_isWithin l D cI cZ _ p3 (-200) 200 r5 hc6) (zkX3_66 ⟨by decide, by decide⟩ C0.2.2.2.2.1) rfl rfl rfl hl.1 (Nat.le_of_ble_eq_true rfl) dX3_twos_23 ⟨Nat.zero_le _, Nat.zero_le _⟩ rfl (Nat.le_of_ble_eq_true rfl) (fun H locs hP hS => ?_)
      have hP : va_P D vwCl ((wX h cI lagV deadV mannerV settingV keptRowV liveRowV shiftedRowV groupsV searchV deadUntilV settledV knownV tooLateV endedV)) H := hP
      refine z_ifne C0 32 dX3_twos_26 (by decide) (fun c10 => ?_) (fun c10 => ?_)
      · have hf := zif_neg hf c10
        refine z_iload_n C0 dX3_twos_32 rfl (lv_at hl 1 rfl) ?_
        refine z_iload_n C0 dX3_twos_33 rfl (lv_at hl 2 rfl) ?_
        refine z_icmpne C0 40 dX3_twos_34 (by decide) (fun c9 => ?_) (fun c9 => ?_)
        · have hf := zif_neg hf c9
          refine z_aload_n C0 dX3_twos_40 rfl (lv_at hl 0 rfl) ?_
          refine zgX3_39 C0 hP 0 rfl (.ref (h 9)) rfl dX3_twos_41 ?_
          refine z_iload_n C0 dX3_twos_44 rfl (lv_at hl 1 rfl) ?_
          refine z_iload_n C0 dX3_twos_45 rfl (lv_at hl 2 rfl) ?_
          refine z_iload_n C0 dX3_twos_46 rfl (lv_at hl 3 rfl) ?_
          refine z_aload_n C0 dX3_twos_47 rfl (lv_at hl 0 rfl) ?_
          refine zgX3_123 C0 hP 0 rfl (.int (zI knownV)) rfl dX3_twos_48 ?_
          obtain ⟨r7, hc8, hf⟩ := zbind hf
          refine z_callVi (rest := []) C0 hP (zD hD rfl) hS [9, 10, 11, 12] rfl (zmX2_countApart l D cI cZ (h 9) (h 10) (h 11) (h 12) _ (zr_when liveRowV) (zr_plane liveRowV) (zr_strip liveRowV) (zr_size liveRowV) p1 p2 p3 knownV r7 hc8) (zkX3_169 ⟨by decide, by decide⟩ C0.2.2.2.2.1) rfl 2 rfl rfl rfl rfl hl.1 (Nat.le_of_ble_eq_true rfl) dX3_twos_51 ⟨Nat.zero_le _, Nat.zero_le _⟩ rfl (Nat.le_of_ble_eq_true rfl) (fun H locs hP hS => ?_)
          have hP : va_P D vwCl ((wX h cI lagV deadV mannerV settingV keptRowV liveRowV shiftedRowV groupsV searchV deadUntilV settledV knownV tooLateV endedV)) H := hP
          cases hf
          exact hret hP hS dX3_twos_54
        · have hf := zif_pos hf c9
          refine z_bipush C0 dX3_twos_37 (by decide +kernel) ?_
          cases hf
          exact hret hP hS dX3_twos_39
      · have hf := zif_pos hf c10
        refine z_bipush C0 dX3_twos_29 (by decide +kernel) ?_
        cases hf
        exact hret hP hS dX3_twos_31
    · have hf := zif_pos hf c11
      refine z_iconst C0 dX3_twos_14 ?_
      cases hf
      exact hret hP hS dX3_twos_15
