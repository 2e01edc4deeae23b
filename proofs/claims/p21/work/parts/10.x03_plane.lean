set_option maxHeartbeats 4000000 in
set_option maxRecDepth 100000 in
theorem zmX3_plane (l : Launch) (D : va_G) (cI cZ : ClassId) (h : Nat → Nat) (sz : Nat) (lagV : (Nat → Int)) (deadV : (Nat → Int)) (mannerV : (Nat → Int)) (settingV : (Nat → Int)) (keptRowV : zRowT) (liveRowV : zRowT) (shiftedRowV : zRowT) (groupsV : zGrT) (searchV : zLsT) (deadUntilV : (Nat → Int)) (settledV : Int) (knownV : Int) (tooLateV : Int) (endedV : Int) (p1 : Int) (p2 : Int) (p3 : Int) (p4 : Int) (o : Int × (Nat → Int) × (Nat → Int) × (Nat → Int)) (hf : fX3_plane (zk_X lagV deadV mannerV settingV keptRowV liveRowV shiftedRowV groupsV searchV deadUntilV settledV knownV tooLateV endedV) p1 p2 p3 p4 = some o) : Met l yX3_plane (zW yX3_plane cX3_plane 5 (some .int)) rmX3_plane (va_Pc [.ref (h 0), .int (zI p1), .int (zI p2), .int (zI p3), .int (zI p4)] (zPre D cI cZ ((wX h cI lagV deadV mannerV settingV keptRowV liveRowV shiftedRowV groupsV searchV deadUntilV settledV knownV tooLateV endedV)) sz)) (va_Qi (fun r' (_ : Unit) => r' = zI o.1) (fun _ t => va_P D vwCl ((wX h cI o.2.1 o.2.2.1 o.2.2.2 settingV keptRowV liveRowV shiftedRowV groupsV searchV deadUntilV settledV knownV tooLateV endedV)) t.heap) (va_A ((wX h cI lagV deadV mannerV settingV keptRowV liveRowV shiftedRowV groupsV searchV deadUntilV settledV knownV tooLateV endedV)) sz)) 0 0 (va_A ((wX h cI lagV deadV mannerV settingV keptRowV liveRowV shiftedRowV groupsV searchV deadUntilV settledV knownV tooLateV endedV)) sz) := by
  unfold fX3_plane at hf
  refine z_enter_i (own := RX3) (by decide +kernel) rfl (Nat.le_of_ble_eq_true rfl) ?_
  intro p e s m args below meth c A Q C0 hP hD hS hret ls hl
  have hl : lv_has ls 5 [(0, .ref (h 0)), (1, .int (zI p1)), (2, .int (zI p2)), (3, .int (zI p3)), (4, .int (zI p4))] := hl
  refine z_iload_n C0 dX3_plane_0 rfl (lv_at hl 1 rfl) ?_
  obtain ⟨r1, hc2, hf⟩ := zbind hf
  refine z_callSi (rest := []) C0 hP (zD hD rfl) hS [] rfl (zmX3_isPlane l D cI cZ _ p1 r1 hc2) (zkX3_62 ⟨by decide, by decide⟩ C0.2.2.2.2.1) rfl rfl rfl hl.1 (Nat.le_of_ble_eq_true rfl) dX3_plane_1 ⟨Nat.zero_le _, Nat.zero_le _⟩ rfl (Nat.le_of_ble_eq_true rfl) (fun H locs hP hS => ?_)
  have hP : va_P D vwCl ((wX h cI lagV deadV mannerV settingV keptRowV liveRowV shiftedRowV groupsV searchV deadUntilV settledV knownV tooLateV endedV)) H := hP
  refine z_ifne C0 9 dX3_plane_4 (by decide) (fun c18 => ?_) (fun c18 => ?_)
  · have hf := zif_neg hf c18
    refine z_iload_n C0 dX3_plane_9 rfl (lv_at hl 2 rfl) ?_
    refine z_iconst C0 dX3_plane_10 ?_
    refine z_bipush C0 dX3_plane_11 (by decide +kernel) ?_
    obtain ⟨r3, hc4, hf⟩ := zbind hf
    refine z_callSi (rest := []) C0 hP (zD hD rfl) hS [] rfl (zmX3_isWithin l D cI cZ _ p2 0 30 r3 hc4) (zkX3_66 ⟨by decide, by decide⟩ C0.2.2.2.2.1) rfl rfl rfl hl.1 (Nat.le_of_ble_eq_true rfl) dX3_plane_13 ⟨Nat.zero_le _, Nat.zero_le _⟩ rfl (Nat.le_of_ble_eq_true rfl) (fun H locs hP hS => ?_)
    have hP : va_P D vwCl ((wX h cI lagV deadV mannerV settingV keptRowV liveRowV shiftedRowV groupsV searchV deadUntilV settledV knownV tooLateV endedV)) H := hP
    refine z_ifeq C0 29 dX3_plane_16 (by decide) (fun c17 => ?_) (fun c17 => ?_)
    · have hf := zif_pos hf c17
      refine z_bipush C0 dX3_plane_29 (by decide +kernel) ?_
      cases hf
      exact hret hP hS dX3_plane_31
    · have hf := zif_neg hf c17
      refine z_iload_n C0 dX3_plane_19 rfl (lv_at hl 3 rfl) ?_
      refine z_iconst C0 dX3_plane_20 ?_
      refine z_bipush C0 dX3_plane_21 (by decide +kernel) ?_
      obtain ⟨r5, hc6, hf⟩ := zbind hf
      refine z_callSi (rest := []) C0 hP (zD hD rfl) hS [] rfl (zmX3_isWithin l D cI cZ _ p3 0 50 r5 hc6) (zkX3_66 ⟨by decide, by decide⟩ C0.2.2.2.2.1) rfl rfl rfl hl.1 (Nat.le_of_ble_eq_true rfl) dX3_plane_23 ⟨Nat.zero_le _, Nat.zero_le _⟩ rfl (Nat.le_of_ble_eq_true rfl) (fun H locs hP hS => ?_)
      have hP : va_P D vwCl ((wX h cI lagV deadV mannerV settingV keptRowV liveRowV shiftedRowV groupsV searchV deadUntilV settledV knownV tooLateV endedV)) H := hP
      refine z_ifne C0 32 dX3_plane_26 (by decide) (fun c16 => ?_) (fun c16 => ?_)
      · have hf := zif_neg hf c16
        refine z_iload C0 dX3_plane_32 (lv_at hl 4 rfl) ?_
        refine z_iconst C0 dX3_plane_34 ?_
        refine z_iconst C0 dX3_plane_35 ?_
        obtain ⟨r7, hc8, hf⟩ := zbind hf
        refine z_callSi (rest := []) C0 hP (zD hD rfl) hS [] rfl (zmX3_isWithin l D cI cZ _ p4 0 1 r7 hc8) (zkX3_66 ⟨by decide, by decide⟩ C0.2.2.2.2.1) rfl rfl rfl hl.1 (Nat.le_of_ble_eq_true rfl) dX3_plane_36 ⟨Nat.zero_le _, Nat.zero_le _⟩ rfl (Nat.le_of_ble_eq_true rfl) (fun H locs hP hS => ?_)
        have hP : va_P D vwCl ((wX h cI lagV deadV mannerV settingV keptRowV liveRowV shiftedRowV groupsV searchV deadUntilV settledV knownV tooLateV endedV)) H := hP
        refine z_ifne C0 45 dX3_plane_39 (by decide) (fun c15 => ?_) (fun c15 => ?_)
        · have hf := zif_neg hf c15
          refine z_aload_n C0 dX3_plane_45 rfl (lv_at hl 0 rfl) ?_
          obtain ⟨r9, hc10, hf⟩ := zbind hf
          refine z_callFi (rest := []) C0 hP (zD hD rfl) hS (zmX3_hasBegun l D cI cZ h _ lagV deadV mannerV settingV keptRowV liveRowV shiftedRowV groupsV searchV deadUntilV settledV knownV tooLateV endedV r9 hc10) (zkX3_70 ⟨by decide, by decide⟩ C0.2.2.2.2.1) 3 rfl rfl rfl rfl hl.1 (Nat.le_of_ble_eq_true rfl) dX3_plane_46 ⟨Nat.zero_le _, Nat.zero_le _⟩ (fun H locs hP hS => ?_)
          have hP : va_P D vwCl ((wX h cI lagV deadV mannerV settingV keptRowV liveRowV shiftedRowV groupsV searchV deadUntilV settledV knownV tooLateV endedV)) H := hP
          refine z_ifeq C0 55 dX3_plane_49 (by decide) (fun c14 => ?_) (fun c14 => ?_)
          · have hf := zif_pos hf c14
            refine z_aload_n C0 dX3_plane_55 rfl (lv_at hl 0 rfl) ?_
            refine zgX3_11 C0 hP 0 rfl (.ref (h 1)) rfl dX3_plane_56 ?_
            refine z_iload_n C0 dX3_plane_59 rfl (lv_at hl 1 rfl) ?_
            refine z_iload_n C0 dX3_plane_60 rfl (lv_at hl 2 rfl) ?_
            obtain ⟨g11, hf⟩ := zg_some hf
            refine z_iast C0 hP (zD hD rfl) hS 1 rfl (Nat.le_of_ble_eq_true rfl) g11 dX3_plane_61 (fun H locs hP hS => ?_)
            have hP : va_P D vwCl ((wX h cI (zu lagV p1 p2) deadV mannerV settingV keptRowV liveRowV shiftedRowV groupsV searchV deadUntilV settledV knownV tooLateV endedV)) H := hP
            refine z_aload_n C0 dX3_plane_62 rfl (lv_at hl 0 rfl) ?_
            refine zgX3_15 C0 hP 0 rfl (.ref (h 2)) rfl dX3_plane_63 ?_
            refine z_iload_n C0 dX3_plane_66 rfl (lv_at hl 1 rfl) ?_
            refine z_iload_n C0 dX3_plane_67 rfl (lv_at hl 3 rfl) ?_
            obtain ⟨g12, hf⟩ := zg_some hf
            refine z_iast C0 hP (zD hD rfl) hS 2 rfl (Nat.le_of_ble_eq_true rfl) g12 dX3_plane_68 (fun H locs hP hS => ?_)
            have hP : va_P D vwCl ((wX h cI (zu lagV p1 p2) (zu deadV p1 p3) mannerV settingV keptRowV liveRowV shiftedRowV groupsV searchV deadUntilV settledV knownV tooLateV endedV)) H := hP
            refine z_aload_n C0 dX3_plane_69 rfl (lv_at hl 0 rfl) ?_
            refine zgX3_18 C0 hP 0 rfl (.ref (h 3)) rfl dX3_plane_70 ?_
            refine z_iload_n C0 dX3_plane_73 rfl (lv_at hl 1 rfl) ?_
            refine z_iload C0 dX3_plane_74 (lv_at hl 4 rfl) ?_
            obtain ⟨g13, hf⟩ := zg_some hf
            refine z_iast C0 hP (zD hD rfl) hS 3 rfl (Nat.le_of_ble_eq_true rfl) g13 dX3_plane_76 (fun H locs hP hS => ?_)
            have hP : va_P D vwCl ((wX h cI (zu lagV p1 p2) (zu deadV p1 p3) (zu mannerV p1 p4) settingV keptRowV liveRowV shiftedRowV groupsV searchV deadUntilV settledV knownV tooLateV endedV)) H := hP
            refine z_iconst C0 dX3_plane_77 ?_
            cases hf
            exact hret hP hS dX3_plane_78
          · have hf := zif_neg hf c14
            refine z_bipush C0 dX3_plane_52 (by decide +kernel) ?_
            cases hf
            exact hret hP hS dX3_plane_54
        · have hf := zif_pos hf c15
          refine z_bipush C0 dX3_plane_42 (by decide +kernel) ?_
          cases hf
          exact hret hP hS dX3_plane_44
      · have hf := zif_pos hf c16
        refine z_bipush C0 dX3_plane_29 (by decide +kernel) ?_
        cases hf
        exact hret hP hS dX3_plane_31
  · have hf := zif_pos hf c18
    refine z_iconst C0 dX3_plane_7 ?_
    cases hf
    exact hret hP hS dX3_plane_8
