set_option maxHeartbeats 4000000 in
set_option maxRecDepth 100000 in
theorem zmX3_expected (l : Launch) (D : va_G) (cI cZ : ClassId) (h : Nat → Nat) (sz : Nat) (lagV : (Nat → Int)) (deadV : (Nat → Int)) (mannerV : (Nat → Int)) (settingV : (Nat → Int)) (keptRowV : zRowT) (liveRowV : zRowT) (shiftedRowV : zRowT) (groupsV : zGrT) (searchV : zLsT) (deadUntilV : (Nat → Int)) (settledV : Int) (knownV : Int) (tooLateV : Int) (endedV : Int) (p1 : Int) (p2 : Int) (p3 : Int) (o : Int) (hf : fX3_expected (zk_X lagV deadV mannerV settingV keptRowV liveRowV shiftedRowV groupsV searchV deadUntilV settledV knownV tooLateV endedV) p1 p2 p3 = some o) : Met l yX3_expected (zW yX3_expected cX3_expected 6 (some .long)) rmX3_expected (va_Pc [.ref (h 0), .int (zI p1), .int (zI p2), .int (zI p3)] (zPre D cI cZ ((wX h cI lagV deadV mannerV settingV keptRowV liveRowV shiftedRowV groupsV searchV deadUntilV settledV knownV tooLateV endedV)) sz)) (va_Ql (fun r' (_ : Unit) => r' = zL o) (fun _ t => va_P D vwCl ((wX h cI lagV deadV mannerV settingV keptRowV liveRowV shiftedRowV groupsV searchV deadUntilV settledV knownV tooLateV endedV)) t.heap) (va_A ((wX h cI lagV deadV mannerV settingV keptRowV liveRowV shiftedRowV groupsV searchV deadUntilV settledV knownV tooLateV endedV)) sz)) 0 0 (va_A ((wX h cI lagV deadV mannerV settingV keptRowV liveRowV shiftedRowV groupsV searchV deadUntilV settledV knownV tooLateV endedV)) sz) := by
  unfold fX3_expected at hf
  refine z_enter_l (own := RX3) (by decide +kernel) rfl (Nat.le_of_ble_eq_true rfl) ?_
  intro p e s m args below meth c A Q C0 hP hD hS hret ls hl
  have hl : lv_has ls 6 [(0, .ref (h 0)), (1, .int (zI p1)), (2, .int (zI p2)), (3, .int (zI p3))] := hl
  refine z_iload_n C0 dX3_expected_0 rfl (lv_at hl 1 rfl) ?_
  obtain ⟨r1, hc2, hf⟩ := zbind hf
  refine z_callSi (rest := []) C0 hP (zD hD rfl) hS [] rfl (zmX3_isPlane l D cI cZ _ p1 r1 hc2) (zkX3_62 ⟨by decide, by decide⟩ C0.2.2.2.2.1) rfl rfl rfl hl.1 (Nat.le_of_ble_eq_true rfl) dX3_expected_1 ⟨Nat.zero_le _, Nat.zero_le _⟩ rfl (Nat.le_of_ble_eq_true rfl) (fun H locs hP hS => ?_)
  have hP : va_P D vwCl ((wX h cI lagV deadV mannerV settingV keptRowV liveRowV shiftedRowV groupsV searchV deadUntilV settledV knownV tooLateV endedV)) H := hP
  refine z_ifeq C0 23 dX3_expected_4 (by decide) (fun c21 => ?_) (fun c21 => ?_)
  · have hf := zif_pos hf c21
    refine z_ldc2 C0 zw222 dX3_expected_23 ?_
    cases hf
    exact hret hP hS dX3_expected_26
  · have hf := zif_neg hf c21
    refine z_iload_n C0 dX3_expected_7 rfl (lv_at hl 2 rfl) ?_
    obtain ⟨r3, hc4, hf⟩ := zbind hf
    refine z_callSi (rest := []) C0 hP (zD hD rfl) hS [] rfl (zmX3_isPlane l D cI cZ _ p2 r3 hc4) (zkX3_62 ⟨by decide, by decide⟩ C0.2.2.2.2.1) rfl rfl rfl hl.1 (Nat.le_of_ble_eq_true rfl) dX3_expected_8 ⟨Nat.zero_le _, Nat.zero_le _⟩ rfl (Nat.le_of_ble_eq_true rfl) (fun H locs hP hS => ?_)
    have hP : va_P D vwCl ((wX h cI lagV deadV mannerV settingV keptRowV liveRowV shiftedRowV groupsV searchV deadUntilV settledV knownV tooLateV endedV)) H := hP
    refine z_ifeq C0 23 dX3_expected_11 (by decide) (fun c20 => ?_) (fun c20 => ?_)
    · have hf := zif_pos hf c20
      refine z_ldc2 C0 zw222 dX3_expected_23 ?_
      cases hf
      exact hret hP hS dX3_expected_26
    · have hf := zif_neg hf c20
      refine z_iload_n C0 dX3_expected_14 rfl (lv_at hl 3 rfl) ?_
      refine z_iconst C0 dX3_expected_15 ?_
      refine z_iconst C0 dX3_expected_16 ?_
      obtain ⟨r5, hc6, hf⟩ := zbind hf
      refine z_callSi (rest := []) C0 hP (zD hD rfl) hS [] rfl (zmX3_isWithin l D cI cZ _ p3 0 1 r5 hc6) (zkX3_66 ⟨by decide, by decide⟩ C0.2.2.2.2.1) rfl rfl rfl hl.1 (Nat.le_of_ble_eq_true rfl) dX3_expected_17 ⟨Nat.zero_le _, Nat.zero_le _⟩ rfl (Nat.le_of_ble_eq_true rfl) (fun H locs hP hS => ?_)
      have hP : va_P D vwCl ((wX h cI lagV deadV mannerV settingV keptRowV liveRowV shiftedRowV groupsV searchV deadUntilV settledV knownV tooLateV endedV)) H := hP
      refine z_ifne C0 27 dX3_expected_20 (by decide) (fun c19 => ?_) (fun c19 => ?_)
      · have hf := zif_neg hf c19
        refine z_iload_n C0 dX3_expected_27 rfl (lv_at hl 1 rfl) ?_
        refine z_iload_n C0 dX3_expected_28 rfl (lv_at hl 2 rfl) ?_
        refine z_icmpeq C0 39 dX3_expected_29 (by decide) (fun c18 => ?_) (fun c18 => ?_)
        · have hf := zif_pos hf c18
          refine z_ldc2 C0 zw222 dX3_expected_39 ?_
          cases hf
          exact hret hP hS dX3_expected_42
        · have hf := zif_neg hf c18
          refine z_aload_n C0 dX3_expected_32 rfl (lv_at hl 0 rfl) ?_
          refine zgX3_98 C0 hP 0 rfl (.int (zI endedV)) rfl dX3_expected_33 ?_
          refine z_ifne C0 43 dX3_expected_36 (by decide) (fun c17 => ?_) (fun c17 => ?_)
          · have hf := zif_neg hf c17
            refine z_aload_n C0 dX3_expected_43 rfl (lv_at hl 0 rfl) ?_
            refine z_iload_n C0 dX3_expected_44 rfl (lv_at hl 1 rfl) ?_
            obtain ⟨r7, hc8, hf⟩ := zbind hf
            refine z_callFi (rest := []) C0 hP (zD hD rfl) hS (zmX3_liveOf l D cI cZ h _ lagV deadV mannerV settingV keptRowV liveRowV shiftedRowV groupsV searchV deadUntilV settledV knownV tooLateV endedV p1 r7 hc8) (zkX3_82 ⟨by decide, by decide⟩ C0.2.2.2.2.1) 3 rfl rfl rfl rfl hl.1 (Nat.le_of_ble_eq_true rfl) dX3_expected_45 ⟨Nat.zero_le _, Nat.zero_le _⟩ (fun H locs hP hS => ?_)
            have hP : va_P D vwCl ((wX h cI lagV deadV mannerV settingV keptRowV liveRowV shiftedRowV groupsV searchV deadUntilV settledV knownV tooLateV endedV)) H := hP
            refine z_i2l C0 dX3_expected_48 ?_
            refine z_aload_n C0 dX3_expected_49 rfl (lv_at hl 0 rfl) ?_
            refine z_iload_n C0 dX3_expected_50 rfl (lv_at hl 2 rfl) ?_
            obtain ⟨r9, hc10, hf⟩ := zbind hf
            refine z_callFi (rest := [.long (zL (zi2l r7))]) C0 hP (zD hD rfl) hS (zmX3_liveOf l D cI cZ h _ lagV deadV mannerV settingV keptRowV liveRowV shiftedRowV groupsV searchV deadUntilV settledV knownV tooLateV endedV p2 r9 hc10) (zkX3_82 ⟨by decide, by decide⟩ C0.2.2.2.2.1) 3 rfl rfl rfl rfl hl.1 (Nat.le_of_ble_eq_true rfl) dX3_expected_51 ⟨Nat.zero_le _, Nat.zero_le _⟩ (fun H locs hP hS => ?_)
            have hP : va_P D vwCl ((wX h cI lagV deadV mannerV settingV keptRowV liveRowV shiftedRowV groupsV searchV deadUntilV settledV knownV tooLateV endedV)) H := hP
            refine z_i2l C0 dX3_expected_54 ?_
            refine z_lmul C0 dX3_expected_55 ?_
            refine z_iconst C0 dX3_expected_56 ?_
            refine z_aload_n C0 dX3_expected_57 rfl (lv_at hl 0 rfl) ?_
            refine zgX3_29 C0 hP 0 rfl (.ref (h 4)) rfl dX3_expected_58 ?_
            refine z_iconst C0 dX3_expected_61 ?_
            obtain ⟨g11, hf⟩ := zg_some hf
            refine z_iald C0 hP 4 rfl (Nat.le_of_ble_eq_true rfl) g11 dX3_expected_62 ?_
            refine z_imul C0 dX3_expected_63 ?_
            refine z_iconst C0 dX3_expected_64 ?_
            refine z_iadd C0 dX3_expected_65 ?_
            refine z_i2l C0 dX3_expected_66 ?_
            refine z_lmul C0 dX3_expected_67 ?_
            obtain ⟨v12, hv12, hf⟩ := zl_some hf
            refine z_nameL hv12 ?_
            refine z_lstore C0 [(4, .long (zL v12)), (0, .ref (h 0)), (1, .int (zI p1)), (2, .int (zI p2)), (3, .int (zI p3))] dX3_expected_68 hl (by decide) rfl (fun ls hl => ?_)
            refine z_lload C0 dX3_expected_70 (lv_at hl 0 rfl) ?_
            refine z_aload_n C0 dX3_expected_72 rfl (lv_at hl 1 rfl) ?_
            obtain ⟨r13, hc14, hf⟩ := zbind hf
            refine z_callFi (rest := [.long (zL v12)]) C0 hP (zD hD rfl) hS (zmX3_span l D cI cZ h _ lagV deadV mannerV settingV keptRowV liveRowV shiftedRowV groupsV searchV deadUntilV settledV knownV tooLateV endedV r13 hc14) (zkX3_182 ⟨by decide, by decide⟩ C0.2.2.2.2.1) 3 rfl rfl rfl rfl hl.1 (Nat.le_of_ble_eq_true rfl) dX3_expected_73 ⟨Nat.zero_le _, Nat.zero_le _⟩ (fun H locs hP hS => ?_)
            have hP : va_P D vwCl ((wX h cI lagV deadV mannerV settingV keptRowV liveRowV shiftedRowV groupsV searchV deadUntilV settledV knownV tooLateV endedV)) H := hP
            refine z_i2l C0 dX3_expected_76 ?_
            refine z_iload_n C0 dX3_expected_77 rfl (lv_at hl 4 rfl) ?_
            obtain ⟨r15, hc16, hf⟩ := zbind hf
            refine z_callSl (rest := []) C0 hP (zD hD rfl) hS [] rfl (zmX3_inLeastTerms l D cI cZ _ v12 (zi2l r13) p3 r15 hc16) (zkX3_178 ⟨by decide, by decide⟩ C0.2.2.2.2.1) rfl rfl rfl hl.1 (Nat.le_of_ble_eq_true rfl) dX3_expected_78 ⟨Nat.zero_le _, Nat.zero_le _⟩ rfl (Nat.le_of_ble_eq_true rfl) (fun H locs hP hS => ?_)
            have hP : va_P D vwCl ((wX h cI lagV deadV mannerV settingV keptRowV liveRowV shiftedRowV groupsV searchV deadUntilV settledV knownV tooLateV endedV)) H := hP
            cases hf
            exact hret hP hS dX3_expected_81
          · have hf := zif_pos hf c17
            refine z_ldc2 C0 zw222 dX3_expected_39 ?_
            cases hf
            exact hret hP hS dX3_expected_42
      · have hf := zif_pos hf c19
        refine z_ldc2 C0 zw222 dX3_expected_23 ?_
        cases hf
        exact hret hP hS dX3_expected_26
