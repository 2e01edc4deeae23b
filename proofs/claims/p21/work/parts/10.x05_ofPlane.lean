set_option maxHeartbeats 4000000 in
set_option maxRecDepth 100000 in
theorem zmX3_ofPlane (l : Launch) (D : va_G) (cI cZ : ClassId) (h : Nat → Nat) (sz : Nat) (lagV : (Nat → Int)) (deadV : (Nat → Int)) (mannerV : (Nat → Int)) (settingV : (Nat → Int)) (keptRowV : zRowT) (liveRowV : zRowT) (shiftedRowV : zRowT) (groupsV : zGrT) (searchV : zLsT) (deadUntilV : (Nat → Int)) (settledV : Int) (knownV : Int) (tooLateV : Int) (endedV : Int) (p1 : Int) (p2 : Int) (o : Int) (hf : fX3_ofPlane (zk_X lagV deadV mannerV settingV keptRowV liveRowV shiftedRowV groupsV searchV deadUntilV settledV knownV tooLateV endedV) p1 p2 = some o) : Met l yX3_ofPlane (zW yX3_ofPlane cX3_ofPlane 3 (some .int)) rmX3_ofPlane (va_Pc [.ref (h 0), .int (zI p1), .int (zI p2)] (zPre D cI cZ ((wX h cI lagV deadV mannerV settingV keptRowV liveRowV shiftedRowV groupsV searchV deadUntilV settledV knownV tooLateV endedV)) sz)) (va_Qi (fun r' (_ : Unit) => r' = zI o) (fun _ t => va_P D vwCl ((wX h cI lagV deadV mannerV settingV keptRowV liveRowV shiftedRowV groupsV searchV deadUntilV settledV knownV tooLateV endedV)) t.heap) (va_A ((wX h cI lagV deadV mannerV settingV keptRowV liveRowV shiftedRowV groupsV searchV deadUntilV settledV knownV tooLateV endedV)) sz)) 0 0 (va_A ((wX h cI lagV deadV mannerV settingV keptRowV liveRowV shiftedRowV groupsV searchV deadUntilV settledV knownV tooLateV endedV)) sz) := by
  unfold fX3_ofPlane at hf
  refine z_enter_i (own := RX3) (by decide +kernel) rfl (Nat.le_of_ble_eq_true rfl) ?_
  intro p e s m args below meth c A Q C0 hP hD hS hret ls hl
  have hl : lv_has ls 3 [(0, .ref (h 0)), (1, .int (zI p1)), (2, .int (zI p2))] := hl
  refine z_iload_n C0 dX3_ofPlane_0 rfl (lv_at hl 1 rfl) ?_
  obtain ⟨r1, hc2, hf⟩ := zbind hf
  refine z_callSi (rest := []) C0 hP (zD hD rfl) hS [] rfl (zmX3_isPlane l D cI cZ _ p1 r1 hc2) (zkX3_62 ⟨by decide, by decide⟩ C0.2.2.2.2.1) rfl rfl rfl hl.1 (Nat.le_of_ble_eq_true rfl) dX3_ofPlane_1 ⟨Nat.zero_le _, Nat.zero_le _⟩ rfl (Nat.le_of_ble_eq_true rfl) (fun H locs hP hS => ?_)
  have hP : va_P D vwCl ((wX h cI lagV deadV mannerV settingV keptRowV liveRowV shiftedRowV groupsV searchV deadUntilV settledV knownV tooLateV endedV)) H := hP
  refine z_ifne C0 9 dX3_ofPlane_4 (by decide) (fun c20 => ?_) (fun c20 => ?_)
  · have hf := zif_neg hf c20
    refine z_iload_n C0 dX3_ofPlane_9 rfl (lv_at hl 2 rfl) ?_
    by_cases c3 : zE p2 0
    · have hf := zif_pos hf c3
      refine z_tabIn C0 c3 48 dX3_ofPlane_10 (by decide +kernel) (by decide +kernel) rfl (by decide) ?_
      refine z_aload_n C0 dX3_ofPlane_48 rfl (lv_at hl 0 rfl) ?_
      refine zgX3_11 C0 hP 0 rfl (.ref (h 1)) rfl dX3_ofPlane_49 ?_
      refine z_iload_n C0 dX3_ofPlane_52 rfl (lv_at hl 1 rfl) ?_
      obtain ⟨g4, hf⟩ := zg_some hf
      refine z_iald C0 hP 1 rfl (Nat.le_of_ble_eq_true rfl) g4 dX3_ofPlane_53 ?_
      cases hf
      exact hret hP hS dX3_ofPlane_54
    · have hf := zif_neg hf c3
      by_cases c5 : zE p2 1
      · have hf := zif_pos hf c5
        refine z_tabIn C0 c5 55 dX3_ofPlane_10 (by decide +kernel) (by decide +kernel) rfl (by decide) ?_
        refine z_aload_n C0 dX3_ofPlane_55 rfl (lv_at hl 0 rfl) ?_
        refine zgX3_15 C0 hP 0 rfl (.ref (h 2)) rfl dX3_ofPlane_56 ?_
        refine z_iload_n C0 dX3_ofPlane_59 rfl (lv_at hl 1 rfl) ?_
        obtain ⟨g6, hf⟩ := zg_some hf
        refine z_iald C0 hP 2 rfl (Nat.le_of_ble_eq_true rfl) g6 dX3_ofPlane_60 ?_
        cases hf
        exact hret hP hS dX3_ofPlane_61
      · have hf := zif_neg hf c5
        by_cases c7 : zE p2 2
        · have hf := zif_pos hf c7
          refine z_tabIn C0 c7 62 dX3_ofPlane_10 (by decide +kernel) (by decide +kernel) rfl (by decide) ?_
          refine z_aload_n C0 dX3_ofPlane_62 rfl (lv_at hl 0 rfl) ?_
          refine zgX3_18 C0 hP 0 rfl (.ref (h 3)) rfl dX3_ofPlane_63 ?_
          refine z_iload_n C0 dX3_ofPlane_66 rfl (lv_at hl 1 rfl) ?_
          obtain ⟨g8, hf⟩ := zg_some hf
          refine z_iald C0 hP 3 rfl (Nat.le_of_ble_eq_true rfl) g8 dX3_ofPlane_67 ?_
          cases hf
          exact hret hP hS dX3_ofPlane_68
        · have hf := zif_neg hf c7
          by_cases c9 : zE p2 3
          · have hf := zif_pos hf c9
            refine z_tabIn C0 c9 69 dX3_ofPlane_10 (by decide +kernel) (by decide +kernel) rfl (by decide) ?_
            refine z_aload_n C0 dX3_ofPlane_69 rfl (lv_at hl 0 rfl) ?_
            refine zgX3_35 C0 hP 0 rfl (.ref (h 5)) rfl dX3_ofPlane_70 ?_
            refine z_iload_n C0 dX3_ofPlane_73 rfl (lv_at hl 1 rfl) ?_
            refine z_aload_n C0 dX3_ofPlane_74 rfl (lv_at hl 0 rfl) ?_
            refine zgX3_35 C0 hP 0 rfl (.ref (h 5)) rfl dX3_ofPlane_75 ?_
            refine zgX3_74 C0 hP 5 rfl (.int (zI (zr_size keptRowV))) rfl dX3_ofPlane_78 ?_
            obtain ⟨r10, hc11, hf⟩ := zbind hf
            refine z_callVi (rest := []) C0 hP (zD hD rfl) hS [5, 6, 7, 8] rfl (zmX2_countOf l D cI cZ (h 5) (h 6) (h 7) (h 8) _ (zr_when keptRowV) (zr_plane keptRowV) (zr_strip keptRowV) (zr_size keptRowV) p1 (zr_size keptRowV) r10 hc11) (zkX3_78 ⟨by decide, by decide⟩ C0.2.2.2.2.1) rfl 2 rfl rfl rfl rfl hl.1 (Nat.le_of_ble_eq_true rfl) dX3_ofPlane_81 ⟨Nat.zero_le _, Nat.zero_le _⟩ rfl (Nat.le_of_ble_eq_true rfl) (fun H locs hP hS => ?_)
            have hP : va_P D vwCl ((wX h cI lagV deadV mannerV settingV keptRowV liveRowV shiftedRowV groupsV searchV deadUntilV settledV knownV tooLateV endedV)) H := hP
            cases hf
            exact hret hP hS dX3_ofPlane_84
          · have hf := zif_neg hf c9
            by_cases c12 : zE p2 4
            · have hf := zif_pos hf c12
              refine z_tabIn C0 c12 85 dX3_ofPlane_10 (by decide +kernel) (by decide +kernel) rfl (by decide) ?_
              refine z_aload_n C0 dX3_ofPlane_85 rfl (lv_at hl 0 rfl) ?_
              refine z_iload_n C0 dX3_ofPlane_86 rfl (lv_at hl 1 rfl) ?_
              obtain ⟨r13, hc14, hf⟩ := zbind hf
              refine z_callFi (rest := []) C0 hP (zD hD rfl) hS (zmX3_liveOf l D cI cZ h _ lagV deadV mannerV settingV keptRowV liveRowV shiftedRowV groupsV searchV deadUntilV settledV knownV tooLateV endedV p1 r13 hc14) (zkX3_82 ⟨by decide, by decide⟩ C0.2.2.2.2.1) 3 rfl rfl rfl rfl hl.1 (Nat.le_of_ble_eq_true rfl) dX3_ofPlane_87 ⟨Nat.zero_le _, Nat.zero_le _⟩ (fun H locs hP hS => ?_)
              have hP : va_P D vwCl ((wX h cI lagV deadV mannerV settingV keptRowV liveRowV shiftedRowV groupsV searchV deadUntilV settledV knownV tooLateV endedV)) H := hP
              cases hf
              exact hret hP hS dX3_ofPlane_90
            · have hf := zif_neg hf c12
              by_cases c15 : zE p2 5
              · have hf := zif_pos hf c15
                refine z_tabIn C0 c15 91 dX3_ofPlane_10 (by decide +kernel) (by decide +kernel) rfl (by decide) ?_
                refine z_aload_n C0 dX3_ofPlane_91 rfl (lv_at hl 0 rfl) ?_
                refine zgX3_35 C0 hP 0 rfl (.ref (h 5)) rfl dX3_ofPlane_92 ?_
                refine z_iload_n C0 dX3_ofPlane_95 rfl (lv_at hl 1 rfl) ?_
                refine z_aload_n C0 dX3_ofPlane_96 rfl (lv_at hl 0 rfl) ?_
                refine zgX3_86 C0 hP 0 rfl (.int (zI settledV)) rfl dX3_ofPlane_97 ?_
                obtain ⟨r16, hc17, hf⟩ := zbind hf
                refine z_callVi (rest := []) C0 hP (zD hD rfl) hS [5, 6, 7, 8] rfl (zmX2_countOf l D cI cZ (h 5) (h 6) (h 7) (h 8) _ (zr_when keptRowV) (zr_plane keptRowV) (zr_strip keptRowV) (zr_size keptRowV) p1 settledV r16 hc17) (zkX3_78 ⟨by decide, by decide⟩ C0.2.2.2.2.1) rfl 2 rfl rfl rfl rfl hl.1 (Nat.le_of_ble_eq_true rfl) dX3_ofPlane_100 ⟨Nat.zero_le _, Nat.zero_le _⟩ rfl (Nat.le_of_ble_eq_true rfl) (fun H locs hP hS => ?_)
                have hP : va_P D vwCl ((wX h cI lagV deadV mannerV settingV keptRowV liveRowV shiftedRowV groupsV searchV deadUntilV settledV knownV tooLateV endedV)) H := hP
                refine z_aload_n C0 dX3_ofPlane_103 rfl (lv_at hl 0 rfl) ?_
                refine z_iload_n C0 dX3_ofPlane_104 rfl (lv_at hl 1 rfl) ?_
                obtain ⟨r18, hc19, hf⟩ := zbind hf
                refine z_callFi (rest := [.int (zI r16)]) C0 hP (zD hD rfl) hS (zmX3_liveOf l D cI cZ h _ lagV deadV mannerV settingV keptRowV liveRowV shiftedRowV groupsV searchV deadUntilV settledV knownV tooLateV endedV p1 r18 hc19) (zkX3_82 ⟨by decide, by decide⟩ C0.2.2.2.2.1) 3 rfl rfl rfl rfl hl.1 (Nat.le_of_ble_eq_true rfl) dX3_ofPlane_105 ⟨Nat.zero_le _, Nat.zero_le _⟩ (fun H locs hP hS => ?_)
                have hP : va_P D vwCl ((wX h cI lagV deadV mannerV settingV keptRowV liveRowV shiftedRowV groupsV searchV deadUntilV settledV knownV tooLateV endedV)) H := hP
                refine z_isub C0 dX3_ofPlane_108 ?_
                cases hf
                exact hret hP hS dX3_ofPlane_109
              · have hf := zif_neg hf c15
                refine z_tabOut C0 110 dX3_ofPlane_10 (zsw 5 (fun k hk => by rcases (show k = 0 ∨ k = 1 ∨ k = 2 ∨ k = 3 ∨ k = 4 ∨ k = 5 by omega) with rfl | rfl | rfl | rfl | rfl | rfl <;> assumption)) (by decide) ?_
                refine z_bipush C0 dX3_ofPlane_110 (by decide +kernel) ?_
                cases hf
                exact hret hP hS dX3_ofPlane_112
  · have hf := zif_pos hf c20
    refine z_iconst C0 dX3_ofPlane_7 ?_
    cases hf
    exact hret hP hS dX3_ofPlane_8
