set_option maxHeartbeats 4000000 in
set_option maxRecDepth 100000 in
theorem zmX3_group (l : Launch) (D : va_G) (cI cZ : ClassId) (h : Nat → Nat) (sz : Nat) (lagV : (Nat → Int)) (deadV : (Nat → Int)) (mannerV : (Nat → Int)) (settingV : (Nat → Int)) (keptRowV : zRowT) (liveRowV : zRowT) (shiftedRowV : zRowT) (groupsV : zGrT) (searchV : zLsT) (deadUntilV : (Nat → Int)) (settledV : Int) (knownV : Int) (tooLateV : Int) (endedV : Int) (p1 : Int) (p2 : Int) (o : Int) (hf : fX3_group (zk_X lagV deadV mannerV settingV keptRowV liveRowV shiftedRowV groupsV searchV deadUntilV settledV knownV tooLateV endedV) p1 p2 = some o) : Met l yX3_group (zW yX3_group cX3_group 5 (some .int)) rmX3_group (va_Pc [.ref (h 0), .int (zI p1), .int (zI p2)] (zPre D cI cZ ((wX h cI lagV deadV mannerV settingV keptRowV liveRowV shiftedRowV groupsV searchV deadUntilV settledV knownV tooLateV endedV)) sz)) (va_Qi (fun r' (_ : Unit) => r' = zI o) (fun _ t => va_P D vwCl ((wX h cI lagV deadV mannerV settingV keptRowV liveRowV shiftedRowV groupsV searchV deadUntilV settledV knownV tooLateV endedV)) t.heap) (va_A ((wX h cI lagV deadV mannerV settingV keptRowV liveRowV shiftedRowV groupsV searchV deadUntilV settledV knownV tooLateV endedV)) sz)) 0 0 (va_A ((wX h cI lagV deadV mannerV settingV keptRowV liveRowV shiftedRowV groupsV searchV deadUntilV settledV knownV tooLateV endedV)) sz) := by
  unfold fX3_group at hf
  refine z_enter_i (own := RX3) (by decide +kernel) rfl (Nat.le_of_ble_eq_true rfl) ?_
  intro p e s m args below meth c A Q C0 hP hD hS hret ls hl
  have hl : lv_has ls 5 [(0, .ref (h 0)), (1, .int (zI p1)), (2, .int (zI p2))] := hl
  refine z_aload_n C0 dX3_group_0 rfl (lv_at hl 0 rfl) ?_
  refine z_iload_n C0 dX3_group_1 rfl (lv_at hl 1 rfl) ?_
  obtain ⟨r1, hc2, hf⟩ := zbind hf
  refine z_callFi (rest := []) C0 hP (zD hD rfl) hS (zmX3_isGroup l D cI cZ h _ lagV deadV mannerV settingV keptRowV liveRowV shiftedRowV groupsV searchV deadUntilV settledV knownV tooLateV endedV p1 r1 hc2) (zkX3_126 ⟨by decide, by decide⟩ C0.2.2.2.2.1) 3 rfl rfl rfl rfl hl.1 (Nat.le_of_ble_eq_true rfl) dX3_group_2 ⟨Nat.zero_le _, Nat.zero_le _⟩ (fun H locs hP hS => ?_)
  have hP : va_P D vwCl ((wX h cI lagV deadV mannerV settingV keptRowV liveRowV shiftedRowV groupsV searchV deadUntilV settledV knownV tooLateV endedV)) H := hP
  refine z_ifne C0 10 dX3_group_5 (by decide) (fun c19 => ?_) (fun c19 => ?_)
  · have hf := zif_neg hf c19
    refine z_aload_n C0 dX3_group_10 rfl (lv_at hl 0 rfl) ?_
    refine zgX3_48 C0 hP 0 rfl (.ref (h 17)) rfl dX3_group_11 ?_
    refine zgX3_129 C0 hP 17 rfl (.ref (h 18)) rfl dX3_group_14 ?_
    refine z_iload_n C0 dX3_group_17 rfl (lv_at hl 1 rfl) ?_
    obtain ⟨g3, hf⟩ := zg_some hf
    refine z_iald C0 hP 18 rfl (Nat.le_of_ble_eq_true rfl) g3 dX3_group_18 ?_
    obtain ⟨v4, hv4, hf⟩ := zl_some hf
    refine z_name hv4 ?_
    refine z_istore_n C0 [(3, .int (zI v4)), (0, .ref (h 0)), (1, .int (zI p1)), (2, .int (zI p2))] dX3_group_19 rfl hl (by decide) rfl (fun ls hl => ?_)
    refine z_aload_n C0 dX3_group_20 rfl (lv_at hl 1 rfl) ?_
    refine zgX3_48 C0 hP 0 rfl (.ref (h 17)) rfl dX3_group_21 ?_
    refine zgX3_129 C0 hP 17 rfl (.ref (h 18)) rfl dX3_group_24 ?_
    refine z_iload_n C0 dX3_group_27 rfl (lv_at hl 2 rfl) ?_
    refine z_iconst C0 dX3_group_28 ?_
    refine z_iadd C0 dX3_group_29 ?_
    obtain ⟨g5, hf⟩ := zg_some hf
    refine z_iald C0 hP 18 rfl (Nat.le_of_ble_eq_true rfl) g5 dX3_group_30 ?_
    obtain ⟨v6, hv6, hf⟩ := zl_some hf
    refine z_name hv6 ?_
    refine z_istore C0 [(4, .int (zI v6)), (3, .int (zI v4)), (0, .ref (h 0)), (1, .int (zI p1)), (2, .int (zI p2))] dX3_group_31 hl (by decide) rfl (fun ls hl => ?_)
    refine z_iload_n C0 dX3_group_33 rfl (lv_at hl 4 rfl) ?_
    by_cases c7 : zE p2 0
    · have hf := zif_pos hf c7
      refine z_tabIn C0 c7 68 dX3_group_34 (by decide +kernel) (by decide +kernel) rfl (by decide) ?_
      refine z_aload_n C0 dX3_group_68 rfl (lv_at hl 2 rfl) ?_
      refine zgX3_39 C0 hP 0 rfl (.ref (h 9)) rfl dX3_group_69 ?_
      refine zgX3_132 C0 hP 9 rfl (.ref (h 10)) rfl dX3_group_72 ?_
      refine z_iload_n C0 dX3_group_75 rfl (lv_at hl 1 rfl) ?_
      obtain ⟨g8, hf⟩ := zg_some hf
      refine z_iald C0 hP 10 rfl (Nat.le_of_ble_eq_true rfl) g8 dX3_group_76 ?_
      refine z_bipush C0 dX3_group_77 (by decide +kernel) ?_
      refine z_iadd C0 dX3_group_79 ?_
      cases hf
      exact hret hP hS dX3_group_80
    · have hf := zif_neg hf c7
      by_cases c9 : zE p2 1
      · have hf := zif_pos hf c9
        refine z_tabIn C0 c9 81 dX3_group_34 (by decide +kernel) (by decide +kernel) rfl (by decide) ?_
        refine z_aload_n C0 dX3_group_81 rfl (lv_at hl 2 rfl) ?_
        refine zgX3_48 C0 hP 0 rfl (.ref (h 17)) rfl dX3_group_82 ?_
        refine zgX3_135 C0 hP 17 rfl (.ref (h 19)) rfl dX3_group_85 ?_
        refine z_iload_n C0 dX3_group_88 rfl (lv_at hl 3 rfl) ?_
        obtain ⟨g10, hf⟩ := zg_some hf
        refine z_iald C0 hP 19 rfl (Nat.le_of_ble_eq_true rfl) g10 dX3_group_89 ?_
        cases hf
        exact hret hP hS dX3_group_90
      · have hf := zif_neg hf c9
        by_cases c11 : zE p2 2
        · have hf := zif_pos hf c11
          refine z_tabIn C0 c11 91 dX3_group_34 (by decide +kernel) (by decide +kernel) rfl (by decide) ?_
          refine z_iload C0 dX3_group_91 (lv_at hl 0 rfl) ?_
          refine z_iload_n C0 dX3_group_93 rfl (lv_at hl 1 rfl) ?_
          refine z_isub C0 dX3_group_94 ?_
          cases hf
          exact hret hP hS dX3_group_95
        · have hf := zif_neg hf c11
          by_cases c12 : zE p2 3
          · have hf := zif_pos hf c12
            refine z_tabIn C0 c12 96 dX3_group_34 (by decide +kernel) (by decide +kernel) rfl (by decide) ?_
            refine z_iload C0 dX3_group_96 (lv_at hl 0 rfl) ?_
            refine z_iload_n C0 dX3_group_98 rfl (lv_at hl 1 rfl) ?_
            refine z_isub C0 dX3_group_99 ?_
            refine z_aload_n C0 dX3_group_100 rfl (lv_at hl 2 rfl) ?_
            refine zgX3_48 C0 hP 0 rfl (.ref (h 17)) rfl dX3_group_101 ?_
            refine zgX3_135 C0 hP 17 rfl (.ref (h 19)) rfl dX3_group_104 ?_
            refine z_iload_n C0 dX3_group_107 rfl (lv_at hl 3 rfl) ?_
            obtain ⟨g13, hf⟩ := zg_some hf
            refine z_iald C0 hP 19 rfl (Nat.le_of_ble_eq_true rfl) g13 dX3_group_108 ?_
            obtain ⟨r14, hc15, hf⟩ := zbind hf
            refine z_callSi (rest := [.int (zI (v6 - v4))]) C0 hP (zD hD rfl) hS [] rfl (zmJ6_bitCount_0f7a4 l D cI cZ _ ((zg_set groupsV) (Int.toNat p1)) r14 hc15) (zkX3_138 ⟨by decide, by decide⟩ C0.2.2.2.2.1) rfl rfl rfl hl.1 (Nat.le_of_ble_eq_true rfl) dX3_group_109 ⟨Nat.zero_le _, Nat.zero_le _⟩ rfl (Nat.le_of_ble_eq_true rfl) (fun H locs hP hS => ?_)
            have hP : va_P D vwCl ((wX h cI lagV deadV mannerV settingV keptRowV liveRowV shiftedRowV groupsV searchV deadUntilV settledV knownV tooLateV endedV)) H := hP
            refine z_isub C0 dX3_group_112 ?_
            cases hf
            exact hret hP hS dX3_group_113
          · have hf := zif_neg hf c12
            by_cases c16 : zE p2 4
            · have hf := zif_pos hf c16
              refine z_tabIn C0 c16 114 dX3_group_34 (by decide +kernel) (by decide +kernel) rfl (by decide) ?_
              refine z_aload_n C0 dX3_group_114 rfl (lv_at hl 2 rfl) ?_
              refine zgX3_39 C0 hP 0 rfl (.ref (h 9)) rfl dX3_group_115 ?_
              refine zgX3_132 C0 hP 9 rfl (.ref (h 10)) rfl dX3_group_118 ?_
              refine z_iload C0 dX3_group_121 (lv_at hl 0 rfl) ?_
              refine z_iconst C0 dX3_group_123 ?_
              refine z_isub C0 dX3_group_124 ?_
              obtain ⟨g17, hf⟩ := zg_some hf
              refine z_iald C0 hP 10 rfl (Nat.le_of_ble_eq_true rfl) g17 dX3_group_125 ?_
              refine z_aload_n C0 dX3_group_126 rfl (lv_at hl 2 rfl) ?_
              refine zgX3_39 C0 hP 0 rfl (.ref (h 9)) rfl dX3_group_127 ?_
              refine zgX3_132 C0 hP 9 rfl (.ref (h 10)) rfl dX3_group_130 ?_
              refine z_iload_n C0 dX3_group_133 rfl (lv_at hl 1 rfl) ?_
              obtain ⟨g18, hf⟩ := zg_some hf
              refine z_iald C0 hP 10 rfl (Nat.le_of_ble_eq_true rfl) g18 dX3_group_134 ?_
              refine z_isub C0 dX3_group_135 ?_
              cases hf
              exact hret hP hS dX3_group_136
            · have hf := zif_neg hf c16
              refine z_tabOut C0 137 dX3_group_34 (zsw 4 (fun k hk => by rcases (show k = 0 ∨ k = 1 ∨ k = 2 ∨ k = 3 ∨ k = 4 by omega) with rfl | rfl | rfl | rfl | rfl <;> assumption)) (by decide) ?_
              refine z_bipush C0 dX3_group_137 (by decide +kernel) ?_
              cases hf
              exact hret hP hS dX3_group_139
  · have hf := zif_pos hf c19
    refine z_iconst C0 dX3_group_8 ?_
    cases hf
    exact hret hP hS dX3_group_9
