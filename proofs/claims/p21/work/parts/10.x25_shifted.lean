set_option maxHeartbeats 4000000 in
set_option maxRecDepth 100000 in
theorem zmX3_shifted (l : Launch) (D : va_G) (cI cZ : ClassId) (h : Nat → Nat) (sz : Nat) (lagV : (Nat → Int)) (deadV : (Nat → Int)) (mannerV : (Nat → Int)) (settingV : (Nat → Int)) (keptRowV : zRowT) (liveRowV : zRowT) (shiftedRowV : zRowT) (groupsV : zGrT) (searchV : zLsT) (deadUntilV : (Nat → Int)) (settledV : Int) (knownV : Int) (tooLateV : Int) (endedV : Int) (p1 : Int) (p2 : Int) (o : Int × zRowT) (hf : fX3_shifted (zk_X lagV deadV mannerV settingV keptRowV liveRowV shiftedRowV groupsV searchV deadUntilV settledV knownV tooLateV endedV) p1 p2 = some o) : Met l yX3_shifted (zW yX3_shifted cX3_shifted 7 (some .int)) rmX3_shifted (va_Pc [.ref (h 0), .int (zI p1), .int (zI p2)] (zPre D cI cZ ((wX h cI lagV deadV mannerV settingV keptRowV liveRowV shiftedRowV groupsV searchV deadUntilV settledV knownV tooLateV endedV)) sz)) (va_Qi (fun r' (_ : Unit) => r' = zI o.1) (fun _ t => va_P D vwCl ((wX h cI lagV deadV mannerV settingV keptRowV liveRowV o.2 groupsV searchV deadUntilV settledV knownV tooLateV endedV)) t.heap) (va_A ((wX h cI lagV deadV mannerV settingV keptRowV liveRowV shiftedRowV groupsV searchV deadUntilV settledV knownV tooLateV endedV)) sz)) 0 0 (va_A ((wX h cI lagV deadV mannerV settingV keptRowV liveRowV shiftedRowV groupsV searchV deadUntilV settledV knownV tooLateV endedV)) sz) := by
  unfold fX3_shifted at hf
  refine z_enter_i (own := RX3) (by decide +kernel) rfl (Nat.le_of_ble_eq_true rfl) ?_
  intro p e s m args below meth c A Q C0 hP hD hS hret ls hl
  have hl : lv_has ls 7 [(0, .ref (h 0)), (1, .int (zI p1)), (2, .int (zI p2))] := hl
  refine z_iload_n C0 dX3_shifted_0 rfl (lv_at hl 1 rfl) ?_
  refine z_iconst C0 dX3_shifted_1 ?_
  refine z_bipush C0 dX3_shifted_2 (by decide +kernel) ?_
  obtain ⟨r1, hc2, hf⟩ := zbind hf
  refine z_callSi (rest := []) C0 hP (zD hD rfl) hS [] rfl (zmX3_isWithin l D cI cZ _ p1 0 63 r1 hc2) (zkX3_66 ⟨by decide, by decide⟩ C0.2.2.2.2.1) rfl rfl rfl hl.1 (Nat.le_of_ble_eq_true rfl) dX3_shifted_4 ⟨Nat.zero_le _, Nat.zero_le _⟩ rfl (Nat.le_of_ble_eq_true rfl) (fun H locs hP hS => ?_)
  have hP : va_P D vwCl ((wX h cI lagV deadV mannerV settingV keptRowV liveRowV shiftedRowV groupsV searchV deadUntilV settledV knownV tooLateV endedV)) H := hP
  refine z_ifeq C0 21 dX3_shifted_7 (by decide) (fun c45 => ?_) (fun c45 => ?_)
  · have hf := zif_pos hf c45
    refine z_bipush C0 dX3_shifted_21 (by decide +kernel) ?_
    cases hf
    exact hret hP hS dX3_shifted_23
  · have hf := zif_neg hf c45
    refine z_iload_n C0 dX3_shifted_10 rfl (lv_at hl 2 rfl) ?_
    refine z_iconst C0 dX3_shifted_11 ?_
    refine z_sipush C0 dX3_shifted_12 (by decide +kernel) ?_
    obtain ⟨r3, hc4, hf⟩ := zbind hf
    refine z_callSi (rest := []) C0 hP (zD hD rfl) hS [] rfl (zmX3_isWithin l D cI cZ _ p2 0 500 r3 hc4) (zkX3_66 ⟨by decide, by decide⟩ C0.2.2.2.2.1) rfl rfl rfl hl.1 (Nat.le_of_ble_eq_true rfl) dX3_shifted_15 ⟨Nat.zero_le _, Nat.zero_le _⟩ rfl (Nat.le_of_ble_eq_true rfl) (fun H locs hP hS => ?_)
    have hP : va_P D vwCl ((wX h cI lagV deadV mannerV settingV keptRowV liveRowV shiftedRowV groupsV searchV deadUntilV settledV knownV tooLateV endedV)) H := hP
    refine z_ifne C0 24 dX3_shifted_18 (by decide) (fun c44 => ?_) (fun c44 => ?_)
    · have hf := zif_neg hf c44
      refine z_aload_n C0 dX3_shifted_24 rfl (lv_at hl 0 rfl) ?_
      refine zgX3_98 C0 hP 0 rfl (.int (zI endedV)) rfl dX3_shifted_25 ?_
      refine z_ifne C0 34 dX3_shifted_28 (by decide) (fun c43 => ?_) (fun c43 => ?_)
      · have hf := zif_neg hf c43
        refine z_aload_n C0 dX3_shifted_34 rfl (lv_at hl 0 rfl) ?_
        refine zgX3_42 C0 hP 0 rfl (.ref (h 13)) rfl dX3_shifted_35 ?_
        refine z_aload_n C0 dX3_shifted_38 rfl (lv_at hl 0 rfl) ?_
        refine zgX3_39 C0 hP 0 rfl (.ref (h 9)) rfl dX3_shifted_39 ?_
        refine z_aload_n C0 dX3_shifted_42 rfl (lv_at hl 0 rfl) ?_
        refine zgX3_123 C0 hP 0 rfl (.int (zI knownV)) rfl dX3_shifted_43 ?_
        refine z_iload_n C0 dX3_shifted_46 rfl (lv_at hl 1 rfl) ?_
        refine z_iload_n C0 dX3_shifted_47 rfl (lv_at hl 2 rfl) ?_
        obtain ⟨r5, hc6, hf⟩ := zbind hf
        refine z_callVv (rest := []) C0 hP (zD hD rfl) hS [13, 14, 15, 16, 9, 10, 11, 12] rfl (zmX2_fillShifted l D cI cZ (h 13) (h 14) (h 15) (h 16) (h 9) (h 10) (h 11) (h 12) _ (zr_when shiftedRowV) (zr_plane shiftedRowV) (zr_strip shiftedRowV) (zr_size shiftedRowV) (zr_when liveRowV) (zr_plane liveRowV) (zr_strip liveRowV) (zr_size liveRowV) knownV p1 p2 r5 hc6) (zkX3_156 ⟨by decide, by decide⟩ C0.2.2.2.2.1) rfl 2 rfl rfl rfl rfl hl.1 (Nat.le_of_ble_eq_true rfl) dX3_shifted_48 ⟨Nat.zero_le _, Nat.zero_le _⟩ rfl (Nat.le_of_ble_eq_true rfl) (fun H locs hP hS => ?_)
        have hP : va_P D vwCl ((wX h cI lagV deadV mannerV settingV keptRowV liveRowV (zrs_size (zrs_strip (zrs_plane (zrs_when shiftedRowV r5.1) r5.2.1) r5.2.2.1) r5.2.2.2) groupsV searchV deadUntilV settledV knownV tooLateV endedV)) H := hP
        refine z_iconst C0 dX3_shifted_51 ?_
        refine z_istore_n C0 [(3, .int (zI 0)), (0, .ref (h 0)), (1, .int (zI p1)), (2, .int (zI p2))] dX3_shifted_52 rfl hl (by decide) rfl (fun ls hl => ?_)
        refine z_iconst C0 dX3_shifted_53 ?_
        refine z_istore C0 [(4, .int (zI 0)), (3, .int (zI 0)), (0, .ref (h 0)), (1, .int (zI p1)), (2, .int (zI p2))] dX3_shifted_54 hl (by decide) rfl (fun ls hl => ?_)
        refine z_iconst C0 dX3_shifted_56 ?_
        refine z_istore C0 [(5, .int (zI 0)), (4, .int (zI 0)), (3, .int (zI 0)), (0, .ref (h 0)), (1, .int (zI p1)), (2, .int (zI p2))] dX3_shifted_57 hl (by decide) rfl (fun ls hl => ?_)
        have L40 : ∀ (zn : Nat) (i8 : Int) (i9 : Int) (i10 : Int) (out : Int), fX3_shifted_L59 zn (zk_X lagV deadV mannerV settingV keptRowV liveRowV shiftedRowV groupsV searchV deadUntilV settledV knownV tooLateV endedV) (zrs_size (zrs_strip (zrs_plane (zrs_when shiftedRowV r5.1) r5.2.1) r5.2.2.1) r5.2.2.2) i8 i9 i10 = some out → (∀ (H : Heap) (locs : List Loc), va_P D vwCl ((wX h cI lagV deadV mannerV settingV keptRowV liveRowV (zrs_size (zrs_strip (zrs_plane (zrs_when shiftedRowV r5.1) r5.2.1) r5.2.2.1) r5.2.2.2) groupsV searchV deadUntilV settledV knownV tooLateV endedV)) H → va_S A s.heap H locs → ∀ ls : Array Slot, lv_has ls 7 [(3, .int (zI out))] → W p l e rmX3_shifted s m args below meth c H locs 0 0 Q (F0 m 134 ls [])) → ∀ (H : Heap) (locs : List Loc), va_P D vwCl ((wX h cI lagV deadV mannerV settingV keptRowV liveRowV (zrs_size (zrs_strip (zrs_plane (zrs_when shiftedRowV r5.1) r5.2.1) r5.2.2.1) r5.2.2.2) groupsV searchV deadUntilV settledV knownV tooLateV endedV)) H → va_S A s.heap H locs → ∀ ls : Array Slot, lv_has ls 7 [(0, .ref (h 0)), (3, .int (zI i8)), (4, .int (zI i9)), (5, .int (zI i10))] → W p l e rmX3_shifted s m args below meth c H locs 0 0 Q (F0 m 59 ls []) := by
          intro zn
          induction zn with
          | zero =>
            intro i8 i9 i10 out hf
            rw [fX3_shifted_L59_z] at hf
            cases hf
          | succ zn ih =>
            intro i8 i9 i10 out hf K H locs hP hS ls hl
            rw [fX3_shifted_L59_s] at hf
            refine z_iload C0 dX3_shifted_59 (lv_at hl 3 rfl) ?_
            refine z_sipush C0 dX3_shifted_61 (by decide +kernel) ?_
            refine z_icmpge C0 134 dX3_shifted_64 (by decide) (fun c39 => ?_) (fun c39 => ?_)
            · have hf := zif_pos hf c39
              cases hf
              exact K _ _ hP hS ls (lv_sub hl [1] rfl)
            · have hf := zif_neg hf c39
              refine z_aload_n C0 dX3_shifted_67 rfl (lv_at hl 0 rfl) ?_
              refine zgX3_42 C0 hP 0 rfl (.ref (h 13)) rfl dX3_shifted_68 ?_
              refine z_iload C0 dX3_shifted_71 (lv_at hl 2 rfl) ?_
              obtain ⟨r25, hc26, hf⟩ := zbind hf
              refine z_callVi (rest := []) C0 hP (zD hD rfl) hS [13, 14, 15, 16] rfl (zmX2_has l D cI cZ (h 13) (h 14) (h 15) (h 16) _ (zr_when (zrs_size (zrs_strip (zrs_plane (zrs_when shiftedRowV r5.1) r5.2.1) r5.2.2.1) r5.2.2.2)) (zr_plane (zrs_size (zrs_strip (zrs_plane (zrs_when shiftedRowV r5.1) r5.2.1) r5.2.2.1) r5.2.2.2)) (zr_strip (zrs_size (zrs_strip (zrs_plane (zrs_when shiftedRowV r5.1) r5.2.1) r5.2.2.1) r5.2.2.2)) (zr_size (zrs_size (zrs_strip (zrs_plane (zrs_when shiftedRowV r5.1) r5.2.1) r5.2.2.1) r5.2.2.2)) i9 r25 hc26) (zkX3_147 ⟨by decide, by decide⟩ C0.2.2.2.2.1) rfl 2 rfl rfl rfl rfl hl.1 (Nat.le_of_ble_eq_true rfl) dX3_shifted_73 ⟨Nat.zero_le _, Nat.zero_le _⟩ rfl (Nat.le_of_ble_eq_true rfl) (fun H locs hP hS => ?_)
              have hP : va_P D vwCl ((wX h cI lagV deadV mannerV settingV keptRowV liveRowV (zrs_size (zrs_strip (zrs_plane (zrs_when shiftedRowV r5.1) r5.2.1) r5.2.2.1) r5.2.2.2) groupsV searchV deadUntilV settledV knownV tooLateV endedV)) H := hP
              refine z_ifeq C0 134 dX3_shifted_76 (by decide) (fun c38 => ?_) (fun c38 => ?_)
              · have hf := zif_pos hf c38
                cases hf
                exact K _ _ hP hS ls (lv_sub hl [1] rfl)
              · have hf := zif_neg hf c38
                refine z_aload_n C0 dX3_shifted_79 rfl (lv_at hl 0 rfl) ?_
                refine zgX3_42 C0 hP 0 rfl (.ref (h 13)) rfl dX3_shifted_80 ?_
                refine z_iload C0 dX3_shifted_83 (lv_at hl 2 rfl) ?_
                refine z_aload_n C0 dX3_shifted_85 rfl (lv_at hl 0 rfl) ?_
                refine zgX3_42 C0 hP 0 rfl (.ref (h 13)) rfl dX3_shifted_86 ?_
                refine zgX3_74 C0 hP 13 rfl (.int (zI (zr_size (zrs_size (zrs_strip (zrs_plane (zrs_when shiftedRowV r5.1) r5.2.1) r5.2.2.1) r5.2.2.2)))) rfl dX3_shifted_89 ?_
                refine z_aload_n C0 dX3_shifted_92 rfl (lv_at hl 0 rfl) ?_
                refine zgX3_29 C0 hP 0 rfl (.ref (h 4)) rfl dX3_shifted_93 ?_
                refine z_iconst C0 dX3_shifted_96 ?_
                obtain ⟨g27, hf⟩ := zg_some hf
                refine z_iald C0 hP 4 rfl (Nat.le_of_ble_eq_true rfl) g27 dX3_shifted_97 ?_
                obtain ⟨r28, hc29, hf⟩ := zbind hf
                refine z_callVi (rest := []) C0 hP (zD hD rfl) hS [13, 14, 15, 16] rfl (zmX2_endOfGroup l D cI cZ (h 13) (h 14) (h 15) (h 16) _ (zr_when (zrs_size (zrs_strip (zrs_plane (zrs_when shiftedRowV r5.1) r5.2.1) r5.2.2.1) r5.2.2.2)) (zr_plane (zrs_size (zrs_strip (zrs_plane (zrs_when shiftedRowV r5.1) r5.2.1) r5.2.2.1) r5.2.2.2)) (zr_strip (zrs_size (zrs_strip (zrs_plane (zrs_when shiftedRowV r5.1) r5.2.1) r5.2.2.1) r5.2.2.2)) (zr_size (zrs_size (zrs_strip (zrs_plane (zrs_when shiftedRowV r5.1) r5.2.1) r5.2.2.1) r5.2.2.2)) i9 (zr_size (zrs_size (zrs_strip (zrs_plane (zrs_when shiftedRowV r5.1) r5.2.1) r5.2.2.1) r5.2.2.2)) (settingV (Int.toNat 1)) r28 hc29) (zkX3_160 ⟨by decide, by decide⟩ C0.2.2.2.2.1) rfl 2 rfl rfl rfl rfl hl.1 (Nat.le_of_ble_eq_true rfl) dX3_shifted_98 ⟨Nat.zero_le _, Nat.zero_le _⟩ rfl (Nat.le_of_ble_eq_true rfl) (fun H locs hP hS => ?_)
                have hP : va_P D vwCl ((wX h cI lagV deadV mannerV settingV keptRowV liveRowV (zrs_size (zrs_strip (zrs_plane (zrs_when shiftedRowV r5.1) r5.2.1) r5.2.2.1) r5.2.2.2) groupsV searchV deadUntilV settledV knownV tooLateV endedV)) H := hP
                refine z_istore C0 [(6, .int (zI r28)), (0, .ref (h 0)), (3, .int (zI i8)), (4, .int (zI i9)), (5, .int (zI i10))] dX3_shifted_101 hl (by decide) rfl (fun ls hl => ?_)
                refine z_aload_n C0 dX3_shifted_103 rfl (lv_at hl 1 rfl) ?_
                refine z_aload_n C0 dX3_shifted_104 rfl (lv_at hl 1 rfl) ?_
                refine zgX3_42 C0 hP 0 rfl (.ref (h 13)) rfl dX3_shifted_105 ?_
                refine z_iload C0 dX3_shifted_108 (lv_at hl 3 rfl) ?_
                refine z_iload C0 dX3_shifted_110 (lv_at hl 0 rfl) ?_
                obtain ⟨r30, hc31, hf⟩ := zbind hf
                refine z_callVi (rest := [.ref (h 0)]) C0 hP (zD hD rfl) hS [13, 14, 15, 16] rfl (zmX2_planesOf l D cI cZ (h 13) (h 14) (h 15) (h 16) _ (zr_when (zrs_size (zrs_strip (zrs_plane (zrs_when shiftedRowV r5.1) r5.2.1) r5.2.2.1) r5.2.2.2)) (zr_plane (zrs_size (zrs_strip (zrs_plane (zrs_when shiftedRowV r5.1) r5.2.1) r5.2.2.1) r5.2.2.2)) (zr_strip (zrs_size (zrs_strip (zrs_plane (zrs_when shiftedRowV r5.1) r5.2.1) r5.2.2.1) r5.2.2.2)) (zr_size (zrs_size (zrs_strip (zrs_plane (zrs_when shiftedRowV r5.1) r5.2.1) r5.2.2.1) r5.2.2.2)) i9 r28 r30 hc31) (zkX3_163 ⟨by decide, by decide⟩ C0.2.2.2.2.1) rfl 2 rfl rfl rfl rfl hl.1 (Nat.le_of_ble_eq_true rfl) dX3_shifted_112 ⟨Nat.zero_le _, Nat.zero_le _⟩ rfl (Nat.le_of_ble_eq_true rfl) (fun H locs hP hS => ?_)
                have hP : va_P D vwCl ((wX h cI lagV deadV mannerV settingV keptRowV liveRowV (zrs_size (zrs_strip (zrs_plane (zrs_when shiftedRowV r5.1) r5.2.1) r5.2.2.1) r5.2.2.2) groupsV searchV deadUntilV settledV knownV tooLateV endedV)) H := hP
                obtain ⟨r32, hc33, hf⟩ := zbind hf
                refine z_callFi (rest := []) C0 hP (zD hD rfl) hS (zmX3_isCoincidence l D cI cZ h _ lagV deadV mannerV settingV keptRowV liveRowV (zrs_size (zrs_strip (zrs_plane (zrs_when shiftedRowV r5.1) r5.2.1) r5.2.2.1) r5.2.2.2) groupsV searchV deadUntilV settledV knownV tooLateV endedV r30 r32 hc33) (zkX3_166 ⟨by decide, by decide⟩ C0.2.2.2.2.1) 3 rfl rfl rfl rfl hl.1 (Nat.le_of_ble_eq_true rfl) dX3_shifted_115 ⟨Nat.zero_le _, Nat.zero_le _⟩ (fun H locs hP hS => ?_)
                have hP : va_P D vwCl ((wX h cI lagV deadV mannerV settingV keptRowV liveRowV (zrs_size (zrs_strip (zrs_plane (zrs_when shiftedRowV r5.1) r5.2.1) r5.2.2.1) r5.2.2.2) groupsV searchV deadUntilV settledV knownV tooLateV endedV)) H := hP
                obtain ⟨r34, hE37, hf⟩ := zbind hf
                have J35 : ∀ (H : Heap) (locs : List Loc), va_P D vwCl ((wX h cI lagV deadV mannerV settingV keptRowV liveRowV (zrs_size (zrs_strip (zrs_plane (zrs_when shiftedRowV r5.1) r5.2.1) r5.2.2.1) r5.2.2.2) groupsV searchV deadUntilV settledV knownV tooLateV endedV)) H → va_S A s.heap H locs → ∀ ls : Array Slot, lv_has ls 7 [(0, .ref (h 0)), (3, .int (zI r34)), (5, .int (zI i10)), (6, .int (zI r28))] → W p l e rmX3_shifted s m args below meth c H locs 0 0 Q (F0 m 124 ls []) := by
                  intro H locs hP hS ls hl
                  refine z_iload C0 dX3_shifted_124 (lv_at hl 3 rfl) ?_
                  refine z_istore C0 [(4, .int (zI r28)), (0, .ref (h 0)), (3, .int (zI r34)), (5, .int (zI i10)), (6, .int (zI r28))] dX3_shifted_126 hl (by decide) rfl (fun ls hl => ?_)
                  refine z_iinc C0 [(5, .int (zI (i10 + 1))), (4, .int (zI r28)), (0, .ref (h 0)), (3, .int (zI r34)), (6, .int (zI r28))] dX3_shifted_128 hl 3 rfl (by decide) rfl (fun ls hl => ?_)
                  refine z_goto C0 59 dX3_shifted_131 (by decide) ?_
                  exact ih r34 r28 (i10 + 1) out hf K _ _ hP hS ls (lv_sub hl [2, 3, 1, 0] rfl)
                have hf := hE37
                refine z_ifeq C0 124 dX3_shifted_118 (by decide) (fun c36 => ?_) (fun c36 => ?_)
                · have hf := zif_pos hf c36
                  cases hf
                  exact J35 _ _ hP hS ls (lv_sub hl [1, 2, 4, 0] rfl)
                · have hf := zif_neg hf c36
                  refine z_iinc C0 [(3, .int (zI (i8 + 1))), (6, .int (zI r28)), (0, .ref (h 0)), (4, .int (zI i9)), (5, .int (zI i10))] dX3_shifted_121 hl 2 rfl (by decide) rfl (fun ls hl => ?_)
                  cases hf
                  exact J35 _ _ hP hS ls (lv_sub hl [2, 0, 4, 1] rfl)
        obtain ⟨r41, hE42, hf⟩ := zbind hf
        refine L40 _ 0 0 0 r41 hE42 ?_ _ _ hP hS ls (lv_sub hl [3, 2, 1, 0] rfl)
        intro H locs hP hS ls hl
        refine z_iload_n C0 dX3_shifted_134 rfl (lv_at hl 0 rfl) ?_
        cases hf
        exact hret hP hS dX3_shifted_135
      · have hf := zif_pos hf c43
        refine z_bipush C0 dX3_shifted_31 (by decide +kernel) ?_
        cases hf
        exact hret hP hS dX3_shifted_33
    · have hf := zif_pos hf c44
      refine z_bipush C0 dX3_shifted_21 (by decide +kernel) ?_
      cases hf
      exact hret hP hS dX3_shifted_23
