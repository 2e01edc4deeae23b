set_option maxHeartbeats 4000000 in
set_option maxRecDepth 100000 in
theorem zmX3_liveTime (l : Launch) (D : va_G) (cI cZ : ClassId) (h : Nat → Nat) (sz : Nat) (lagV : (Nat → Int)) (deadV : (Nat → Int)) (mannerV : (Nat → Int)) (settingV : (Nat → Int)) (keptRowV : zRowT) (liveRowV : zRowT) (shiftedRowV : zRowT) (groupsV : zGrT) (searchV : zLsT) (deadUntilV : (Nat → Int)) (settledV : Int) (knownV : Int) (tooLateV : Int) (endedV : Int) (p1 : Int) (o : Int) (hf : fX3_liveTime (zk_X lagV deadV mannerV settingV keptRowV liveRowV shiftedRowV groupsV searchV deadUntilV settledV knownV tooLateV endedV) p1 = some o) : Met l yX3_liveTime (zW yX3_liveTime cX3_liveTime 9 (some .int)) rmX3_liveTime (va_Pc [.ref (h 0), .int (zI p1)] (zPre D cI cZ ((wX h cI lagV deadV mannerV settingV keptRowV liveRowV shiftedRowV groupsV searchV deadUntilV settledV knownV tooLateV endedV)) sz)) (va_Qi (fun r' (_ : Unit) => r' = zI o) (fun _ t => va_P D vwCl ((wX h cI lagV deadV mannerV settingV keptRowV liveRowV shiftedRowV groupsV searchV deadUntilV settledV knownV tooLateV endedV)) t.heap) (va_A ((wX h cI lagV deadV mannerV settingV keptRowV liveRowV shiftedRowV groupsV searchV deadUntilV settledV knownV tooLateV endedV)) sz)) 0 0 (va_A ((wX h cI lagV deadV mannerV settingV keptRowV liveRowV shiftedRowV groupsV searchV deadUntilV settledV knownV tooLateV endedV)) sz) := by
  unfold fX3_liveTime at hf
  refine z_enter_i (own := RX3) (by decide +kernel) rfl (Nat.le_of_ble_eq_true rfl) ?_
  intro p e s m args below meth c A Q C0 hP hD hS hret ls hl
  have hl : lv_has ls 9 [(0, .ref (h 0)), (1, .int (zI p1))] := hl
  refine z_aload_n C0 dX3_liveTime_0 rfl (lv_at hl 0 rfl) ?_
  refine zgX3_18 C0 hP 0 rfl (.ref (h 3)) rfl dX3_liveTime_1 ?_
  refine z_iload_n C0 dX3_liveTime_4 rfl (lv_at hl 1 rfl) ?_
  obtain ⟨g1, hf⟩ := zg_some hf
  refine z_iald C0 hP 3 rfl (Nat.le_of_ble_eq_true rfl) g1 dX3_liveTime_5 ?_
  obtain ⟨r2, hE90, hf⟩ := zbind hf
  have J3 : ∀ (H : Heap) (locs : List Loc), va_P D vwCl ((wX h cI lagV deadV mannerV settingV keptRowV liveRowV shiftedRowV groupsV searchV deadUntilV settledV knownV tooLateV endedV)) H → va_S A s.heap H locs → ∀ ls : Array Slot, lv_has ls 9 [(0, .ref (h 0)), (1, .int (zI p1))] → W p l e rmX3_liveTime s m args below meth c H locs 0 0 Q (F0 m 14 ls [.int (zI r2)]) := by
    intro H locs hP hS ls hl
    refine z_istore_n C0 [(2, .int (zI r2)), (0, .ref (h 0)), (1, .int (zI p1))] dX3_liveTime_14 rfl hl (by decide) rfl (fun ls hl => ?_)
    refine z_iload_n C0 dX3_liveTime_15 rfl (lv_at hl 0 rfl) ?_
    refine z_ifeq C0 26 dX3_liveTime_16 (by decide) (fun c88 => ?_) (fun c88 => ?_)
    · have hf := zif_pos hf c88
      refine z_aload_n C0 dX3_liveTime_26 rfl (lv_at hl 1 rfl) ?_
      refine zgX3_35 C0 hP 0 rfl (.ref (h 5)) rfl dX3_liveTime_27 ?_
      refine z_astore_n C0 [(3, .ref (h 5)), (2, .int (zI r2)), (0, .ref (h 0)), (1, .int (zI p1))] dX3_liveTime_30 rfl hl (by decide) rfl (fun ls hl => ?_)
      refine z_iload_n C0 dX3_liveTime_31 rfl (lv_at hl 1 rfl) ?_
      obtain ⟨r4, hE45, hf⟩ := zbind hf
      have J5 : ∀ (H : Heap) (locs : List Loc), va_P D vwCl ((wX h cI lagV deadV mannerV settingV keptRowV liveRowV shiftedRowV groupsV searchV deadUntilV settledV knownV tooLateV endedV)) H → va_S A s.heap H locs → ∀ ls : Array Slot, lv_has ls 9 [(0, .ref (h 0)), (1, .int (zI p1)), (3, .ref (h 5))] → W p l e rmX3_liveTime s m args below meth c H locs 0 0 Q (F0 m 45 ls [.int (zI r4)]) := by
        intro H locs hP hS ls hl
        refine z_istore C0 [(4, .int (zI r4)), (0, .ref (h 0)), (1, .int (zI p1)), (3, .ref (h 5))] dX3_liveTime_45 hl (by decide) rfl (fun ls hl => ?_)
        refine z_iconst C0 dX3_liveTime_47 ?_
        refine z_istore C0 [(5, .int (zI 0)), (4, .int (zI r4)), (0, .ref (h 0)), (1, .int (zI p1)), (3, .ref (h 5))] dX3_liveTime_48 hl (by decide) rfl (fun ls hl => ?_)
        refine z_iconst C0 dX3_liveTime_50 ?_
        refine z_istore C0 [(6, .int (zI 0)), (5, .int (zI 0)), (4, .int (zI r4)), (0, .ref (h 0)), (1, .int (zI p1)), (3, .ref (h 5))] dX3_liveTime_51 hl (by decide) rfl (fun ls hl => ?_)
        refine z_iconst C0 dX3_liveTime_53 ?_
        refine z_istore C0 [(7, .int (zI 0)), (6, .int (zI 0)), (5, .int (zI 0)), (4, .int (zI r4)), (0, .ref (h 0)), (1, .int (zI p1)), (3, .ref (h 5))] dX3_liveTime_54 hl (by decide) rfl (fun ls hl => ?_)
        have L38 : ∀ (zn : Nat) (i10 : Int) (i11 : Int) (i12 : Int) (out : Int × Int), fX3_liveTime_L56 zn (zk_X lagV deadV mannerV settingV keptRowV liveRowV shiftedRowV groupsV searchV deadUntilV settledV knownV tooLateV endedV) p1 r4 i10 i11 i12 = some out → (∀ (H : Heap) (locs : List Loc), va_P D vwCl ((wX h cI lagV deadV mannerV settingV keptRowV liveRowV shiftedRowV groupsV searchV deadUntilV settledV knownV tooLateV endedV)) H → va_S A s.heap H locs → ∀ ls : Array Slot, lv_has ls 9 [(0, .ref (h 0)), (5, .int (zI out.1)), (6, .int (zI out.2))] → W p l e rmX3_liveTime s m args below meth c H locs 0 0 Q (F0 m 122 ls [])) → ∀ (H : Heap) (locs : List Loc), va_P D vwCl ((wX h cI lagV deadV mannerV settingV keptRowV liveRowV shiftedRowV groupsV searchV deadUntilV settledV knownV tooLateV endedV)) H → va_S A s.heap H locs → ∀ ls : Array Slot, lv_has ls 9 [(0, .ref (h 0)), (1, .int (zI p1)), (3, .ref (h 5)), (4, .int (zI r4)), (5, .int (zI i10)), (6, .int (zI i11)), (7, .int (zI i12))] → W p l e rmX3_liveTime s m args below meth c H locs 0 0 Q (F0 m 56 ls []) := by
          intro zn
          induction zn with
          | zero =>
            intro i10 i11 i12 out hf
            rw [fX3_liveTime_L56_z] at hf
            cases hf
          | succ zn ih =>
            intro i10 i11 i12 out hf K H locs hP hS ls hl
            rw [fX3_liveTime_L56_s] at hf
            refine z_iload C0 dX3_liveTime_56 (lv_at hl 6 rfl) ?_
            refine z_aload_n C0 dX3_liveTime_58 rfl (lv_at hl 2 rfl) ?_
            refine zgX3_74 C0 hP 5 rfl (.int (zI (zr_size keptRowV))) rfl dX3_liveTime_59 ?_
            refine z_icmpge C0 122 dX3_liveTime_62 (by decide) (fun c37 => ?_) (fun c37 => ?_)
            · have hf := zif_pos hf c37
              cases hf
              exact K _ _ hP hS ls (lv_sub hl [0, 4, 5] rfl)
            · have hf := zif_neg hf c37
              refine z_aload_n C0 dX3_liveTime_65 rfl (lv_at hl 2 rfl) ?_
              refine zgX3_230 C0 hP 5 rfl (.ref (h 7)) rfl dX3_liveTime_66 ?_
              refine z_iload C0 dX3_liveTime_69 (lv_at hl 6 rfl) ?_
              obtain ⟨g27, hf⟩ := zg_some hf
              refine z_iald C0 hP 7 rfl (Nat.le_of_ble_eq_true rfl) g27 dX3_liveTime_71 ?_
              refine z_iload_n C0 dX3_liveTime_72 rfl (lv_at hl 1 rfl) ?_
              obtain ⟨r28, hE36, hf⟩ := zbind hf
              have J29 : ∀ (H : Heap) (locs : List Loc), va_P D vwCl ((wX h cI lagV deadV mannerV settingV keptRowV liveRowV shiftedRowV groupsV searchV deadUntilV settledV knownV tooLateV endedV)) H → va_S A s.heap H locs → ∀ ls : Array Slot, lv_has ls 9 [(0, .ref (h 0)), (1, .int (zI p1)), (3, .ref (h 5)), (4, .int (zI r4)), (5, .int (zI r28.1)), (6, .int (zI r28.2)), (7, .int (zI i12))] → W p l e rmX3_liveTime s m args below meth c H locs 0 0 Q (F0 m 116 ls []) := by
                intro H locs hP hS ls hl
                refine z_iinc C0 [(7, .int (zI (i12 + 1))), (0, .ref (h 0)), (1, .int (zI p1)), (3, .ref (h 5)), (4, .int (zI r4)), (5, .int (zI r28.1)), (6, .int (zI r28.2))] dX3_liveTime_116 hl 6 rfl (by decide) rfl (fun ls hl => ?_)
                refine z_goto C0 56 dX3_liveTime_119 (by decide) ?_
                exact ih r28.1 r28.2 (i12 + 1) out hf K _ _ hP hS ls (lv_sub hl [1, 2, 3, 4, 5, 6, 0] rfl)
              have hf := hE36
              refine z_icmpeq C0 79 dX3_liveTime_73 (by decide) (fun c35 => ?_) (fun c35 => ?_)
              · have hf := zif_pos hf c35
                refine z_aload_n C0 dX3_liveTime_79 rfl (lv_at hl 2 rfl) ?_
                refine zgX3_150 C0 hP 5 rfl (.ref (h 6)) rfl dX3_liveTime_80 ?_
                refine z_iload C0 dX3_liveTime_83 (lv_at hl 6 rfl) ?_
                obtain ⟨g30, hf⟩ := zg_some hf
                refine z_iald C0 hP 6 rfl (Nat.le_of_ble_eq_true rfl) g30 dX3_liveTime_85 ?_
                refine z_iload C0 dX3_liveTime_86 (lv_at hl 3 rfl) ?_
                refine z_iadd C0 dX3_liveTime_88 ?_
                obtain ⟨v31, hv31, hf⟩ := zl_some hf
                refine z_name hv31 ?_
                refine z_istore C0 [(8, .int (zI v31)), (0, .ref (h 0)), (1, .int (zI p1)), (3, .ref (h 5)), (4, .int (zI r4)), (5, .int (zI i10)), (6, .int (zI i11)), (7, .int (zI i12))] dX3_liveTime_89 hl (by decide) rfl (fun ls hl => ?_)
                refine z_iload C0 dX3_liveTime_91 (lv_at hl 5 rfl) ?_
                refine z_iconst C0 dX3_liveTime_93 ?_
                refine z_iload C0 dX3_liveTime_94 (lv_at hl 0 rfl) ?_
                refine z_iload C0 dX3_liveTime_96 (lv_at hl 6 rfl) ?_
                refine z_isub C0 dX3_liveTime_98 ?_
                refine z_max C0 hl.1 zw125 zw126 zw30 zw127 (by decide) (Nat.le_of_ble_eq_true rfl) (Nat.zero_le _) (Nat.zero_le _) dX3_liveTime_99 ?_
                refine z_iadd C0 dX3_liveTime_102 ?_
                obtain ⟨v32, hv32, hf⟩ := zl_some hf
                refine z_name hv32 ?_
                refine z_istore C0 [(5, .int (zI v32)), (8, .int (zI v31)), (0, .ref (h 0)), (1, .int (zI p1)), (3, .ref (h 5)), (4, .int (zI r4)), (6, .int (zI i11)), (7, .int (zI i12))] dX3_liveTime_103 hl (by decide) rfl (fun ls hl => ?_)
                refine z_iload C0 dX3_liveTime_105 (lv_at hl 1 rfl) ?_
                refine z_aload_n C0 dX3_liveTime_107 rfl (lv_at hl 2 rfl) ?_
                refine zgX3_15 C0 hP 0 rfl (.ref (h 2)) rfl dX3_liveTime_108 ?_
                refine z_iload_n C0 dX3_liveTime_111 rfl (lv_at hl 3 rfl) ?_
                obtain ⟨g33, hf⟩ := zg_some hf
                refine z_iald C0 hP 2 rfl (Nat.le_of_ble_eq_true rfl) g33 dX3_liveTime_112 ?_
                refine z_iadd C0 dX3_liveTime_113 ?_
                obtain ⟨v34, hv34, hf⟩ := zl_some hf
                refine z_name hv34 ?_
                refine z_istore C0 [(6, .int (zI v34)), (5, .int (zI v32)), (8, .int (zI v31)), (0, .ref (h 0)), (1, .int (zI p1)), (3, .ref (h 5)), (4, .int (zI r4)), (7, .int (zI i12))] dX3_liveTime_114 hl (by decide) rfl (fun ls hl => ?_)
                cases hf
                exact J29 _ _ hP hS ls (lv_sub hl [3, 4, 5, 6, 1, 0, 7] rfl)
              · have hf := zif_neg hf c35
                refine z_goto C0 116 dX3_liveTime_76 (by decide) ?_
                cases hf
                exact J29 _ _ hP hS ls (lv_sub hl [0, 1, 2, 3, 4, 5, 6] rfl)
        obtain ⟨r39, hE40, hf⟩ := zbind hf
        refine L38 _ 0 0 0 r39 hE40 ?_ _ _ hP hS ls (lv_sub hl [4, 5, 6, 3, 2, 1, 0] rfl)
        intro H locs hP hS ls hl
        refine z_iload C0 dX3_liveTime_122 (lv_at hl 1 rfl) ?_
        refine z_iconst C0 dX3_liveTime_124 ?_
        refine z_aload_n C0 dX3_liveTime_125 rfl (lv_at hl 0 rfl) ?_
        obtain ⟨r41, hc42, hf⟩ := zbind hf
        refine z_callFi (rest := [.int (zI 0), .int (zI r39.1)]) C0 hP (zD hD rfl) hS (zmX3_span l D cI cZ h _ lagV deadV mannerV settingV keptRowV liveRowV shiftedRowV groupsV searchV deadUntilV settledV knownV tooLateV endedV r41 hc42) (zkX3_182 ⟨by decide, by decide⟩ C0.2.2.2.2.1) 3 rfl rfl rfl rfl hl.1 (Nat.le_of_ble_eq_true rfl) dX3_liveTime_126 ⟨Nat.zero_le _, Nat.zero_le _⟩ (fun H locs hP hS => ?_)
        have hP : va_P D vwCl ((wX h cI lagV deadV mannerV settingV keptRowV liveRowV shiftedRowV groupsV searchV deadUntilV settledV knownV tooLateV endedV)) H := hP
        refine z_iload C0 dX3_liveTime_129 (lv_at hl 2 rfl) ?_
        refine z_isub C0 dX3_liveTime_131 ?_
        refine z_max C0 hl.1 zw125 zw126 zw30 zw127 (by decide) (Nat.le_of_ble_eq_true rfl) (Nat.zero_le _) (Nat.zero_le _) dX3_liveTime_132 ?_
        refine z_iadd C0 dX3_liveTime_135 ?_
        cases hf
        exact hret hP hS dX3_liveTime_136
      have hf := hE45
      refine z_ifeq C0 44 dX3_liveTime_32 (by decide) (fun c44 => ?_) (fun c44 => ?_)
      · have hf := zif_pos hf c44
        refine z_iconst C0 dX3_liveTime_44 ?_
        cases hf
        exact J5 _ _ hP hS ls (lv_sub hl [2, 3, 0] rfl)
      · have hf := zif_neg hf c44
        refine z_aload_n C0 dX3_liveTime_35 rfl (lv_at hl 2 rfl) ?_
        refine zgX3_11 C0 hP 0 rfl (.ref (h 1)) rfl dX3_liveTime_36 ?_
        refine z_iload_n C0 dX3_liveTime_39 rfl (lv_at hl 3 rfl) ?_
        obtain ⟨g43, hf⟩ := zg_some hf
        refine z_iald C0 hP 1 rfl (Nat.le_of_ble_eq_true rfl) g43 dX3_liveTime_40 ?_
        refine z_goto C0 45 dX3_liveTime_41 (by decide) ?_
        cases hf
        exact J5 _ _ hP hS ls (lv_sub hl [2, 3, 0] rfl)
    · have hf := zif_neg hf c88
      refine z_aload_n C0 dX3_liveTime_19 rfl (lv_at hl 1 rfl) ?_
      refine zgX3_39 C0 hP 0 rfl (.ref (h 9)) rfl dX3_liveTime_20 ?_
      refine z_goto C0 30 dX3_liveTime_23 (by decide) ?_
      refine z_astore_n C0 [(3, .ref (h 9)), (2, .int (zI r2)), (0, .ref (h 0)), (1, .int (zI p1))] dX3_liveTime_30 rfl hl (by decide) rfl (fun ls hl => ?_)
      refine z_iload_n C0 dX3_liveTime_31 rfl (lv_at hl 1 rfl) ?_
      obtain ⟨r46, hE87, hf⟩ := zbind hf
      have J47 : ∀ (H : Heap) (locs : List Loc), va_P D vwCl ((wX h cI lagV deadV mannerV settingV keptRowV liveRowV shiftedRowV groupsV searchV deadUntilV settledV knownV tooLateV endedV)) H → va_S A s.heap H locs → ∀ ls : Array Slot, lv_has ls 9 [(0, .ref (h 0)), (1, .int (zI p1)), (3, .ref (h 9))] → W p l e rmX3_liveTime s m args below meth c H locs 0 0 Q (F0 m 45 ls [.int (zI r46)]) := by
        intro H locs hP hS ls hl
        refine z_istore C0 [(4, .int (zI r46)), (0, .ref (h 0)), (1, .int (zI p1)), (3, .ref (h 9))] dX3_liveTime_45 hl (by decide) rfl (fun ls hl => ?_)
        refine z_iconst C0 dX3_liveTime_47 ?_
        refine z_istore C0 [(5, .int (zI 0)), (4, .int (zI r46)), (0, .ref (h 0)), (1, .int (zI p1)), (3, .ref (h 9))] dX3_liveTime_48 hl (by decide) rfl (fun ls hl => ?_)
        refine z_iconst C0 dX3_liveTime_50 ?_
        refine z_istore C0 [(6, .int (zI 0)), (5, .int (zI 0)), (4, .int (zI r46)), (0, .ref (h 0)), (1, .int (zI p1)), (3, .ref (h 9))] dX3_liveTime_51 hl (by decide) rfl (fun ls hl => ?_)
        refine z_iconst C0 dX3_liveTime_53 ?_
        refine z_istore C0 [(7, .int (zI 0)), (6, .int (zI 0)), (5, .int (zI 0)), (4, .int (zI r46)), (0, .ref (h 0)), (1, .int (zI p1)), (3, .ref (h 9))] dX3_liveTime_54 hl (by decide) rfl (fun ls hl => ?_)
        have L80 : ∀ (zn : Nat) (i52 : Int) (i53 : Int) (i54 : Int) (out : Int × Int), fX3_liveTime_L56b zn (zk_X lagV deadV mannerV settingV keptRowV liveRowV shiftedRowV groupsV searchV deadUntilV settledV knownV tooLateV endedV) p1 r46 i52 i53 i54 = some out → (∀ (H : Heap) (locs : List Loc), va_P D vwCl ((wX h cI lagV deadV mannerV settingV keptRowV liveRowV shiftedRowV groupsV searchV deadUntilV settledV knownV tooLateV endedV)) H → va_S A s.heap H locs → ∀ ls : Array Slot, lv_has ls 9 [(0, .ref (h 0)), (5, .int (zI out.1)), (6, .int (zI out.2))] → W p l e rmX3_liveTime s m args below meth c H locs 0 0 Q (F0 m 122 ls [])) → ∀ (H : Heap) (locs : List Loc), va_P D vwCl ((wX h cI lagV deadV mannerV settingV keptRowV liveRowV shiftedRowV groupsV searchV deadUntilV settledV knownV tooLateV endedV)) H → va_S A s.heap H locs → ∀ ls : Array Slot, lv_has ls 9 [(0, .ref (h 0)), (1, .int (zI p1)), (3, .ref (h 9)), (4, .int (zI r46)), (5, .int (zI i52)), (6, .int (zI i53)), (7, .int (zI i54))] → W p l e rmX3_liveTime s m args below meth c H locs 0 0 Q (F0 m 56 ls []) := by
          intro zn
          induction zn with
          | zero =>
            intro i52 i53 i54 out hf
            rw [fX3_liveTime_L56b_z] at hf
            cases hf
          | succ zn ih =>
            intro i52 i53 i54 out hf K H locs hP hS ls hl
            rw [fX3_liveTime_L56b_s] at hf
            refine z_iload C0 dX3_liveTime_56 (lv_at hl 6 rfl) ?_
            refine z_aload_n C0 dX3_liveTime_58 rfl (lv_at hl 2 rfl) ?_
            refine zgX3_74 C0 hP 9 rfl (.int (zI (zr_size liveRowV))) rfl dX3_liveTime_59 ?_
            refine z_icmpge C0 122 dX3_liveTime_62 (by decide) (fun c79 => ?_) (fun c79 => ?_)
            · have hf := zif_pos hf c79
              cases hf
              exact K _ _ hP hS ls (lv_sub hl [0, 4, 5] rfl)
            · have hf := zif_neg hf c79
              refine z_aload_n C0 dX3_liveTime_65 rfl (lv_at hl 2 rfl) ?_
              refine zgX3_230 C0 hP 9 rfl (.ref (h 11)) rfl dX3_liveTime_66 ?_
              refine z_iload C0 dX3_liveTime_69 (lv_at hl 6 rfl) ?_
              obtain ⟨g69, hf⟩ := zg_some hf
              refine z_iald C0 hP 11 rfl (Nat.le_of_ble_eq_true rfl) g69 dX3_liveTime_71 ?_
              refine z_iload_n C0 dX3_liveTime_72 rfl (lv_at hl 1 rfl) ?_
              obtain ⟨r70, hE78, hf⟩ := zbind hf
              have J71 : ∀ (H : Heap) (locs : List Loc), va_P D vwCl ((wX h cI lagV deadV mannerV settingV keptRowV liveRowV shiftedRowV groupsV searchV deadUntilV settledV knownV tooLateV endedV)) H → va_S A s.heap H locs → ∀ ls : Array Slot, lv_has ls 9 [(0, .ref (h 0)), (1, .int (zI p1)), (3, .ref (h 9)), (4, .int (zI r46)), (5, .int (zI r70.1)), (6, .int (zI r70.2)), (7, .int (zI i54))] → W p l e rmX3_liveTime s m args below meth c H locs 0 0 Q (F0 m 116 ls []) := by
                intro H locs hP hS ls hl
                refine z_iinc C0 [(7, .int (zI (i54 + 1))), (0, .ref (h 0)), (1, .int (zI p1)), (3, .ref (h 9)), (4, .int (zI r46)), (5, .int (zI r70.1)), (6, .int (zI r70.2))] dX3_liveTime_116 hl 6 rfl (by decide) rfl (fun ls hl => ?_)
                refine z_goto C0 56 dX3_liveTime_119 (by decide) ?_
                exact ih r70.1 r70.2 (i54 + 1) out hf K _ _ hP hS ls (lv_sub hl [1, 2, 3, 4, 5, 6, 0] rfl)
              have hf := hE78
              refine z_icmpeq C0 79 dX3_liveTime_73 (by decide) (fun c77 => ?_) (fun c77 => ?_)
              · have hf := zif_pos hf c77
                refine z_aload_n C0 dX3_liveTime_79 rfl (lv_at hl 2 rfl) ?_
                refine zgX3_150 C0 hP 9 rfl (.ref (h 10)) rfl dX3_liveTime_80 ?_
                refine z_iload C0 dX3_liveTime_83 (lv_at hl 6 rfl) ?_
                obtain ⟨g72, hf⟩ := zg_some hf
                refine z_iald C0 hP 10 rfl (Nat.le_of_ble_eq_true rfl) g72 dX3_liveTime_85 ?_
                refine z_iload C0 dX3_liveTime_86 (lv_at hl 3 rfl) ?_
                refine z_iadd C0 dX3_liveTime_88 ?_
                obtain ⟨v73, hv73, hf⟩ := zl_some hf
                refine z_name hv73 ?_
                refine z_istore C0 [(8, .int (zI v73)), (0, .ref (h 0)), (1, .int (zI p1)), (3, .ref (h 9)), (4, .int (zI r46)), (5, .int (zI i52)), (6, .int (zI i53)), (7, .int (zI i54))] dX3_liveTime_89 hl (by decide) rfl (fun ls hl => ?_)
                refine z_iload C0 dX3_liveTime_91 (lv_at hl 5 rfl) ?_
                refine z_iconst C0 dX3_liveTime_93 ?_
                refine z_iload C0 dX3_liveTime_94 (lv_at hl 0 rfl) ?_
                refine z_iload C0 dX3_liveTime_96 (lv_at hl 6 rfl) ?_
                refine z_isub C0 dX3_liveTime_98 ?_
                refine z_max C0 hl.1 zw125 zw126 zw30 zw127 (by decide) (Nat.le_of_ble_eq_true rfl) (Nat.zero_le _) (Nat.zero_le _) dX3_liveTime_99 ?_
                refine z_iadd C0 dX3_liveTime_102 ?_
                obtain ⟨v74, hv74, hf⟩ := zl_some hf
                refine z_name hv74 ?_
                refine z_istore C0 [(5, .int (zI v74)), (8, .int (zI v73)), (0, .ref (h 0)), (1, .int (zI p1)), (3, .ref (h 9)), (4, .int (zI r46)), (6, .int (zI i53)), (7, .int (zI i54))] dX3_liveTime_103 hl (by decide) rfl (fun ls hl => ?_)
                refine z_iload C0 dX3_liveTime_105 (lv_at hl 1 rfl) ?_
                refine z_aload_n C0 dX3_liveTime_107 rfl (lv_at hl 2 rfl) ?_
                refine zgX3_15 C0 hP 0 rfl (.ref (h 2)) rfl dX3_liveTime_108 ?_
                refine z_iload_n C0 dX3_liveTime_111 rfl (lv_at hl 3 rfl) ?_
                obtain ⟨g75, hf⟩ := zg_some hf
                refine z_iald C0 hP 2 rfl (Nat.le_of_ble_eq_true rfl) g75 dX3_liveTime_112 ?_
                refine z_iadd C0 dX3_liveTime_113 ?_
                obtain ⟨v76, hv76, hf⟩ := zl_some hf
                refine z_name hv76 ?_
                refine z_istore C0 [(6, .int (zI v76)), (5, .int (zI v74)), (8, .int (zI v73)), (0, .ref (h 0)), (1, .int (zI p1)), (3, .ref (h 9)), (4, .int (zI r46)), (7, .int (zI i54))] dX3_liveTime_114 hl (by decide) rfl (fun ls hl => ?_)
                cases hf
                exact J71 _ _ hP hS ls (lv_sub hl [3, 4, 5, 6, 1, 0, 7] rfl)
              · have hf := zif_neg hf c77
                refine z_goto C0 116 dX3_liveTime_76 (by decide) ?_
                cases hf
                exact J71 _ _ hP hS ls (lv_sub hl [0, 1, 2, 3, 4, 5, 6] rfl)
        obtain ⟨r81, hE82, hf⟩ := zbind hf
        refine L80 _ 0 0 0 r81 hE82 ?_ _ _ hP hS ls (lv_sub hl [4, 5, 6, 3, 2, 1, 0] rfl)
        intro H locs hP hS ls hl
        refine z_iload C0 dX3_liveTime_122 (lv_at hl 1 rfl) ?_
        refine z_iconst C0 dX3_liveTime_124 ?_
        refine z_aload_n C0 dX3_liveTime_125 rfl (lv_at hl 0 rfl) ?_
        obtain ⟨r83, hc84, hf⟩ := zbind hf
        refine z_callFi (rest := [.int (zI 0), .int (zI r81.1)]) C0 hP (zD hD rfl) hS (zmX3_span l D cI cZ h _ lagV deadV mannerV settingV keptRowV liveRowV shiftedRowV groupsV searchV deadUntilV settledV knownV tooLateV endedV r83 hc84) (zkX3_182 ⟨by decide, by decide⟩ C0.2.2.2.2.1) 3 rfl rfl rfl rfl hl.1 (Nat.le_of_ble_eq_true rfl) dX3_liveTime_126 ⟨Nat.zero_le _, Nat.zero_le _⟩ (fun H locs hP hS => ?_)
        have hP : va_P D vwCl ((wX h cI lagV deadV mannerV settingV keptRowV liveRowV shiftedRowV groupsV searchV deadUntilV settledV knownV tooLateV endedV)) H := hP
        refine z_iload C0 dX3_liveTime_129 (lv_at hl 2 rfl) ?_
        refine z_isub C0 dX3_liveTime_131 ?_
        refine z_max C0 hl.1 zw125 zw126 zw30 zw127 (by decide) (Nat.le_of_ble_eq_true rfl) (Nat.zero_le _) (Nat.zero_le _) dX3_liveTime_132 ?_
        refine z_iadd C0 dX3_liveTime_135 ?_
        cases hf
        exact hret hP hS dX3_liveTime_136
      have hf := hE87
      refine z_ifeq C0 44 dX3_liveTime_32 (by decide) (fun c86 => ?_) (fun c86 => ?_)
      · have hf := zif_pos hf c86
        refine z_iconst C0 dX3_liveTime_44 ?_
        cases hf
        exact J47 _ _ hP hS ls (lv_sub hl [2, 3, 0] rfl)
      · have hf := zif_neg hf c86
        refine z_aload_n C0 dX3_liveTime_35 rfl (lv_at hl 2 rfl) ?_
        refine zgX3_11 C0 hP 0 rfl (.ref (h 1)) rfl dX3_liveTime_36 ?_
        refine z_iload_n C0 dX3_liveTime_39 rfl (lv_at hl 3 rfl) ?_
        obtain ⟨g85, hf⟩ := zg_some hf
        refine z_iald C0 hP 1 rfl (Nat.le_of_ble_eq_true rfl) g85 dX3_liveTime_40 ?_
        refine z_goto C0 45 dX3_liveTime_41 (by decide) ?_
        cases hf
        exact J47 _ _ hP hS ls (lv_sub hl [2, 3, 0] rfl)
  have hf := hE90
  refine z_ifne C0 13 dX3_liveTime_6 (by decide) (fun c89 => ?_) (fun c89 => ?_)
  · have hf := zif_neg hf c89
    refine z_iconst C0 dX3_liveTime_13 ?_
    cases hf
    exact J3 _ _ hP hS ls (lv_sub hl [0, 1] rfl)
  · have hf := zif_pos hf c89
    refine z_iconst C0 dX3_liveTime_9 ?_
    refine z_goto C0 14 dX3_liveTime_10 (by decide) ?_
    cases hf
    exact J3 _ _ hP hS ls (lv_sub hl [0, 1] rfl)
