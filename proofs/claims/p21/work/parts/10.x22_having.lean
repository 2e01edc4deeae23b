set_option maxHeartbeats 4000000 in
set_option maxRecDepth 100000 in
theorem zmX3_having (l : Launch) (D : va_G) (cI cZ : ClassId) (h : Nat → Nat) (sz : Nat) (lagV : (Nat → Int)) (deadV : (Nat → Int)) (mannerV : (Nat → Int)) (settingV : (Nat → Int)) (keptRowV : zRowT) (liveRowV : zRowT) (shiftedRowV : zRowT) (groupsV : zGrT) (searchV : zLsT) (deadUntilV : (Nat → Int)) (settledV : Int) (knownV : Int) (tooLateV : Int) (endedV : Int) (p1 : Int) (p2 : Int) (o : Int) (hf : fX3_having (zk_X lagV deadV mannerV settingV keptRowV liveRowV shiftedRowV groupsV searchV deadUntilV settledV knownV tooLateV endedV) p1 p2 = some o) : Met l yX3_having (zW yX3_having cX3_having 7 (some .int)) rmX3_having (va_Pc [.ref (h 0), .int (zI p1), .int (zI p2)] (zPre D cI cZ ((wX h cI lagV deadV mannerV settingV keptRowV liveRowV shiftedRowV groupsV searchV deadUntilV settledV knownV tooLateV endedV)) sz)) (va_Qi (fun r' (_ : Unit) => r' = zI o) (fun _ t => va_P D vwCl ((wX h cI lagV deadV mannerV settingV keptRowV liveRowV shiftedRowV groupsV searchV deadUntilV settledV knownV tooLateV endedV)) t.heap) (va_A ((wX h cI lagV deadV mannerV settingV keptRowV liveRowV shiftedRowV groupsV searchV deadUntilV settledV knownV tooLateV endedV)) sz)) 0 0 (va_A ((wX h cI lagV deadV mannerV settingV keptRowV liveRowV shiftedRowV groupsV searchV deadUntilV settledV knownV tooLateV endedV)) sz) := by
  unfold fX3_having at hf
  refine z_enter_i (own := RX3) (by decide +kernel) rfl (Nat.le_of_ble_eq_true rfl) ?_
  intro p e s m args below meth c A Q C0 hP hD hS hret ls hl
  have hl : lv_has ls 7 [(0, .ref (h 0)), (1, .int (zI p1)), (2, .int (zI p2))] := hl
  refine z_iload_n C0 dX3_having_0 rfl (lv_at hl 1 rfl) ?_
  refine z_iconst C0 dX3_having_1 ?_
  refine z_bipush C0 dX3_having_2 (by decide +kernel) ?_
  obtain ⟨r1, hc2, hf⟩ := zbind hf
  refine z_callSi (rest := []) C0 hP (zD hD rfl) hS [] rfl (zmX3_isWithin l D cI cZ _ p1 0 63 r1 hc2) (zkX3_66 ⟨by decide, by decide⟩ C0.2.2.2.2.1) rfl rfl rfl hl.1 (Nat.le_of_ble_eq_true rfl) dX3_having_4 ⟨Nat.zero_le _, Nat.zero_le _⟩ rfl (Nat.le_of_ble_eq_true rfl) (fun H locs hP hS => ?_)
  have hP : va_P D vwCl ((wX h cI lagV deadV mannerV settingV keptRowV liveRowV shiftedRowV groupsV searchV deadUntilV settledV knownV tooLateV endedV)) H := hP
  refine z_ifeq C0 19 dX3_having_7 (by decide) (fun c46 => ?_) (fun c46 => ?_)
  · have hf := zif_pos hf c46
    refine z_bipush C0 dX3_having_19 (by decide +kernel) ?_
    cases hf
    exact hret hP hS dX3_having_21
  · have hf := zif_neg hf c46
    refine z_iload_n C0 dX3_having_10 rfl (lv_at hl 2 rfl) ?_
    refine z_iconst C0 dX3_having_11 ?_
    refine z_iconst C0 dX3_having_12 ?_
    obtain ⟨r3, hc4, hf⟩ := zbind hf
    refine z_callSi (rest := []) C0 hP (zD hD rfl) hS [] rfl (zmX3_isWithin l D cI cZ _ p2 0 2 r3 hc4) (zkX3_66 ⟨by decide, by decide⟩ C0.2.2.2.2.1) rfl rfl rfl hl.1 (Nat.le_of_ble_eq_true rfl) dX3_having_13 ⟨Nat.zero_le _, Nat.zero_le _⟩ rfl (Nat.le_of_ble_eq_true rfl) (fun H locs hP hS => ?_)
    have hP : va_P D vwCl ((wX h cI lagV deadV mannerV settingV keptRowV liveRowV shiftedRowV groupsV searchV deadUntilV settledV knownV tooLateV endedV)) H := hP
    refine z_ifne C0 22 dX3_having_16 (by decide) (fun c45 => ?_) (fun c45 => ?_)
    · have hf := zif_neg hf c45
      refine z_iconst C0 dX3_having_22 ?_
      refine z_istore_n C0 [(3, .int (zI 0)), (0, .ref (h 0)), (1, .int (zI p1)), (2, .int (zI p2))] dX3_having_23 rfl hl (by decide) rfl (fun ls hl => ?_)
      refine z_iconst C0 dX3_having_24 ?_
      refine z_istore C0 [(4, .int (zI 0)), (3, .int (zI 0)), (0, .ref (h 0)), (1, .int (zI p1)), (2, .int (zI p2))] dX3_having_25 hl (by decide) rfl (fun ls hl => ?_)
      have L42 : ∀ (zn : Nat) (i8 : Int) (i9 : Int) (out : Int), fX3_having_L27 zn (zk_X lagV deadV mannerV settingV keptRowV liveRowV shiftedRowV groupsV searchV deadUntilV settledV knownV tooLateV endedV) p1 p2 i8 i9 = some out → (∀ (H : Heap) (locs : List Loc), va_P D vwCl ((wX h cI lagV deadV mannerV settingV keptRowV liveRowV shiftedRowV groupsV searchV deadUntilV settledV knownV tooLateV endedV)) H → va_S A s.heap H locs → ∀ ls : Array Slot, lv_has ls 7 [(3, .int (zI out))] → W p l e rmX3_having s m args below meth c H locs 0 0 Q (F0 m 115 ls [])) → ∀ (H : Heap) (locs : List Loc), va_P D vwCl ((wX h cI lagV deadV mannerV settingV keptRowV liveRowV shiftedRowV groupsV searchV deadUntilV settledV knownV tooLateV endedV)) H → va_S A s.heap H locs → ∀ ls : Array Slot, lv_has ls 7 [(0, .ref (h 0)), (1, .int (zI p1)), (2, .int (zI p2)), (3, .int (zI i8)), (4, .int (zI i9))] → W p l e rmX3_having s m args below meth c H locs 0 0 Q (F0 m 27 ls []) := by
        intro zn
        induction zn with
        | zero =>
          intro i8 i9 out hf
          rw [fX3_having_L27_z] at hf
          cases hf
        | succ zn ih =>
          intro i8 i9 out hf K H locs hP hS ls hl
          rw [fX3_having_L27_s] at hf
          refine z_iload C0 dX3_having_27 (lv_at hl 4 rfl) ?_
          refine z_aload_n C0 dX3_having_29 rfl (lv_at hl 0 rfl) ?_
          refine zgX3_48 C0 hP 0 rfl (.ref (h 17)) rfl dX3_having_30 ?_
          refine zgX3_116 C0 hP 17 rfl (.int (zI (zg_size groupsV))) rfl dX3_having_33 ?_
          refine z_icmpge C0 115 dX3_having_36 (by decide) (fun c41 => ?_) (fun c41 => ?_)
          · have hf := zif_pos hf c41
            cases hf
            exact K _ _ hP hS ls (lv_sub hl [3] rfl)
          · have hf := zif_neg hf c41
            refine z_aload_n C0 dX3_having_39 rfl (lv_at hl 0 rfl) ?_
            refine zgX3_48 C0 hP 0 rfl (.ref (h 17)) rfl dX3_having_40 ?_
            refine zgX3_135 C0 hP 17 rfl (.ref (h 19)) rfl dX3_having_43 ?_
            refine z_iload C0 dX3_having_46 (lv_at hl 4 rfl) ?_
            obtain ⟨g24, hf⟩ := zg_some hf
            refine z_iald C0 hP 19 rfl (Nat.le_of_ble_eq_true rfl) g24 dX3_having_48 ?_
            refine z_iload_n C0 dX3_having_49 rfl (lv_at hl 1 rfl) ?_
            refine z_iand C0 dX3_having_50 ?_
            obtain ⟨v25, hv25, hf⟩ := zl_some hf
            refine z_name hv25 ?_
            refine z_istore C0 [(5, .int (zI v25)), (0, .ref (h 0)), (1, .int (zI p1)), (2, .int (zI p2)), (3, .int (zI i8)), (4, .int (zI i9))] dX3_having_51 hl (by decide) rfl (fun ls hl => ?_)
            refine z_iload_n C0 dX3_having_53 rfl (lv_at hl 3 rfl) ?_
            obtain ⟨r26, hE40, hf⟩ := zbind hf
            have J27 : ∀ (H : Heap) (locs : List Loc), va_P D vwCl ((wX h cI lagV deadV mannerV settingV keptRowV liveRowV shiftedRowV groupsV searchV deadUntilV settledV knownV tooLateV endedV)) H → va_S A s.heap H locs → ∀ ls : Array Slot, lv_has ls 7 [(0, .ref (h 0)), (1, .int (zI p1)), (2, .int (zI p2)), (3, .int (zI i8)), (4, .int (zI i9))] → W p l e rmX3_having s m args below meth c H locs 0 0 Q (F0 m 99 ls [.int (zI r26)]) := by
              intro H locs hP hS ls hl
              refine z_istore C0 [(6, .int (zI r26)), (0, .ref (h 0)), (1, .int (zI p1)), (2, .int (zI p2)), (3, .int (zI i8)), (4, .int (zI i9))] dX3_having_99 hl (by decide) rfl (fun ls hl => ?_)
              refine z_iload C0 dX3_having_101 (lv_at hl 0 rfl) ?_
              obtain ⟨r28, hE31, hf⟩ := zbind hf
              have J29 : ∀ (H : Heap) (locs : List Loc), va_P D vwCl ((wX h cI lagV deadV mannerV settingV keptRowV liveRowV shiftedRowV groupsV searchV deadUntilV settledV knownV tooLateV endedV)) H → va_S A s.heap H locs → ∀ ls : Array Slot, lv_has ls 7 [(0, .ref (h 0)), (1, .int (zI p1)), (2, .int (zI p2)), (3, .int (zI r28)), (4, .int (zI i9))] → W p l e rmX3_having s m args below meth c H locs 0 0 Q (F0 m 109 ls []) := by
                intro H locs hP hS ls hl
                refine z_iinc C0 [(4, .int (zI (i9 + 1))), (0, .ref (h 0)), (1, .int (zI p1)), (2, .int (zI p2)), (3, .int (zI r28))] dX3_having_109 hl 4 rfl (by decide) rfl (fun ls hl => ?_)
                refine z_goto C0 27 dX3_having_112 (by decide) ?_
                exact ih r28 (i9 + 1) out hf K _ _ hP hS ls (lv_sub hl [1, 2, 3, 4, 0] rfl)
              have hf := hE31
              refine z_ifeq C0 109 dX3_having_103 (by decide) (fun c30 => ?_) (fun c30 => ?_)
              · have hf := zif_pos hf c30
                cases hf
                exact J29 _ _ hP hS ls (lv_sub hl [1, 2, 3, 4, 5] rfl)
              · have hf := zif_neg hf c30
                refine z_iinc C0 [(3, .int (zI (i8 + 1))), (6, .int (zI r26)), (0, .ref (h 0)), (1, .int (zI p1)), (2, .int (zI p2)), (4, .int (zI i9))] dX3_having_106 hl 4 rfl (by decide) rfl (fun ls hl => ?_)
                cases hf
                exact J29 _ _ hP hS ls (lv_sub hl [2, 3, 4, 0, 5] rfl)
            have hf := hE40
            refine z_ifne C0 79 dX3_having_54 (by decide) (fun c39 => ?_) (fun c39 => ?_)
            · have hf := zif_neg hf c39
              refine z_iload C0 dX3_having_79 (lv_at hl 0 rfl) ?_
              refine z_iload_n C0 dX3_having_81 rfl (lv_at hl 3 rfl) ?_
              refine z_iconst C0 dX3_having_82 ?_
              obtain ⟨r32, hE36, hf⟩ := zbind hf
              have J33 : ∀ (H : Heap) (locs : List Loc), va_P D vwCl ((wX h cI lagV deadV mannerV settingV keptRowV liveRowV shiftedRowV groupsV searchV deadUntilV settledV knownV tooLateV endedV)) H → va_S A s.heap H locs → ∀ ls : Array Slot, lv_has ls 7 [(0, .ref (h 0)), (1, .int (zI p1)), (2, .int (zI p2)), (3, .int (zI i8)), (4, .int (zI i9))] → W p l e rmX3_having s m args below meth c H locs 0 0 Q (F0 m 91 ls [.int (zI r32), .int (zI v25)]) := by
                intro H locs hP hS ls hl
                refine z_icmpne C0 98 dX3_having_91 (by decide) (fun c34 => ?_) (fun c34 => ?_)
                · have hf := zif_neg hf c34
                  refine z_iconst C0 dX3_having_98 ?_
                  cases hf
                  exact J27 _ _ hP hS ls (lv_sub hl [0, 1, 2, 3, 4] rfl)
                · have hf := zif_pos hf c34
                  refine z_iconst C0 dX3_having_94 ?_
                  refine z_goto C0 99 dX3_having_95 (by decide) ?_
                  cases hf
                  exact J27 _ _ hP hS ls (lv_sub hl [0, 1, 2, 3, 4] rfl)
              have hf := hE36
              refine z_icmpne C0 90 dX3_having_83 (by decide) (fun c35 => ?_) (fun c35 => ?_)
              · have hf := zif_neg hf c35
                refine z_iconst C0 dX3_having_90 ?_
                cases hf
                exact J33 _ _ hP hS ls (lv_sub hl [1, 2, 3, 4, 5] rfl)
              · have hf := zif_pos hf c35
                refine z_iload_n C0 dX3_having_86 rfl (lv_at hl 2 rfl) ?_
                refine z_goto C0 91 dX3_having_87 (by decide) ?_
                cases hf
                exact J33 _ _ hP hS ls (lv_sub hl [1, 2, 3, 4, 5] rfl)
            · have hf := zif_pos hf c39
              refine z_aload_n C0 dX3_having_57 rfl (lv_at hl 1 rfl) ?_
              refine zgX3_48 C0 hP 0 rfl (.ref (h 17)) rfl dX3_having_58 ?_
              refine zgX3_135 C0 hP 17 rfl (.ref (h 19)) rfl dX3_having_61 ?_
              refine z_iload C0 dX3_having_64 (lv_at hl 5 rfl) ?_
              obtain ⟨g37, hf⟩ := zg_some hf
              refine z_iald C0 hP 19 rfl (Nat.le_of_ble_eq_true rfl) g37 dX3_having_66 ?_
              refine z_iload_n C0 dX3_having_67 rfl (lv_at hl 2 rfl) ?_
              refine z_icmpne C0 75 dX3_having_68 (by decide) (fun c38 => ?_) (fun c38 => ?_)
              · have hf := zif_neg hf c38
                refine z_iconst C0 dX3_having_75 ?_
                refine z_goto C0 99 dX3_having_76 (by decide) ?_
                cases hf
                exact J27 _ _ hP hS ls (lv_sub hl [1, 2, 3, 4, 5] rfl)
              · have hf := zif_pos hf c38
                refine z_iconst C0 dX3_having_71 ?_
                refine z_goto C0 99 dX3_having_72 (by decide) ?_
                cases hf
                exact J27 _ _ hP hS ls (lv_sub hl [1, 2, 3, 4, 5] rfl)
      obtain ⟨r43, hE44, hf⟩ := zbind hf
      refine L42 _ 0 0 r43 hE44 ?_ _ _ hP hS ls (lv_sub hl [2, 3, 4, 1, 0] rfl)
      intro H locs hP hS ls hl
      refine z_iload_n C0 dX3_having_115 rfl (lv_at hl 0 rfl) ?_
      cases hf
      exact hret hP hS dX3_having_116
    · have hf := zif_pos hf c45
      refine z_bipush C0 dX3_having_19 (by decide +kernel) ?_
      cases hf
      exact hret hP hS dX3_having_21
