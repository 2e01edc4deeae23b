set_option maxHeartbeats 4000000 in
set_option maxRecDepth 100000 in
theorem zmX3_folds (l : Launch) (D : va_G) (cI cZ : ClassId) (h : Nat → Nat) (sz : Nat) (lagV : (Nat → Int)) (deadV : (Nat → Int)) (mannerV : (Nat → Int)) (settingV : (Nat → Int)) (keptRowV : zRowT) (liveRowV : zRowT) (shiftedRowV : zRowT) (groupsV : zGrT) (searchV : zLsT) (deadUntilV : (Nat → Int)) (settledV : Int) (knownV : Int) (tooLateV : Int) (endedV : Int) (p1 : Int) (o : Int) (hf : fX3_folds (zk_X lagV deadV mannerV settingV keptRowV liveRowV shiftedRowV groupsV searchV deadUntilV settledV knownV tooLateV endedV) p1 = some o) : Met l yX3_folds (zW yX3_folds cX3_folds 4 (some .int)) rmX3_folds (va_Pc [.ref (h 0), .int (zI p1)] (zPre D cI cZ ((wX h cI lagV deadV mannerV settingV keptRowV liveRowV shiftedRowV groupsV searchV deadUntilV settledV knownV tooLateV endedV)) sz)) (va_Qi (fun r' (_ : Unit) => r' = zI o) (fun _ t => va_P D vwCl ((wX h cI lagV deadV mannerV settingV keptRowV liveRowV shiftedRowV groupsV searchV deadUntilV settledV knownV tooLateV endedV)) t.heap) (va_A ((wX h cI lagV deadV mannerV settingV keptRowV liveRowV shiftedRowV groupsV searchV deadUntilV settledV knownV tooLateV endedV)) sz)) 0 0 (va_A ((wX h cI lagV deadV mannerV settingV keptRowV liveRowV shiftedRowV groupsV searchV deadUntilV settledV knownV tooLateV endedV)) sz) := by
  unfold fX3_folds at hf
  refine z_enter_i (own := RX3) (by decide +kernel) rfl (Nat.le_of_ble_eq_true rfl) ?_
  intro p e s m args below meth c A Q C0 hP hD hS hret ls hl
  have hl : lv_has ls 4 [(0, .ref (h 0)), (1, .int (zI p1))] := hl
  refine z_iload_n C0 dX3_folds_0 rfl (lv_at hl 1 rfl) ?_
  refine z_iconst C0 dX3_folds_1 ?_
  refine z_bipush C0 dX3_folds_2 (by decide +kernel) ?_
  obtain ⟨r1, hc2, hf⟩ := zbind hf
  refine z_callSi (rest := []) C0 hP (zD hD rfl) hS [] rfl (zmX3_isWithin l D cI cZ _ p1 1 6 r1 hc2) (zkX3_66 ⟨by decide, by decide⟩ C0.2.2.2.2.1) rfl rfl rfl hl.1 (Nat.le_of_ble_eq_true rfl) dX3_folds_4 ⟨Nat.zero_le _, Nat.zero_le _⟩ rfl (Nat.le_of_ble_eq_true rfl) (fun H locs hP hS => ?_)
  have hP : va_P D vwCl ((wX h cI lagV deadV mannerV settingV keptRowV liveRowV shiftedRowV groupsV searchV deadUntilV settledV knownV tooLateV endedV)) H := hP
  refine z_ifne C0 13 dX3_folds_7 (by decide) (fun c32 => ?_) (fun c32 => ?_)
  · have hf := zif_neg hf c32
    refine z_iconst C0 dX3_folds_13 ?_
    refine z_istore_n C0 [(2, .int (zI 0)), (0, .ref (h 0)), (1, .int (zI p1))] dX3_folds_14 rfl hl (by decide) rfl (fun ls hl => ?_)
    refine z_iconst C0 dX3_folds_15 ?_
    refine z_istore_n C0 [(3, .int (zI 0)), (2, .int (zI 0)), (0, .ref (h 0)), (1, .int (zI p1))] dX3_folds_16 rfl hl (by decide) rfl (fun ls hl => ?_)
    have L29 : ∀ (zn : Nat) (i5 : Int) (i6 : Int) (out : Int), fX3_folds_L17 zn (zk_X lagV deadV mannerV settingV keptRowV liveRowV shiftedRowV groupsV searchV deadUntilV settledV knownV tooLateV endedV) p1 i5 i6 = some out → (∀ (H : Heap) (locs : List Loc), va_P D vwCl ((wX h cI lagV deadV mannerV settingV keptRowV liveRowV shiftedRowV groupsV searchV deadUntilV settledV knownV tooLateV endedV)) H → va_S A s.heap H locs → ∀ ls : Array Slot, lv_has ls 4 [(2, .int (zI out))] → W p l e rmX3_folds s m args below meth c H locs 0 0 Q (F0 m 53 ls [])) → ∀ (H : Heap) (locs : List Loc), va_P D vwCl ((wX h cI lagV deadV mannerV settingV keptRowV liveRowV shiftedRowV groupsV searchV deadUntilV settledV knownV tooLateV endedV)) H → va_S A s.heap H locs → ∀ ls : Array Slot, lv_has ls 4 [(0, .ref (h 0)), (1, .int (zI p1)), (2, .int (zI i5)), (3, .int (zI i6))] → W p l e rmX3_folds s m args below meth c H locs 0 0 Q (F0 m 17 ls []) := by
      intro zn
      induction zn with
      | zero =>
        intro i5 i6 out hf
        rw [fX3_folds_L17_z] at hf
        cases hf
      | succ zn ih =>
        intro i5 i6 out hf K H locs hP hS ls hl
        rw [fX3_folds_L17_s] at hf
        refine z_iload_n C0 dX3_folds_17 rfl (lv_at hl 3 rfl) ?_
        refine z_aload_n C0 dX3_folds_18 rfl (lv_at hl 0 rfl) ?_
        refine zgX3_48 C0 hP 0 rfl (.ref (h 17)) rfl dX3_folds_19 ?_
        refine zgX3_116 C0 hP 17 rfl (.int (zI (zg_size groupsV))) rfl dX3_folds_22 ?_
        refine z_icmpge C0 53 dX3_folds_25 (by decide) (fun c28 => ?_) (fun c28 => ?_)
        · have hf := zif_pos hf c28
          cases hf
          exact K _ _ hP hS ls (lv_sub hl [2] rfl)
        · have hf := zif_neg hf c28
          refine z_aload_n C0 dX3_folds_28 rfl (lv_at hl 0 rfl) ?_
          refine zgX3_48 C0 hP 0 rfl (.ref (h 17)) rfl dX3_folds_29 ?_
          refine zgX3_135 C0 hP 17 rfl (.ref (h 19)) rfl dX3_folds_32 ?_
          refine z_iload_n C0 dX3_folds_35 rfl (lv_at hl 3 rfl) ?_
          obtain ⟨g21, hf⟩ := zg_some hf
          refine z_iald C0 hP 19 rfl (Nat.le_of_ble_eq_true rfl) g21 dX3_folds_36 ?_
          obtain ⟨r22, hc23, hf⟩ := zbind hf
          refine z_callSi (rest := []) C0 hP (zD hD rfl) hS [] rfl (zmJ6_bitCount_0f7a4 l D cI cZ _ ((zg_set groupsV) (Int.toNat i6)) r22 hc23) (zkX3_138 ⟨by decide, by decide⟩ C0.2.2.2.2.1) rfl rfl rfl hl.1 (Nat.le_of_ble_eq_true rfl) dX3_folds_37 ⟨Nat.zero_le _, Nat.zero_le _⟩ rfl (Nat.le_of_ble_eq_true rfl) (fun H locs hP hS => ?_)
          have hP : va_P D vwCl ((wX h cI lagV deadV mannerV settingV keptRowV liveRowV shiftedRowV groupsV searchV deadUntilV settledV knownV tooLateV endedV)) H := hP
          refine z_iload_n C0 dX3_folds_40 rfl (lv_at hl 1 rfl) ?_
          obtain ⟨r24, hE27, hf⟩ := zbind hf
          have J25 : ∀ (H : Heap) (locs : List Loc), va_P D vwCl ((wX h cI lagV deadV mannerV settingV keptRowV liveRowV shiftedRowV groupsV searchV deadUntilV settledV knownV tooLateV endedV)) H → va_S A s.heap H locs → ∀ ls : Array Slot, lv_has ls 4 [(0, .ref (h 0)), (1, .int (zI p1)), (2, .int (zI r24)), (3, .int (zI i6))] → W p l e rmX3_folds s m args below meth c H locs 0 0 Q (F0 m 47 ls []) := by
            intro H locs hP hS ls hl
            refine z_iinc C0 [(3, .int (zI (i6 + 1))), (0, .ref (h 0)), (1, .int (zI p1)), (2, .int (zI r24))] dX3_folds_47 hl 3 rfl (by decide) rfl (fun ls hl => ?_)
            refine z_goto C0 17 dX3_folds_50 (by decide) ?_
            exact ih r24 (i6 + 1) out hf K _ _ hP hS ls (lv_sub hl [1, 2, 3, 0] rfl)
          have hf := hE27
          refine z_icmpne C0 47 dX3_folds_41 (by decide) (fun c26 => ?_) (fun c26 => ?_)
          · have hf := zif_neg hf c26
            cases hf
            exact J25 _ _ hP hS ls (lv_sub hl [0, 1, 2, 3] rfl)
          · have hf := zif_pos hf c26
            refine z_iinc C0 [(2, .int (zI (i5 + 1))), (0, .ref (h 0)), (1, .int (zI p1)), (3, .int (zI i6))] dX3_folds_44 hl 2 rfl (by decide) rfl (fun ls hl => ?_)
            cases hf
            exact J25 _ _ hP hS ls (lv_sub hl [1, 2, 0, 3] rfl)
    obtain ⟨r30, hE31, hf⟩ := zbind hf
    refine L29 _ 0 0 r30 hE31 ?_ _ _ hP hS ls (lv_sub hl [2, 3, 1, 0] rfl)
    intro H locs hP hS ls hl
    refine z_iload_n C0 dX3_folds_53 rfl (lv_at hl 0 rfl) ?_
    cases hf
    exact hret hP hS dX3_folds_54
  · have hf := zif_pos hf c32
    refine z_bipush C0 dX3_folds_10 (by decide +kernel) ?_
    cases hf
    exact hret hP hS dX3_folds_12
