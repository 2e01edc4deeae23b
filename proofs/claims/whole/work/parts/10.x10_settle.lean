set_option maxHeartbeats 4000000 in
set_option maxRecDepth 100000 in
theorem zmX3_settle (l : Launch) (D : va_G) (cI cZ : ClassId) (h : Nat → Nat) (sz : Nat) (lagV : (Nat → Int)) (deadV : (Nat → Int)) (mannerV : (Nat → Int)) (settingV : (Nat → Int)) (keptRowV : zRowT) (liveRowV : zRowT) (shiftedRowV : zRowT) (groupsV : zGrT) (searchV : zLsT) (deadUntilV : (Nat → Int)) (settledV : Int) (knownV : Int) (tooLateV : Int) (endedV : Int) (p1 : Int) (p2 : Int) (p3 : Int) (o : zRowT × (Nat → Int)) (hf : fX3_settle (zk_X lagV deadV mannerV settingV keptRowV liveRowV shiftedRowV groupsV searchV deadUntilV settledV knownV tooLateV endedV) p1 p2 p3 = some o) : Met l yX3_settle (zW yX3_settle cX3_settle 5 none) rmX3_settle (va_Pc [.ref (h 0), .int (zI p1), .int (zI p2), .int (zI p3)] (zPre D cI cZ ((wX h cI lagV deadV mannerV settingV keptRowV liveRowV shiftedRowV groupsV searchV deadUntilV settledV knownV tooLateV endedV)) sz)) (va_Qv (fun (_ : Unit) => True) (fun _ t => va_P D vwCl ((wX h cI lagV deadV mannerV settingV keptRowV o.1 shiftedRowV groupsV searchV o.2 settledV knownV tooLateV endedV)) t.heap) (va_A ((wX h cI lagV deadV mannerV settingV keptRowV liveRowV shiftedRowV groupsV searchV deadUntilV settledV knownV tooLateV endedV)) sz)) 0 0 (va_A ((wX h cI lagV deadV mannerV settingV keptRowV liveRowV shiftedRowV groupsV searchV deadUntilV settledV knownV tooLateV endedV)) sz) := by
  unfold fX3_settle at hf
  refine z_enter_v (own := RX3) (by decide +kernel) rfl (Nat.le_of_ble_eq_true rfl) ?_
  intro p e s m args below meth c A Q C0 hP hD hS hret ls hl
  have hl : lv_has ls 5 [(0, .ref (h 0)), (1, .int (zI p1)), (2, .int (zI p2)), (3, .int (zI p3))] := hl
  refine z_iload_n C0 dX3_settle_0 rfl (lv_at hl 1 rfl) ?_
  refine z_aload_n C0 dX3_settle_1 rfl (lv_at hl 0 rfl) ?_
  refine zgX3_59 C0 hP 0 rfl (.ref (h 26)) rfl dX3_settle_2 ?_
  refine z_iload_n C0 dX3_settle_5 rfl (lv_at hl 2 rfl) ?_
  obtain ⟨g1, hf⟩ := zg_some hf
  refine z_iald C0 hP 26 rfl (Nat.le_of_ble_eq_true rfl) g1 dX3_settle_6 ?_
  obtain ⟨r2, hE19, hf⟩ := zbind hf
  have J3 : ∀ (H : Heap) (locs : List Loc), va_P D vwCl ((wX h cI lagV deadV mannerV settingV keptRowV liveRowV shiftedRowV groupsV searchV deadUntilV settledV knownV tooLateV endedV)) H → va_S A s.heap H locs → ∀ ls : Array Slot, lv_has ls 5 [(0, .ref (h 0)), (1, .int (zI p1)), (2, .int (zI p2)), (3, .int (zI p3))] → W p l e rmX3_settle s m args below meth c H locs 0 0 Q (F0 m 15 ls [.int (zI r2)]) := by
    intro H locs hP hS ls hl
    refine z_istore C0 [(4, .int (zI r2)), (0, .ref (h 0)), (1, .int (zI p1)), (2, .int (zI p2)), (3, .int (zI p3))] dX3_settle_15 hl (by decide) rfl (fun ls hl => ?_)
    refine z_iload C0 dX3_settle_17 (lv_at hl 0 rfl) ?_
    obtain ⟨r4, hE17, hf⟩ := zbind hf
    have J5 : ∀ (H : Heap) (locs : List Loc), va_P D vwCl ((wX h cI lagV deadV mannerV settingV keptRowV r4 shiftedRowV groupsV searchV deadUntilV settledV knownV tooLateV endedV)) H → va_S A s.heap H locs → ∀ ls : Array Slot, lv_has ls 5 [(0, .ref (h 0)), (1, .int (zI p1)), (2, .int (zI p2)), (4, .int (zI r2))] → W p l e rmX3_settle s m args below meth c H locs 0 0 Q (F0 m 39 ls []) := by
      intro H locs hP hS ls hl
      refine z_iload C0 dX3_settle_39 (lv_at hl 3 rfl) ?_
      refine z_ifne C0 54 dX3_settle_41 (by decide) (fun c12 => ?_) (fun c12 => ?_)
      · have hf := zif_neg hf c12
        refine z_aload_n C0 dX3_settle_54 rfl (lv_at hl 0 rfl) ?_
        refine zgX3_59 C0 hP 0 rfl (.ref (h 26)) rfl dX3_settle_55 ?_
        refine z_iload_n C0 dX3_settle_58 rfl (lv_at hl 2 rfl) ?_
        refine z_iload_n C0 dX3_settle_59 rfl (lv_at hl 1 rfl) ?_
        refine z_aload_n C0 dX3_settle_60 rfl (lv_at hl 0 rfl) ?_
        refine zgX3_15 C0 hP 0 rfl (.ref (h 2)) rfl dX3_settle_61 ?_
        refine z_iload_n C0 dX3_settle_64 rfl (lv_at hl 2 rfl) ?_
        obtain ⟨g6, hf⟩ := zg_some hf
        refine z_iald C0 hP 2 rfl (Nat.le_of_ble_eq_true rfl) g6 dX3_settle_65 ?_
        refine z_iadd C0 dX3_settle_66 ?_
        obtain ⟨g7, hf⟩ := zg_some hf
        refine z_iast C0 hP (zD hD rfl) hS 26 rfl (Nat.le_of_ble_eq_true rfl) g7 dX3_settle_67 (fun H locs hP hS => ?_)
        have hP : va_P D vwCl ((wX h cI lagV deadV mannerV settingV keptRowV r4 shiftedRowV groupsV searchV (zu deadUntilV p2 (p1 + (deadV (Int.toNat p2)))) settledV knownV tooLateV endedV)) H := hP
        cases hf
        exact hret hP hS dX3_settle_68
      · have hf := zif_pos hf c12
        refine z_aload_n C0 dX3_settle_44 rfl (lv_at hl 0 rfl) ?_
        refine zgX3_18 C0 hP 0 rfl (.ref (h 3)) rfl dX3_settle_45 ?_
        refine z_iload_n C0 dX3_settle_48 rfl (lv_at hl 2 rfl) ?_
        obtain ⟨g8, hf⟩ := zg_some hf
        refine z_iald C0 hP 3 rfl (Nat.le_of_ble_eq_true rfl) g8 dX3_settle_49 ?_
        refine z_iconst C0 dX3_settle_50 ?_
        refine z_icmpne C0 68 dX3_settle_51 (by decide) (fun c11 => ?_) (fun c11 => ?_)
        · have hf := zif_neg hf c11
          cases hf
          exact hret hP hS dX3_settle_68
        · have hf := zif_pos hf c11
          refine z_aload_n C0 dX3_settle_54 rfl (lv_at hl 0 rfl) ?_
          refine zgX3_59 C0 hP 0 rfl (.ref (h 26)) rfl dX3_settle_55 ?_
          refine z_iload_n C0 dX3_settle_58 rfl (lv_at hl 2 rfl) ?_
          refine z_iload_n C0 dX3_settle_59 rfl (lv_at hl 1 rfl) ?_
          refine z_aload_n C0 dX3_settle_60 rfl (lv_at hl 0 rfl) ?_
          refine zgX3_15 C0 hP 0 rfl (.ref (h 2)) rfl dX3_settle_61 ?_
          refine z_iload_n C0 dX3_settle_64 rfl (lv_at hl 2 rfl) ?_
          obtain ⟨g9, hf⟩ := zg_some hf
          refine z_iald C0 hP 2 rfl (Nat.le_of_ble_eq_true rfl) g9 dX3_settle_65 ?_
          refine z_iadd C0 dX3_settle_66 ?_
          obtain ⟨g10, hf⟩ := zg_some hf
          refine z_iast C0 hP (zD hD rfl) hS 26 rfl (Nat.le_of_ble_eq_true rfl) g10 dX3_settle_67 (fun H locs hP hS => ?_)
          have hP : va_P D vwCl ((wX h cI lagV deadV mannerV settingV keptRowV r4 shiftedRowV groupsV searchV (zu deadUntilV p2 (p1 + (deadV (Int.toNat p2)))) settledV knownV tooLateV endedV)) H := hP
          cases hf
          exact hret hP hS dX3_settle_68
    have hf := hE17
    refine z_ifeq C0 39 dX3_settle_19 (by decide) (fun c16 => ?_) (fun c16 => ?_)
    · have hf := zif_pos hf c16
      cases hf
      exact J5 _ _ hP hS ls (lv_sub hl [1, 2, 3, 0] rfl)
    · have hf := zif_neg hf c16
      refine z_aload_n C0 dX3_settle_22 rfl (lv_at hl 1 rfl) ?_
      refine zgX3_39 C0 hP 0 rfl (.ref (h 9)) rfl dX3_settle_23 ?_
      refine z_iload_n C0 dX3_settle_26 rfl (lv_at hl 2 rfl) ?_
      refine z_aload_n C0 dX3_settle_27 rfl (lv_at hl 1 rfl) ?_
      refine zgX3_11 C0 hP 0 rfl (.ref (h 1)) rfl dX3_settle_28 ?_
      refine z_iload_n C0 dX3_settle_31 rfl (lv_at hl 3 rfl) ?_
      obtain ⟨g13, hf⟩ := zg_some hf
      refine z_iald C0 hP 1 rfl (Nat.le_of_ble_eq_true rfl) g13 dX3_settle_32 ?_
      refine z_isub C0 dX3_settle_33 ?_
      refine z_iload_n C0 dX3_settle_34 rfl (lv_at hl 3 rfl) ?_
      refine z_iload_n C0 dX3_settle_35 rfl (lv_at hl 4 rfl) ?_
      obtain ⟨r14, hc15, hf⟩ := zbind hf
      refine z_callVv (rest := []) C0 hP (zD hD rfl) hS [9, 10, 11, 12] rfl (zmX2_insert l D cI cZ (h 9) (h 10) (h 11) (h 12) _ (zr_when liveRowV) (zr_plane liveRowV) (zr_strip liveRowV) (zr_size liveRowV) (p1 - (lagV (Int.toNat p2))) p2 p3 r14 hc15) (zkX3_109 ⟨by decide, by decide⟩ C0.2.2.2.2.1) rfl 2 rfl rfl rfl rfl hl.1 (Nat.le_of_ble_eq_true rfl) dX3_settle_36 ⟨Nat.zero_le _, Nat.zero_le _⟩ rfl (Nat.le_of_ble_eq_true rfl) (fun H locs hP hS => ?_)
      have hP : va_P D vwCl ((wX h cI lagV deadV mannerV settingV keptRowV (zrs_size (zrs_strip (zrs_plane (zrs_when liveRowV r14.1) r14.2.1) r14.2.2.1) r14.2.2.2) shiftedRowV groupsV searchV deadUntilV settledV knownV tooLateV endedV)) H := hP
      cases hf
      exact J5 _ _ hP hS ls (lv_sub hl [1, 2, 3, 0] rfl)
  have hf := hE19
  refine z_icmplt C0 14 dX3_settle_7 (by decide) (fun c18 => ?_) (fun c18 => ?_)
  · have hf := zif_pos hf c18
    refine z_iconst C0 dX3_settle_14 ?_
    cases hf
    exact J3 _ _ hP hS ls (lv_sub hl [0, 1, 2, 3] rfl)
  · have hf := zif_neg hf c18
    refine z_iconst C0 dX3_settle_10 ?_
    refine z_goto C0 15 dX3_settle_11 (by decide) ?_
    cases hf
    exact J3 _ _ hP hS ls (lv_sub hl [0, 1, 2, 3] rfl)
