set_option maxHeartbeats 4000000 in
set_option maxRecDepth 100000 in
theorem zmX3_settle (l : Launch) (D : va_G) (cI cZ : ClassId) (h : Nat → Nat) (sz : Nat) (lagV : (Nat → Int)) (deadV : (Nat → Int)) (mannerV : (Nat → Int)) (settingV : (Nat → Int)) (keptRowV : zRowT) (liveRowV : zRowT) (shiftedRowV : zRowT) (groupsV : zGrT) (searchV : zLsT) (deadUntilV : (Nat → Int)) (settledV : Int) (knownV : Int) (tooLateV : Int) (endedV : Int) (p1 : Int) (p2 : Int) (p3 : Int) (o : zRowT × (Nat → Int)) (hf : fX3_settle (zk_X lagV deadV mannerV settingV keptRowV liveRowV shiftedRowV groupsV searchV deadUntilV settledV knownV tooLateV endedV) p1 p2 p3 = some o) : Met l yX3_settle (zW yX3_settle cX3_settle 5 none) rmX3_settle (va_Pc [.ref (h 0), .int (zI p1), .int (zI p2), .int (zI p3)] (zPre D cI cZ ((wX h cI lagV deadV mannerV settingV keptRowV liveRowV shiftedRowV groupsV searchV deadUntilV settledV knownV tooLateV endedV)) sz)) (va_Qv (fun (_ : Unit) => True) (fun _ t => va_P D vwCl ((wX h cI lagV deadV mannerV settingV keptRowV o.1 shiftedRowV groupsV searchV o.2 settledV knownV tooLateV endedV)) t.heap) (va_A ((wX h cI lagV deadV mannerV settingV keptRowV liveRowV shiftedRowV groupsV searchV deadUntilV settledV knownV tooLateV endedV)) sz)) 0 0 (va_A ((wX h cI lagV deadV mannerV settingV keptRowV liveRowV shiftedRowV groupsV searchV deadUntilV settledV knownV tooLateV endedV)) sz) := by
  unfold fX3_settle at hf
  refine z_enter_v (own := RX3) (by decide +kernel) rfl (Nat.le_of_ble_eq_true rfl) ?_
  intro p e s m args below meth c A Q C0 hP hD hS hret ls hl
  have hl : lv_has ls 5 [(0, .ref (h 0)), (1, .int (zI p1)), (2, .int (zI p2)), (3, .int (zI p3))] := hl
  refine z_iload_n C0 dX3_settle_0 rfl (lv_at hl 2 rfl) ?_
  obtain ⟨r1, hc2, hf⟩ := zbind hf
  refine z_callSi (rest := []) C0 hP (zD hD rfl) hS [] rfl (zmX3_isPlane l D cI cZ _ p2 r1 hc2) (zkX3_62 ⟨by decide, by decide⟩ C0.2.2.2.2.1) rfl rfl rfl hl.1 (Nat.le_of_ble_eq_true rfl) dX3_settle_1 ⟨Nat.zero_le _, Nat.zero_le _⟩ rfl (Nat.le_of_ble_eq_true rfl) (fun H locs hP hS => ?_)
  have hP : va_P D vwCl ((wX h cI lagV deadV mannerV settingV keptRowV liveRowV shiftedRowV groupsV searchV deadUntilV settledV knownV tooLateV endedV)) H := hP
  refine z_ifne C0 8 dX3_settle_4 (by decide) (fun c22 => ?_) (fun c22 => ?_)
  · have hf := zif_neg hf c22
    refine z_iload_n C0 dX3_settle_8 rfl (lv_at hl 1 rfl) ?_
    refine z_aload_n C0 dX3_settle_9 rfl (lv_at hl 0 rfl) ?_
    refine zgX3_59 C0 hP 0 rfl (.ref (h 26)) rfl dX3_settle_10 ?_
    refine z_iload_n C0 dX3_settle_13 rfl (lv_at hl 2 rfl) ?_
    obtain ⟨g3, hf⟩ := zg_some hf
    refine z_iald C0 hP 26 rfl (Nat.le_of_ble_eq_true rfl) g3 dX3_settle_14 ?_
    obtain ⟨r4, hE21, hf⟩ := zbind hf
    have J5 : ∀ (H : Heap) (locs : List Loc), va_P D vwCl ((wX h cI lagV deadV mannerV settingV keptRowV liveRowV shiftedRowV groupsV searchV deadUntilV settledV knownV tooLateV endedV)) H → va_S A s.heap H locs → ∀ ls : Array Slot, lv_has ls 5 [(0, .ref (h 0)), (1, .int (zI p1)), (2, .int (zI p2)), (3, .int (zI p3))] → W p l e rmX3_settle s m args below meth c H locs 0 0 Q (F0 m 23 ls [.int (zI r4)]) := by
      intro H locs hP hS ls hl
      refine z_istore C0 [(4, .int (zI r4)), (0, .ref (h 0)), (1, .int (zI p1)), (2, .int (zI p2)), (3, .int (zI p3))] dX3_settle_23 hl (by decide) rfl (fun ls hl => ?_)
      refine z_iload C0 dX3_settle_25 (lv_at hl 0 rfl) ?_
      obtain ⟨r6, hE19, hf⟩ := zbind hf
      have J7 : ∀ (H : Heap) (locs : List Loc), va_P D vwCl ((wX h cI lagV deadV mannerV settingV keptRowV r6 shiftedRowV groupsV searchV deadUntilV settledV knownV tooLateV endedV)) H → va_S A s.heap H locs → ∀ ls : Array Slot, lv_has ls 5 [(0, .ref (h 0)), (1, .int (zI p1)), (2, .int (zI p2)), (4, .int (zI r4))] → W p l e rmX3_settle s m args below meth c H locs 0 0 Q (F0 m 47 ls []) := by
        intro H locs hP hS ls hl
        refine z_iload C0 dX3_settle_47 (lv_at hl 3 rfl) ?_
        refine z_ifne C0 62 dX3_settle_49 (by decide) (fun c14 => ?_) (fun c14 => ?_)
        · have hf := zif_neg hf c14
          refine z_aload_n C0 dX3_settle_62 rfl (lv_at hl 0 rfl) ?_
          refine zgX3_59 C0 hP 0 rfl (.ref (h 26)) rfl dX3_settle_63 ?_
          refine z_iload_n C0 dX3_settle_66 rfl (lv_at hl 2 rfl) ?_
          refine z_iload_n C0 dX3_settle_67 rfl (lv_at hl 1 rfl) ?_
          refine z_aload_n C0 dX3_settle_68 rfl (lv_at hl 0 rfl) ?_
          refine zgX3_15 C0 hP 0 rfl (.ref (h 2)) rfl dX3_settle_69 ?_
          refine z_iload_n C0 dX3_settle_72 rfl (lv_at hl 2 rfl) ?_
          obtain ⟨g8, hf⟩ := zg_some hf
          refine z_iald C0 hP 2 rfl (Nat.le_of_ble_eq_true rfl) g8 dX3_settle_73 ?_
          refine z_iadd C0 dX3_settle_74 ?_
          obtain ⟨g9, hf⟩ := zg_some hf
          refine z_iast C0 hP (zD hD rfl) hS 26 rfl (Nat.le_of_ble_eq_true rfl) g9 dX3_settle_75 (fun H locs hP hS => ?_)
          have hP : va_P D vwCl ((wX h cI lagV deadV mannerV settingV keptRowV r6 shiftedRowV groupsV searchV (zu deadUntilV p2 (p1 + (deadV (Int.toNat p2)))) settledV knownV tooLateV endedV)) H := hP
          cases hf
          exact hret hP hS dX3_settle_76
        · have hf := zif_pos hf c14
          refine z_aload_n C0 dX3_settle_52 rfl (lv_at hl 0 rfl) ?_
          refine zgX3_18 C0 hP 0 rfl (.ref (h 3)) rfl dX3_settle_53 ?_
          refine z_iload_n C0 dX3_settle_56 rfl (lv_at hl 2 rfl) ?_
          obtain ⟨g10, hf⟩ := zg_some hf
          refine z_iald C0 hP 3 rfl (Nat.le_of_ble_eq_true rfl) g10 dX3_settle_57 ?_
          refine z_iconst C0 dX3_settle_58 ?_
          refine z_icmpne C0 76 dX3_settle_59 (by decide) (fun c13 => ?_) (fun c13 => ?_)
          · have hf := zif_neg hf c13
            cases hf
            exact hret hP hS dX3_settle_76
          · have hf := zif_pos hf c13
            refine z_aload_n C0 dX3_settle_62 rfl (lv_at hl 0 rfl) ?_
            refine zgX3_59 C0 hP 0 rfl (.ref (h 26)) rfl dX3_settle_63 ?_
            refine z_iload_n C0 dX3_settle_66 rfl (lv_at hl 2 rfl) ?_
            refine z_iload_n C0 dX3_settle_67 rfl (lv_at hl 1 rfl) ?_
            refine z_aload_n C0 dX3_settle_68 rfl (lv_at hl 0 rfl) ?_
            refine zgX3_15 C0 hP 0 rfl (.ref (h 2)) rfl dX3_settle_69 ?_
            refine z_iload_n C0 dX3_settle_72 rfl (lv_at hl 2 rfl) ?_
            obtain ⟨g11, hf⟩ := zg_some hf
            refine z_iald C0 hP 2 rfl (Nat.le_of_ble_eq_true rfl) g11 dX3_settle_73 ?_
            refine z_iadd C0 dX3_settle_74 ?_
            obtain ⟨g12, hf⟩ := zg_some hf
            refine z_iast C0 hP (zD hD rfl) hS 26 rfl (Nat.le_of_ble_eq_true rfl) g12 dX3_settle_75 (fun H locs hP hS => ?_)
            have hP : va_P D vwCl ((wX h cI lagV deadV mannerV settingV keptRowV r6 shiftedRowV groupsV searchV (zu deadUntilV p2 (p1 + (deadV (Int.toNat p2)))) settledV knownV tooLateV endedV)) H := hP
            cases hf
            exact hret hP hS dX3_settle_76
      have hf := hE19
      refine z_ifeq C0 47 dX3_settle_27 (by decide) (fun c18 => ?_) (fun c18 => ?_)
      · have hf := zif_pos hf c18
        cases hf
        exact J7 _ _ hP hS ls (lv_sub hl [1, 2, 3, 0] rfl)
      · have hf := zif_neg hf c18
        refine z_aload_n C0 dX3_settle_30 rfl (lv_at hl 1 rfl) ?_
        refine zgX3_39 C0 hP 0 rfl (.ref (h 9)) rfl dX3_settle_31 ?_
        refine z_iload_n C0 dX3_settle_34 rfl (lv_at hl 2 rfl) ?_
        refine z_aload_n C0 dX3_settle_35 rfl (lv_at hl 1 rfl) ?_
        refine zgX3_11 C0 hP 0 rfl (.ref (h 1)) rfl dX3_settle_36 ?_
        refine z_iload_n C0 dX3_settle_39 rfl (lv_at hl 3 rfl) ?_
        obtain ⟨g15, hf⟩ := zg_some hf
        refine z_iald C0 hP 1 rfl (Nat.le_of_ble_eq_true rfl) g15 dX3_settle_40 ?_
        refine z_isub C0 dX3_settle_41 ?_
        refine z_iload_n C0 dX3_settle_42 rfl (lv_at hl 3 rfl) ?_
        refine z_iload_n C0 dX3_settle_43 rfl (lv_at hl 4 rfl) ?_
        obtain ⟨r16, hc17, hf⟩ := zbind hf
        refine z_callVv (rest := []) C0 hP (zD hD rfl) hS [9, 10, 11, 12] rfl (zmX2_insert l D cI cZ (h 9) (h 10) (h 11) (h 12) _ (zr_when liveRowV) (zr_plane liveRowV) (zr_strip liveRowV) (zr_size liveRowV) (p1 - (lagV (Int.toNat p2))) p2 p3 r16 hc17) (zkX3_109 ⟨by decide, by decide⟩ C0.2.2.2.2.1) rfl 2 rfl rfl rfl rfl hl.1 (Nat.le_of_ble_eq_true rfl) dX3_settle_44 ⟨Nat.zero_le _, Nat.zero_le _⟩ rfl (Nat.le_of_ble_eq_true rfl) (fun H locs hP hS => ?_)
        have hP : va_P D vwCl ((wX h cI lagV deadV mannerV settingV keptRowV (zrs_size (zrs_strip (zrs_plane (zrs_when liveRowV r16.1) r16.2.1) r16.2.2.1) r16.2.2.2) shiftedRowV groupsV searchV deadUntilV settledV knownV tooLateV endedV)) H := hP
        cases hf
        exact J7 _ _ hP hS ls (lv_sub hl [1, 2, 3, 0] rfl)
    have hf := hE21
    refine z_icmplt C0 22 dX3_settle_15 (by decide) (fun c20 => ?_) (fun c20 => ?_)
    · have hf := zif_pos hf c20
      refine z_iconst C0 dX3_settle_22 ?_
      cases hf
      exact J5 _ _ hP hS ls (lv_sub hl [0, 1, 2, 3] rfl)
    · have hf := zif_neg hf c20
      refine z_iconst C0 dX3_settle_18 ?_
      refine z_goto C0 23 dX3_settle_19 (by decide) ?_
      cases hf
      exact J5 _ _ hP hS ls (lv_sub hl [0, 1, 2, 3] rfl)
  · have hf := zif_pos hf c22
    cases hf
    exact hret hP hS dX3_settle_7
