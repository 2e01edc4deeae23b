set_option maxHeartbeats 4000000 in
set_option maxRecDepth 100000 in
theorem zmX3_through (l : Launch) (D : va_G) (cI cZ : ClassId) (h : Nat → Nat) (sz : Nat) (lagV : (Nat → Int)) (deadV : (Nat → Int)) (mannerV : (Nat → Int)) (settingV : (Nat → Int)) (keptRowV : zRowT) (liveRowV : zRowT) (shiftedRowV : zRowT) (groupsV : zGrT) (searchV : zLsT) (deadUntilV : (Nat → Int)) (settledV : Int) (knownV : Int) (tooLateV : Int) (endedV : Int) (p1 : Int) (p2 : Int) (o : Int) (hf : fX3_through (zk_X lagV deadV mannerV settingV keptRowV liveRowV shiftedRowV groupsV searchV deadUntilV settledV knownV tooLateV endedV) p1 p2 = some o) : Met l yX3_through (zW yX3_through cX3_through 6 (some .int)) rmX3_through (va_Pc [.ref (h 0), .int (zI p1), .int (zI p2)] (zPre D cI cZ ((wX h cI lagV deadV mannerV settingV keptRowV liveRowV shiftedRowV groupsV searchV deadUntilV settledV knownV tooLateV endedV)) sz)) (va_Qi (fun r' (_ : Unit) => r' = zI o) (fun _ t => va_P D vwCl ((wX h cI lagV deadV mannerV settingV keptRowV liveRowV shiftedRowV groupsV searchV deadUntilV settledV knownV tooLateV endedV)) t.heap) (va_A ((wX h cI lagV deadV mannerV settingV keptRowV liveRowV shiftedRowV groupsV searchV deadUntilV settledV knownV tooLateV endedV)) sz)) 0 0 (va_A ((wX h cI lagV deadV mannerV settingV keptRowV liveRowV shiftedRowV groupsV searchV deadUntilV settledV knownV tooLateV endedV)) sz) := by
  unfold fX3_through at hf
  refine z_enter_i (own := RX3) (by decide +kernel) rfl (Nat.le_of_ble_eq_true rfl) ?_
  intro p e s m args below meth c A Q C0 hP hD hS hret ls hl
  have hl : lv_has ls 6 [(0, .ref (h 0)), (1, .int (zI p1)), (2, .int (zI p2))] := hl
  refine z_iload_n C0 dX3_through_0 rfl (lv_at hl 1 rfl) ?_
  obtain ⟨r1, hc2, hf⟩ := zbind hf
  refine z_callSi (rest := []) C0 hP (zD hD rfl) hS [] rfl (zmX3_isPlane l D cI cZ _ p1 r1 hc2) (zkX3_62 ⟨by decide, by decide⟩ C0.2.2.2.2.1) rfl rfl rfl hl.1 (Nat.le_of_ble_eq_true rfl) dX3_through_1 ⟨Nat.zero_le _, Nat.zero_le _⟩ rfl (Nat.le_of_ble_eq_true rfl) (fun H locs hP hS => ?_)
  have hP : va_P D vwCl ((wX h cI lagV deadV mannerV settingV keptRowV liveRowV shiftedRowV groupsV searchV deadUntilV settledV knownV tooLateV endedV)) H := hP
  refine z_ifne C0 9 dX3_through_4 (by decide) (fun c39 => ?_) (fun c39 => ?_)
  · have hf := zif_neg hf c39
    refine z_iload_n C0 dX3_through_9 rfl (lv_at hl 2 rfl) ?_
    obtain ⟨r3, hc4, hf⟩ := zbind hf
    refine z_callSi (rest := []) C0 hP (zD hD rfl) hS [] rfl (zmX3_isStrip l D cI cZ _ p2 r3 hc4) (zkX3_95 ⟨by decide, by decide⟩ C0.2.2.2.2.1) rfl rfl rfl hl.1 (Nat.le_of_ble_eq_true rfl) dX3_through_10 ⟨Nat.zero_le _, Nat.zero_le _⟩ rfl (Nat.le_of_ble_eq_true rfl) (fun H locs hP hS => ?_)
    have hP : va_P D vwCl ((wX h cI lagV deadV mannerV settingV keptRowV liveRowV shiftedRowV groupsV searchV deadUntilV settledV knownV tooLateV endedV)) H := hP
    refine z_ifne C0 19 dX3_through_13 (by decide) (fun c38 => ?_) (fun c38 => ?_)
    · have hf := zif_neg hf c38
      refine z_iconst C0 dX3_through_19 ?_
      refine z_istore_n C0 [(3, .int (zI 0)), (0, .ref (h 0)), (1, .int (zI p1)), (2, .int (zI p2))] dX3_through_20 rfl hl (by decide) rfl (fun ls hl => ?_)
      refine z_iconst C0 dX3_through_21 ?_
      refine z_istore C0 [(4, .int (zI 0)), (3, .int (zI 0)), (0, .ref (h 0)), (1, .int (zI p1)), (2, .int (zI p2))] dX3_through_22 hl (by decide) rfl (fun ls hl => ?_)
      have L35 : ∀ (zn : Nat) (i8 : Int) (i9 : Int) (out : Int), fX3_through_L24 zn (zk_X lagV deadV mannerV settingV keptRowV liveRowV shiftedRowV groupsV searchV deadUntilV settledV knownV tooLateV endedV) p1 p2 i8 i9 = some out → (∀ (H : Heap) (locs : List Loc), va_P D vwCl ((wX h cI lagV deadV mannerV settingV keptRowV liveRowV shiftedRowV groupsV searchV deadUntilV settledV knownV tooLateV endedV)) H → va_S A s.heap H locs → ∀ ls : Array Slot, lv_has ls 6 [(3, .int (zI out))] → W p l e rmX3_through s m args below meth c H locs 0 0 Q (F0 m 88 ls [])) → ∀ (H : Heap) (locs : List Loc), va_P D vwCl ((wX h cI lagV deadV mannerV settingV keptRowV liveRowV shiftedRowV groupsV searchV deadUntilV settledV knownV tooLateV endedV)) H → va_S A s.heap H locs → ∀ ls : Array Slot, lv_has ls 6 [(0, .ref (h 0)), (1, .int (zI p1)), (2, .int (zI p2)), (3, .int (zI i8)), (4, .int (zI i9))] → W p l e rmX3_through s m args below meth c H locs 0 0 Q (F0 m 24 ls []) := by
        intro zn
        induction zn with
        | zero =>
          intro i8 i9 out hf
          rw [fX3_through_L24_z] at hf
          cases hf
        | succ zn ih =>
          intro i8 i9 out hf K H locs hP hS ls hl
          rw [fX3_through_L24_s] at hf
          refine z_iload C0 dX3_through_24 (lv_at hl 4 rfl) ?_
          refine z_aload_n C0 dX3_through_26 rfl (lv_at hl 0 rfl) ?_
          refine zgX3_48 C0 hP 0 rfl (.ref (h 17)) rfl dX3_through_27 ?_
          refine zgX3_116 C0 hP 17 rfl (.int (zI (zg_size groupsV))) rfl dX3_through_30 ?_
          refine z_icmpge C0 88 dX3_through_33 (by decide) (fun c34 => ?_) (fun c34 => ?_)
          · have hf := zif_pos hf c34
            cases hf
            exact K _ _ hP hS ls (lv_sub hl [3] rfl)
          · have hf := zif_neg hf c34
            refine z_aload_n C0 dX3_through_36 rfl (lv_at hl 0 rfl) ?_
            refine zgX3_48 C0 hP 0 rfl (.ref (h 17)) rfl dX3_through_37 ?_
            refine zgX3_188 C0 hP 17 rfl (.ref (h 20)) rfl dX3_through_40 ?_
            refine z_iload C0 dX3_through_43 (lv_at hl 4 rfl) ?_
            obtain ⟨g24, hf⟩ := zg_some hf
            refine z_iald C0 hP 20 rfl (Nat.le_of_ble_eq_true rfl) g24 dX3_through_45 ?_
            refine z_aload_n C0 dX3_through_46 rfl (lv_at hl 0 rfl) ?_
            refine zgX3_48 C0 hP 0 rfl (.ref (h 17)) rfl dX3_through_47 ?_
            refine zgX3_191 C0 hP 17 rfl (.ref (h 21)) rfl dX3_through_50 ?_
            refine z_iload C0 dX3_through_53 (lv_at hl 4 rfl) ?_
            obtain ⟨g25, hf⟩ := zg_some hf
            refine z_iald C0 hP 21 rfl (Nat.le_of_ble_eq_true rfl) g25 dX3_through_55 ?_
            refine z_iload_n C0 dX3_through_56 rfl (lv_at hl 1 rfl) ?_
            refine z_imul C0 dX3_through_57 ?_
            refine z_iadd C0 dX3_through_58 ?_
            obtain ⟨v26, hv26, hf⟩ := zl_some hf
            refine z_name hv26 ?_
            refine z_istore C0 [(5, .int (zI v26)), (0, .ref (h 0)), (1, .int (zI p1)), (2, .int (zI p2)), (3, .int (zI i8)), (4, .int (zI i9))] dX3_through_59 hl (by decide) rfl (fun ls hl => ?_)
            refine z_aload_n C0 dX3_through_61 rfl (lv_at hl 1 rfl) ?_
            refine zgX3_48 C0 hP 0 rfl (.ref (h 17)) rfl dX3_through_62 ?_
            refine z_iload C0 dX3_through_65 (lv_at hl 5 rfl) ?_
            obtain ⟨r27, hc28, hf⟩ := zbind hf
            refine z_callVi (rest := []) C0 hP (zD hD rfl) hS [17, 18, 19, 20, 21, 22, 23] rfl (zmX0_hasTrack l D cI cZ (h 17) (h 18) (h 19) (h 20) (h 21) (h 22) (h 23) _ (zg_end groupsV) (zg_set groupsV) (zg_trackStart groupsV) (zg_trackSlope groupsV) (zg_trackSet groupsV) (zg_trackMisses groupsV) (zg_size groupsV) i9 r27 hc28) (zkX3_185 ⟨by decide, by decide⟩ C0.2.2.2.2.1) rfl 0 rfl rfl rfl rfl hl.1 (Nat.le_of_ble_eq_true rfl) dX3_through_67 ⟨Nat.zero_le _, Nat.zero_le _⟩ rfl (Nat.le_of_ble_eq_true rfl) (fun H locs hP hS => ?_)
            have hP : va_P D vwCl ((wX h cI lagV deadV mannerV settingV keptRowV liveRowV shiftedRowV groupsV searchV deadUntilV settledV knownV tooLateV endedV)) H := hP
            obtain ⟨r29, hE33, hf⟩ := zbind hf
            have J30 : ∀ (H : Heap) (locs : List Loc), va_P D vwCl ((wX h cI lagV deadV mannerV settingV keptRowV liveRowV shiftedRowV groupsV searchV deadUntilV settledV knownV tooLateV endedV)) H → va_S A s.heap H locs → ∀ ls : Array Slot, lv_has ls 6 [(0, .ref (h 0)), (1, .int (zI p1)), (2, .int (zI p2)), (3, .int (zI r29)), (4, .int (zI i9))] → W p l e rmX3_through s m args below meth c H locs 0 0 Q (F0 m 82 ls []) := by
              intro H locs hP hS ls hl
              refine z_iinc C0 [(4, .int (zI (i9 + 1))), (0, .ref (h 0)), (1, .int (zI p1)), (2, .int (zI p2)), (3, .int (zI r29))] dX3_through_82 hl 4 rfl (by decide) rfl (fun ls hl => ?_)
              refine z_goto C0 24 dX3_through_85 (by decide) ?_
              exact ih r29 (i9 + 1) out hf K _ _ hP hS ls (lv_sub hl [1, 2, 3, 4, 0] rfl)
            have hf := hE33
            refine z_ifeq C0 82 dX3_through_70 (by decide) (fun c32 => ?_) (fun c32 => ?_)
            · have hf := zif_pos hf c32
              cases hf
              exact J30 _ _ hP hS ls (lv_sub hl [1, 2, 3, 4, 5] rfl)
            · have hf := zif_neg hf c32
              refine z_iload C0 dX3_through_73 (lv_at hl 0 rfl) ?_
              refine z_iload_n C0 dX3_through_75 rfl (lv_at hl 3 rfl) ?_
              refine z_icmpne C0 82 dX3_through_76 (by decide) (fun c31 => ?_) (fun c31 => ?_)
              · have hf := zif_neg hf c31
                cases hf
                exact J30 _ _ hP hS ls (lv_sub hl [1, 2, 3, 4, 5] rfl)
              · have hf := zif_pos hf c31
                refine z_iinc C0 [(3, .int (zI (i8 + 1))), (5, .int (zI v26)), (0, .ref (h 0)), (1, .int (zI p1)), (2, .int (zI p2)), (4, .int (zI i9))] dX3_through_79 hl 4 rfl (by decide) rfl (fun ls hl => ?_)
                cases hf
                exact J30 _ _ hP hS ls (lv_sub hl [2, 3, 4, 0, 5] rfl)
      obtain ⟨r36, hE37, hf⟩ := zbind hf
      refine L35 _ 0 0 r36 hE37 ?_ _ _ hP hS ls (lv_sub hl [2, 3, 4, 1, 0] rfl)
      intro H locs hP hS ls hl
      refine z_iload_n C0 dX3_through_88 rfl (lv_at hl 0 rfl) ?_
      cases hf
      exact hret hP hS dX3_through_89
    · have hf := zif_pos hf c38
      refine z_bipush C0 dX3_through_16 (by decide +kernel) ?_
      cases hf
      exact hret hP hS dX3_through_18
  · have hf := zif_pos hf c39
    refine z_iconst C0 dX3_through_7 ?_
    cases hf
    exact hret hP hS dX3_through_8
