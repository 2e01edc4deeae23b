set_option maxHeartbeats 4000000 in
set_option maxRecDepth 100000 in
theorem zmX3_follow (l : Launch) (D : va_G) (cI cZ : ClassId) (h : Nat → Nat) (sz : Nat) (lagV : (Nat → Int)) (deadV : (Nat → Int)) (mannerV : (Nat → Int)) (settingV : (Nat → Int)) (keptRowV : zRowT) (liveRowV : zRowT) (shiftedRowV : zRowT) (groupsV : zGrT) (searchV : zLsT) (deadUntilV : (Nat → Int)) (settledV : Int) (knownV : Int) (tooLateV : Int) (endedV : Int)  (o : zRowT × zGrT × zLsT × (Nat → Int) × Int × Int) (hf : fX3_follow (zk_X lagV deadV mannerV settingV keptRowV liveRowV shiftedRowV groupsV searchV deadUntilV settledV knownV tooLateV endedV) = some o) : Met l yX3_follow (zW yX3_follow cX3_follow 3 none) rmX3_follow (va_Pc [.ref (h 0)] (zPreS D cI cZ ((wX h cI lagV deadV mannerV settingV keptRowV liveRowV shiftedRowV groupsV searchV deadUntilV settledV knownV tooLateV endedV)) sz)) (va_Qv (fun (_ : Unit) => True) (fun _ t => va_P D vwCl ((wX h cI lagV deadV mannerV settingV keptRowV o.1 shiftedRowV o.2.1 o.2.2.1 o.2.2.2.1 o.2.2.2.2.1 o.2.2.2.2.2 tooLateV endedV)) t.heap) (va_A ((wX h cI lagV deadV mannerV settingV keptRowV liveRowV shiftedRowV groupsV searchV deadUntilV settledV knownV tooLateV endedV)) sz)) 0 0 (va_A ((wX h cI lagV deadV mannerV settingV keptRowV liveRowV shiftedRowV groupsV searchV deadUntilV settledV knownV tooLateV endedV)) sz) := by
  unfold fX3_follow at hf
  refine z_enterS_v (own := RX3) (by decide +kernel) rfl (Nat.le_of_ble_eq_true rfl) ?_
  intro p e s m args below meth c A Q C0 hP hD hS hZ hret ls hl
  have hl : lv_has ls 3 [(0, .ref (h 0))] := hl
  refine z_aload_n C0 dX3_follow_0 rfl (lv_at hl 0 rfl) ?_
  refine z_aload_n C0 dX3_follow_1 rfl (lv_at hl 0 rfl) ?_
  obtain ⟨r1, hc2, hf⟩ := zbind hf
  refine z_callFi (rest := [.ref (h 0)]) C0 hP (zD hD rfl) hS (zmX3_horizon l D cI cZ h _ lagV deadV mannerV settingV keptRowV liveRowV shiftedRowV groupsV searchV deadUntilV settledV knownV tooLateV endedV r1 hc2) (zkX3_102 ⟨by decide, by decide⟩ C0.2.2.2.2.1) 3 rfl rfl rfl rfl hl.1 (Nat.le_of_ble_eq_true rfl) dX3_follow_2 ⟨Nat.zero_le _, Nat.zero_le _⟩ (fun H locs hP hS => ?_)
  have hP : va_P D vwCl ((wX h cI lagV deadV mannerV settingV keptRowV liveRowV shiftedRowV groupsV searchV deadUntilV settledV knownV tooLateV endedV)) H := hP
  obtain ⟨r3, hc4, hf⟩ := zbind hf
  refine z_callFv (rest := []) C0 hP (zD hD rfl) hS (zmX3_settleBelow l D cI cZ h _ lagV deadV mannerV settingV keptRowV liveRowV shiftedRowV groupsV searchV deadUntilV settledV knownV tooLateV endedV r1 r3 hc4) (zkX3_220 ⟨by decide, by decide⟩ C0.2.2.2.2.1) 3 rfl rfl rfl rfl hl.1 (Nat.le_of_ble_eq_true rfl) dX3_follow_5 ⟨Nat.zero_le _, Nat.zero_le _⟩ (fun H locs hP hS => ?_)
  have hP : va_P D vwCl ((wX h cI lagV deadV mannerV settingV keptRowV r3.1 shiftedRowV groupsV searchV r3.2.1 r3.2.2 knownV tooLateV endedV)) H := hP
  refine z_aload_n C0 dX3_follow_8 rfl (lv_at hl 0 rfl) ?_
  obtain ⟨r5, hc6, hf⟩ := zbind hf
  refine z_callFi (rest := []) C0 hP (zD hD rfl) hS (zmX3_edge l D cI cZ h _ lagV deadV mannerV settingV keptRowV r3.1 shiftedRowV groupsV searchV r3.2.1 r3.2.2 knownV tooLateV endedV r5 hc6) (zkX3_209 ⟨by decide, by decide⟩ C0.2.2.2.2.1) 3 rfl rfl rfl rfl hl.1 (Nat.le_of_ble_eq_true rfl) dX3_follow_9 ⟨Nat.zero_le _, Nat.zero_le _⟩ (fun H locs hP hS => ?_)
  have hP : va_P D vwCl ((wX h cI lagV deadV mannerV settingV keptRowV r3.1 shiftedRowV groupsV searchV r3.2.1 r3.2.2 knownV tooLateV endedV)) H := hP
  refine z_istore_n C0 [(1, .int (zI r5)), (0, .ref (h 0))] dX3_follow_12 rfl hl (by decide) rfl (fun ls hl => ?_)
  have L26 : ∀ (zn : Nat) (k20 : Int) (out : Int), fX3_follow_L13 zn (zk_X lagV deadV mannerV settingV keptRowV liveRowV shiftedRowV groupsV searchV deadUntilV settledV knownV tooLateV endedV) r5 r3.1 r3.2.1 r3.2.2 k20 = some out → (∀ (H : Heap) (locs : List Loc), va_P D vwCl ((wX h cI lagV deadV mannerV settingV keptRowV r3.1 shiftedRowV groupsV searchV r3.2.1 r3.2.2 out tooLateV endedV)) H → va_S A s.heap H locs → ∀ ls : Array Slot, lv_has ls 3 [(0, .ref (h 0)), (1, .int (zI r5))] → W p l e rmX3_follow s m args below meth c H locs 0 0 Q (F0 m 56 ls [])) → ∀ (H : Heap) (locs : List Loc), va_P D vwCl ((wX h cI lagV deadV mannerV settingV keptRowV r3.1 shiftedRowV groupsV searchV r3.2.1 r3.2.2 k20 tooLateV endedV)) H → va_S A s.heap H locs → ∀ ls : Array Slot, lv_has ls 3 [(0, .ref (h 0)), (1, .int (zI r5))] → W p l e rmX3_follow s m args below meth c H locs 0 0 Q (F0 m 13 ls []) := by
    intro zn
    induction zn with
    | zero =>
      intro k20 out hf
      rw [fX3_follow_L13_z] at hf
      cases hf
    | succ zn ih =>
      intro k20 out hf K H locs hP hS ls hl
      rw [fX3_follow_L13_s] at hf
      refine z_aload_n C0 dX3_follow_13 rfl (lv_at hl 0 rfl) ?_
      refine zgX3_123 C0 hP 0 rfl (.int (zI k20)) rfl dX3_follow_14 ?_
      refine z_aload_n C0 dX3_follow_17 rfl (lv_at hl 0 rfl) ?_
      refine zgX3_39 C0 hP 0 rfl (.ref (h 9)) rfl dX3_follow_18 ?_
      refine zgX3_74 C0 hP 9 rfl (.int (zI (zr_size r3.1))) rfl dX3_follow_21 ?_
      refine z_icmpge C0 56 dX3_follow_24 (by decide) (fun c25 => ?_) (fun c25 => ?_)
      · have hf := zif_pos hf c25
        cases hf
        exact K _ _ hP hS ls (lv_sub hl [0, 1] rfl)
      · have hf := zif_neg hf c25
        refine z_aload_n C0 dX3_follow_27 rfl (lv_at hl 0 rfl) ?_
        refine zgX3_39 C0 hP 0 rfl (.ref (h 9)) rfl dX3_follow_28 ?_
        refine zgX3_150 C0 hP 9 rfl (.ref (h 10)) rfl dX3_follow_31 ?_
        refine z_aload_n C0 dX3_follow_34 rfl (lv_at hl 0 rfl) ?_
        refine zgX3_123 C0 hP 0 rfl (.int (zI k20)) rfl dX3_follow_35 ?_
        obtain ⟨g23, hf⟩ := zg_some hf
        refine z_iald C0 hP 10 rfl (Nat.le_of_ble_eq_true rfl) g23 dX3_follow_38 ?_
        refine z_iload_n C0 dX3_follow_39 rfl (lv_at hl 1 rfl) ?_
        refine z_icmpge C0 56 dX3_follow_40 (by decide) (fun c24 => ?_) (fun c24 => ?_)
        · have hf := zif_pos hf c24
          cases hf
          exact K _ _ hP hS ls (lv_sub hl [0, 1] rfl)
        · have hf := zif_neg hf c24
          refine z_aload_n C0 dX3_follow_43 rfl (lv_at hl 0 rfl) ?_
          refine z_dup C0 dX3_follow_44 rfl ?_
          refine zgX3_123 C0 hP 0 rfl (.int (zI k20)) rfl dX3_follow_45 ?_
          refine z_iconst C0 dX3_follow_48 ?_
          refine z_iadd C0 dX3_follow_49 ?_
          refine zpX3_123 C0 hP (zD hD rfl) hS 0 rfl (Nat.le_of_ble_eq_true rfl) dX3_follow_50 (fun H locs hP hS => ?_)
          have hP : va_P D vwCl ((wX h cI lagV deadV mannerV settingV keptRowV r3.1 shiftedRowV groupsV searchV r3.2.1 r3.2.2 (k20 + 1) tooLateV endedV)) H := hP
          refine z_goto C0 13 dX3_follow_53 (by decide) ?_
          exact ih (k20 + 1) out hf K _ _ hP hS ls (lv_sub hl [0, 1] rfl)
  obtain ⟨r27, hE28, hf⟩ := zbind hf
  refine L26 _ knownV r27 hE28 ?_ _ _ hP hS ls (lv_sub hl [1, 0] rfl)
  intro H locs hP hS ls hl
  refine z_iconst C0 dX3_follow_56 ?_
  refine z_istore_n C0 [(2, .int (zI 0)), (0, .ref (h 0)), (1, .int (zI r5))] dX3_follow_57 rfl hl (by decide) rfl (fun ls hl => ?_)
  have L52 : ∀ (zn : Nat) (i31 : Int) (k39 : zGrT) (k40 : zLsT) (out : zGrT × zLsT), fX3_follow_L58 zn (zk_X lagV deadV mannerV settingV keptRowV liveRowV shiftedRowV groupsV searchV deadUntilV settledV knownV tooLateV endedV) r5 r3.1 r3.2.1 r3.2.2 r27 i31 k39 k40 = some out → (∀ (H : Heap) (locs : List Loc), va_P D vwCl ((wX h cI lagV deadV mannerV settingV keptRowV r3.1 shiftedRowV out.1 out.2 r3.2.1 r3.2.2 r27 tooLateV endedV)) H → va_S A s.heap H locs → ∀ ls : Array Slot, lv_has ls 3 [] → W p l e rmX3_follow s m args below meth c H locs 0 0 Q (F0 m 83 ls [])) → ∀ (H : Heap) (locs : List Loc), va_P D vwCl ((wX h cI lagV deadV mannerV settingV keptRowV r3.1 shiftedRowV k39 k40 r3.2.1 r3.2.2 r27 tooLateV endedV)) H → va_S A s.heap H locs → ∀ ls : Array Slot, lv_has ls 3 [(0, .ref (h 0)), (1, .int (zI r5)), (2, .int (zI i31))] → W p l e rmX3_follow s m args below meth c H locs 0 0 Q (F0 m 58 ls []) := by
    intro zn
    induction zn with
    | zero =>
      intro i31 k39 k40 out hf
      rw [fX3_follow_L58_z] at hf
      cases hf
    | succ zn ih =>
      intro i31 k39 k40 out hf K H locs hP hS ls hl
      rw [fX3_follow_L58_s] at hf
      refine z_iload_n C0 dX3_follow_58 rfl (lv_at hl 2 rfl) ?_
      refine z_sipush C0 dX3_follow_59 (by decide +kernel) ?_
      refine z_icmpge C0 83 dX3_follow_62 (by decide) (fun c51 => ?_) (fun c51 => ?_)
      · have hf := zif_pos hf c51
        cases hf
        exact K _ _ hP hS ls (lv_sub hl [] rfl)
      · have hf := zif_neg hf c51
        refine z_aload_n C0 dX3_follow_65 rfl (lv_at hl 0 rfl) ?_
        refine z_iload_n C0 dX3_follow_66 rfl (lv_at hl 1 rfl) ?_
        obtain ⟨r46, hc47, hf⟩ := zbind hf
        refine z_callFi (rest := []) C0 hP (zD hD rfl) hS (zmX3_nextGroupIsShut l D cI cZ h _ lagV deadV mannerV settingV keptRowV r3.1 shiftedRowV k39 k40 r3.2.1 r3.2.2 r27 tooLateV endedV r5 r46 hc47) (zkX3_224 ⟨by decide, by decide⟩ C0.2.2.2.2.1) 3 rfl rfl rfl rfl hl.1 (Nat.le_of_ble_eq_true rfl) dX3_follow_67 ⟨Nat.zero_le _, Nat.zero_le _⟩ (fun H locs hP hS => ?_)
        have hP : va_P D vwCl ((wX h cI lagV deadV mannerV settingV keptRowV r3.1 shiftedRowV k39 k40 r3.2.1 r3.2.2 r27 tooLateV endedV)) H := hP
        refine z_ifeq C0 83 dX3_follow_70 (by decide) (fun c50 => ?_) (fun c50 => ?_)
        · have hf := zif_pos hf c50
          cases hf
          exact K _ _ hP hS ls (lv_sub hl [] rfl)
        · have hf := zif_neg hf c50
          refine z_aload_n C0 dX3_follow_73 rfl (lv_at hl 0 rfl) ?_
          obtain ⟨r48, hc49, hf⟩ := zbind hf
          refine z_callFvS (rest := []) C0 hP (zD hD rfl) hS hZ (zmX3_shutGroup l D cI cZ h _ lagV deadV mannerV settingV keptRowV r3.1 shiftedRowV k39 k40 r3.2.1 r3.2.2 r27 tooLateV endedV r48 hc49) (zkX3_227 ⟨by decide, by decide⟩ C0.2.2.2.2.1) 3 rfl rfl rfl rfl hl.1 (Nat.le_of_ble_eq_true rfl) dX3_follow_74 ⟨Nat.zero_le _, Nat.zero_le _⟩ (fun H locs hP hS => ?_)
          have hP : va_P D vwCl ((wX h cI lagV deadV mannerV settingV keptRowV r3.1 shiftedRowV r48.1 r48.2 r3.2.1 r3.2.2 r27 tooLateV endedV)) H := hP
          refine z_iinc C0 [(2, .int (zI (i31 + 1))), (0, .ref (h 0)), (1, .int (zI r5))] dX3_follow_77 hl 2 rfl (by decide) rfl (fun ls hl => ?_)
          refine z_goto C0 58 dX3_follow_80 (by decide) ?_
          exact ih (i31 + 1) r48.1 r48.2 out hf K _ _ hP hS ls (lv_sub hl [1, 2, 0] rfl)
  obtain ⟨r53, hE54, hf⟩ := zbind hf
  refine L52 _ 0 groupsV searchV r53 hE54 ?_ _ _ hP hS ls (lv_sub hl [1, 2, 0] rfl)
  intro H locs hP hS ls hl
  cases hf
  exact hret hP hS dX3_follow_83
