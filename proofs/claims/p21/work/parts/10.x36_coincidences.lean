set_option maxHeartbeats 4000000 in
set_option maxRecDepth 100000 in
theorem zmX3_coincidences (l : Launch) (D : va_G) (cI cZ : ClassId) (h : Nat → Nat) (sz : Nat) (lagV : (Nat → Int)) (deadV : (Nat → Int)) (mannerV : (Nat → Int)) (settingV : (Nat → Int)) (keptRowV : zRowT) (liveRowV : zRowT) (shiftedRowV : zRowT) (groupsV : zGrT) (searchV : zLsT) (deadUntilV : (Nat → Int)) (settledV : Int) (knownV : Int) (tooLateV : Int) (endedV : Int)  (o : Int) (hf : fX3_coincidences (zk_X lagV deadV mannerV settingV keptRowV liveRowV shiftedRowV groupsV searchV deadUntilV settledV knownV tooLateV endedV) = some o) : Met l yX3_coincidences (zW yX3_coincidences cX3_coincidences 3 (some .int)) rmX3_coincidences (va_Pc [.ref (h 0)] (zPre D cI cZ ((wX h cI lagV deadV mannerV settingV keptRowV liveRowV shiftedRowV groupsV searchV deadUntilV settledV knownV tooLateV endedV)) sz)) (va_Qi (fun r' (_ : Unit) => r' = zI o) (fun _ t => va_P D vwCl ((wX h cI lagV deadV mannerV settingV keptRowV liveRowV shiftedRowV groupsV searchV deadUntilV settledV knownV tooLateV endedV)) t.heap) (va_A ((wX h cI lagV deadV mannerV settingV keptRowV liveRowV shiftedRowV groupsV searchV deadUntilV settledV knownV tooLateV endedV)) sz)) 0 0 (va_A ((wX h cI lagV deadV mannerV settingV keptRowV liveRowV shiftedRowV groupsV searchV deadUntilV settledV knownV tooLateV endedV)) sz) := by
  unfold fX3_coincidences at hf
  refine z_enter_i (own := RX3) (by decide +kernel) rfl (Nat.le_of_ble_eq_true rfl) ?_
  intro p e s m args below meth c A Q C0 hP hD hS hret ls hl
  have hl : lv_has ls 3 [(0, .ref (h 0))] := hl
  refine z_iconst C0 dX3_coincidences_0 ?_
  refine z_istore_n C0 [(1, .int (zI 0)), (0, .ref (h 0))] dX3_coincidences_1 rfl hl (by decide) rfl (fun ls hl => ?_)
  refine z_iconst C0 dX3_coincidences_2 ?_
  refine z_istore_n C0 [(2, .int (zI 0)), (1, .int (zI 0)), (0, .ref (h 0))] dX3_coincidences_3 rfl hl (by decide) rfl (fun ls hl => ?_)
  have L26 : ∀ (zn : Nat) (i2 : Int) (i3 : Int) (out : Int), fX3_coincidences_L4 zn (zk_X lagV deadV mannerV settingV keptRowV liveRowV shiftedRowV groupsV searchV deadUntilV settledV knownV tooLateV endedV) i2 i3 = some out → (∀ (H : Heap) (locs : List Loc), va_P D vwCl ((wX h cI lagV deadV mannerV settingV keptRowV liveRowV shiftedRowV groupsV searchV deadUntilV settledV knownV tooLateV endedV)) H → va_S A s.heap H locs → ∀ ls : Array Slot, lv_has ls 3 [(1, .int (zI out))] → W p l e rmX3_coincidences s m args below meth c H locs 0 0 Q (F0 m 40 ls [])) → ∀ (H : Heap) (locs : List Loc), va_P D vwCl ((wX h cI lagV deadV mannerV settingV keptRowV liveRowV shiftedRowV groupsV searchV deadUntilV settledV knownV tooLateV endedV)) H → va_S A s.heap H locs → ∀ ls : Array Slot, lv_has ls 3 [(0, .ref (h 0)), (1, .int (zI i2)), (2, .int (zI i3))] → W p l e rmX3_coincidences s m args below meth c H locs 0 0 Q (F0 m 4 ls []) := by
    intro zn
    induction zn with
    | zero =>
      intro i2 i3 out hf
      rw [fX3_coincidences_L4_z] at hf
      cases hf
    | succ zn ih =>
      intro i2 i3 out hf K H locs hP hS ls hl
      rw [fX3_coincidences_L4_s] at hf
      refine z_iload_n C0 dX3_coincidences_4 rfl (lv_at hl 2 rfl) ?_
      refine z_aload_n C0 dX3_coincidences_5 rfl (lv_at hl 0 rfl) ?_
      refine zgX3_48 C0 hP 0 rfl (.ref (h 17)) rfl dX3_coincidences_6 ?_
      refine zgX3_116 C0 hP 17 rfl (.int (zI (zg_size groupsV))) rfl dX3_coincidences_9 ?_
      refine z_icmpge C0 40 dX3_coincidences_12 (by decide) (fun c25 => ?_) (fun c25 => ?_)
      · have hf := zif_pos hf c25
        cases hf
        exact K _ _ hP hS ls (lv_sub hl [1] rfl)
      · have hf := zif_neg hf c25
        refine z_aload_n C0 dX3_coincidences_15 rfl (lv_at hl 0 rfl) ?_
        refine z_aload_n C0 dX3_coincidences_16 rfl (lv_at hl 0 rfl) ?_
        refine zgX3_48 C0 hP 0 rfl (.ref (h 17)) rfl dX3_coincidences_17 ?_
        refine zgX3_135 C0 hP 17 rfl (.ref (h 19)) rfl dX3_coincidences_20 ?_
        refine z_iload_n C0 dX3_coincidences_23 rfl (lv_at hl 2 rfl) ?_
        obtain ⟨g18, hf⟩ := zg_some hf
        refine z_iald C0 hP 19 rfl (Nat.le_of_ble_eq_true rfl) g18 dX3_coincidences_24 ?_
        obtain ⟨r19, hc20, hf⟩ := zbind hf
        refine z_callFi (rest := []) C0 hP (zD hD rfl) hS (zmX3_isCoincidence l D cI cZ h _ lagV deadV mannerV settingV keptRowV liveRowV shiftedRowV groupsV searchV deadUntilV settledV knownV tooLateV endedV ((zg_set groupsV) (Int.toNat i3)) r19 hc20) (zkX3_166 ⟨by decide, by decide⟩ C0.2.2.2.2.1) 3 rfl rfl rfl rfl hl.1 (Nat.le_of_ble_eq_true rfl) dX3_coincidences_25 ⟨Nat.zero_le _, Nat.zero_le _⟩ (fun H locs hP hS => ?_)
        have hP : va_P D vwCl ((wX h cI lagV deadV mannerV settingV keptRowV liveRowV shiftedRowV groupsV searchV deadUntilV settledV knownV tooLateV endedV)) H := hP
        obtain ⟨r21, hE24, hf⟩ := zbind hf
        have J22 : ∀ (H : Heap) (locs : List Loc), va_P D vwCl ((wX h cI lagV deadV mannerV settingV keptRowV liveRowV shiftedRowV groupsV searchV deadUntilV settledV knownV tooLateV endedV)) H → va_S A s.heap H locs → ∀ ls : Array Slot, lv_has ls 3 [(0, .ref (h 0)), (1, .int (zI r21)), (2, .int (zI i3))] → W p l e rmX3_coincidences s m args below meth c H locs 0 0 Q (F0 m 34 ls []) := by
          intro H locs hP hS ls hl
          refine z_iinc C0 [(2, .int (zI (i3 + 1))), (0, .ref (h 0)), (1, .int (zI r21))] dX3_coincidences_34 hl 2 rfl (by decide) rfl (fun ls hl => ?_)
          refine z_goto C0 4 dX3_coincidences_37 (by decide) ?_
          exact ih r21 (i3 + 1) out hf K _ _ hP hS ls (lv_sub hl [1, 2, 0] rfl)
        have hf := hE24
        refine z_ifeq C0 34 dX3_coincidences_28 (by decide) (fun c23 => ?_) (fun c23 => ?_)
        · have hf := zif_pos hf c23
          cases hf
          exact J22 _ _ hP hS ls (lv_sub hl [0, 1, 2] rfl)
        · have hf := zif_neg hf c23
          refine z_iinc C0 [(1, .int (zI (i2 + 1))), (0, .ref (h 0)), (2, .int (zI i3))] dX3_coincidences_31 hl 1 rfl (by decide) rfl (fun ls hl => ?_)
          cases hf
          exact J22 _ _ hP hS ls (lv_sub hl [1, 0, 2] rfl)
  obtain ⟨r27, hE28, hf⟩ := zbind hf
  refine L26 _ 0 0 r27 hE28 ?_ _ _ hP hS ls (lv_sub hl [2, 1, 0] rfl)
  intro H locs hP hS ls hl
  refine z_iload_n C0 dX3_coincidences_40 rfl (lv_at hl 0 rfl) ?_
  cases hf
  exact hret hP hS dX3_coincidences_41
