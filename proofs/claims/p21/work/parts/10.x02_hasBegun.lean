set_option maxHeartbeats 4000000 in
set_option maxRecDepth 100000 in
theorem zmX3_hasBegun (l : Launch) (D : va_G) (cI cZ : ClassId) (h : Nat → Nat) (sz : Nat) (lagV : (Nat → Int)) (deadV : (Nat → Int)) (mannerV : (Nat → Int)) (settingV : (Nat → Int)) (keptRowV : zRowT) (liveRowV : zRowT) (shiftedRowV : zRowT) (groupsV : zGrT) (searchV : zLsT) (deadUntilV : (Nat → Int)) (settledV : Int) (knownV : Int) (tooLateV : Int) (endedV : Int)  (o : Int) (hf : fX3_hasBegun (zk_X lagV deadV mannerV settingV keptRowV liveRowV shiftedRowV groupsV searchV deadUntilV settledV knownV tooLateV endedV) = some o) : Met l yX3_hasBegun (zW yX3_hasBegun cX3_hasBegun 1 (some .boolean)) rmX3_hasBegun (va_Pc [.ref (h 0)] (zPre D cI cZ ((wX h cI lagV deadV mannerV settingV keptRowV liveRowV shiftedRowV groupsV searchV deadUntilV settledV knownV tooLateV endedV)) sz)) (va_Qi (fun r' (_ : Unit) => r' = zI o) (fun _ t => va_P D vwCl ((wX h cI lagV deadV mannerV settingV keptRowV liveRowV shiftedRowV groupsV searchV deadUntilV settledV knownV tooLateV endedV)) t.heap) (va_A ((wX h cI lagV deadV mannerV settingV keptRowV liveRowV shiftedRowV groupsV searchV deadUntilV settledV knownV tooLateV endedV)) sz)) 0 0 (va_A ((wX h cI lagV deadV mannerV settingV keptRowV liveRowV shiftedRowV groupsV searchV deadUntilV settledV knownV tooLateV endedV)) sz) := by
  unfold fX3_hasBegun at hf
  refine z_enter_z (own := RX3) (by decide +kernel) rfl (Nat.le_of_ble_eq_true rfl) ?_
  intro p e s m args below meth c A Q C0 hP hD hS hret ls hl
  have hl : lv_has ls 1 [(0, .ref (h 0))] := hl
  refine z_aload_n C0 dX3_hasBegun_0 rfl (lv_at hl 0 rfl) ?_
  refine zgX3_35 C0 hP 0 rfl (.ref (h 5)) rfl dX3_hasBegun_1 ?_
  refine zgX3_74 C0 hP 5 rfl (.int (zI (zr_size keptRowV))) rfl dX3_hasBegun_4 ?_
  refine z_ifgt C0 17 dX3_hasBegun_7 (by decide) (fun c2 => ?_) (fun c2 => ?_)
  · have hf := zif_pos hf c2
    refine z_iconst C0 dX3_hasBegun_17 ?_
    refine z_goto C0 22 dX3_hasBegun_18 (by decide) ?_
    cases hf
    exact hret (Or.inr rfl) hP hS dX3_hasBegun_22
  · have hf := zif_neg hf c2
    refine z_aload_n C0 dX3_hasBegun_10 rfl (lv_at hl 0 rfl) ?_
    refine zgX3_98 C0 hP 0 rfl (.int (zI endedV)) rfl dX3_hasBegun_11 ?_
    refine z_ifeq C0 21 dX3_hasBegun_14 (by decide) (fun c1 => ?_) (fun c1 => ?_)
    · have hf := zif_pos hf c1
      refine z_iconst C0 dX3_hasBegun_21 ?_
      cases hf
      exact hret (Or.inl rfl) hP hS dX3_hasBegun_22
    · have hf := zif_neg hf c1
      refine z_iconst C0 dX3_hasBegun_17 ?_
      refine z_goto C0 22 dX3_hasBegun_18 (by decide) ?_
      cases hf
      exact hret (Or.inr rfl) hP hS dX3_hasBegun_22
