set_option maxHeartbeats 4000000 in
set_option maxRecDepth 100000 in
theorem zmX3_edge (l : Launch) (D : va_G) (cI cZ : ClassId) (h : Nat → Nat) (sz : Nat) (lagV : (Nat → Int)) (deadV : (Nat → Int)) (mannerV : (Nat → Int)) (settingV : (Nat → Int)) (keptRowV : zRowT) (liveRowV : zRowT) (shiftedRowV : zRowT) (groupsV : zGrT) (searchV : zLsT) (deadUntilV : (Nat → Int)) (settledV : Int) (knownV : Int) (tooLateV : Int) (endedV : Int)  (o : Int) (hf : fX3_edge (zk_X lagV deadV mannerV settingV keptRowV liveRowV shiftedRowV groupsV searchV deadUntilV settledV knownV tooLateV endedV) = some o) : Met l yX3_edge (zW yX3_edge cX3_edge 3 (some .int)) rmX3_edge (va_Pc [.ref (h 0)] (zPre D cI cZ ((wX h cI lagV deadV mannerV settingV keptRowV liveRowV shiftedRowV groupsV searchV deadUntilV settledV knownV tooLateV endedV)) sz)) (va_Qi (fun r' (_ : Unit) => r' = zI o) (fun _ t => va_P D vwCl ((wX h cI lagV deadV mannerV settingV keptRowV liveRowV shiftedRowV groupsV searchV deadUntilV settledV knownV tooLateV endedV)) t.heap) (va_A ((wX h cI lagV deadV mannerV settingV keptRowV liveRowV shiftedRowV groupsV searchV deadUntilV settledV knownV tooLateV endedV)) sz)) 0 0 (va_A ((wX h cI lagV deadV mannerV settingV keptRowV liveRowV shiftedRowV groupsV searchV deadUntilV settledV knownV tooLateV endedV)) sz) := by
  unfold fX3_edge at hf
  refine z_enter_i (own := RX3) (by decide +kernel) rfl (Nat.le_of_ble_eq_true rfl) ?_
  intro p e s m args below meth c A Q C0 hP hD hS hret ls hl
  have hl : lv_has ls 3 [(0, .ref (h 0))] := hl
  refine z_iconst C0 dX3_edge_0 ?_
  refine z_istore_n C0 [(1, .int (zI 0)), (0, .ref (h 0))] dX3_edge_1 rfl hl (by decide) rfl (fun ls hl => ?_)
  refine z_iconst C0 dX3_edge_2 ?_
  refine z_istore_n C0 [(2, .int (zI 0)), (1, .int (zI 0)), (0, .ref (h 0))] dX3_edge_3 rfl hl (by decide) rfl (fun ls hl => ?_)
  have L21 : ∀ (zn : Nat) (i2 : Int) (i3 : Int) (out : Int), fX3_edge_L4 zn (zk_X lagV deadV mannerV settingV keptRowV liveRowV shiftedRowV groupsV searchV deadUntilV settledV knownV tooLateV endedV) i2 i3 = some out → (∀ (H : Heap) (locs : List Loc), va_P D vwCl ((wX h cI lagV deadV mannerV settingV keptRowV liveRowV shiftedRowV groupsV searchV deadUntilV settledV knownV tooLateV endedV)) H → va_S A s.heap H locs → ∀ ls : Array Slot, lv_has ls 3 [(0, .ref (h 0)), (1, .int (zI out))] → W p l e rmX3_edge s m args below meth c H locs 0 0 Q (F0 m 27 ls [])) → ∀ (H : Heap) (locs : List Loc), va_P D vwCl ((wX h cI lagV deadV mannerV settingV keptRowV liveRowV shiftedRowV groupsV searchV deadUntilV settledV knownV tooLateV endedV)) H → va_S A s.heap H locs → ∀ ls : Array Slot, lv_has ls 3 [(0, .ref (h 0)), (1, .int (zI i2)), (2, .int (zI i3))] → W p l e rmX3_edge s m args below meth c H locs 0 0 Q (F0 m 4 ls []) := by
    intro zn
    induction zn with
    | zero =>
      intro i2 i3 out hf
      rw [fX3_edge_L4_z] at hf
      cases hf
    | succ zn ih =>
      intro i2 i3 out hf K H locs hP hS ls hl
      rw [fX3_edge_L4_s] at hf
      refine z_iload_n C0 dX3_edge_4 rfl (lv_at hl 2 rfl) ?_
      refine z_bipush C0 dX3_edge_5 (by decide +kernel) ?_
      refine z_icmpge C0 27 dX3_edge_7 (by decide) (fun c20 => ?_) (fun c20 => ?_)
      · have hf := zif_pos hf c20
        cases hf
        exact K _ _ hP hS ls (lv_sub hl [0, 1] rfl)
      · have hf := zif_neg hf c20
        refine z_iload_n C0 dX3_edge_10 rfl (lv_at hl 1 rfl) ?_
        refine z_aload_n C0 dX3_edge_11 rfl (lv_at hl 0 rfl) ?_
        refine zgX3_11 C0 hP 0 rfl (.ref (h 1)) rfl dX3_edge_12 ?_
        refine z_iload_n C0 dX3_edge_15 rfl (lv_at hl 2 rfl) ?_
        obtain ⟨g18, hf⟩ := zg_some hf
        refine z_iald C0 hP 1 rfl (Nat.le_of_ble_eq_true rfl) g18 dX3_edge_16 ?_
        refine z_max C0 hl.1 zw125 zw126 zw30 zw127 (by decide) (Nat.le_of_ble_eq_true rfl) (Nat.zero_le _) (Nat.zero_le _) dX3_edge_17 ?_
        obtain ⟨v19, hv19, hf⟩ := zl_some hf
        refine z_name hv19 ?_
        refine z_istore_n C0 [(1, .int (zI v19)), (0, .ref (h 0)), (2, .int (zI i3))] dX3_edge_20 rfl hl (by decide) rfl (fun ls hl => ?_)
        refine z_iinc C0 [(2, .int (zI (i3 + 1))), (1, .int (zI v19)), (0, .ref (h 0))] dX3_edge_21 hl 2 rfl (by decide) rfl (fun ls hl => ?_)
        refine z_goto C0 4 dX3_edge_24 (by decide) ?_
        exact ih v19 (i3 + 1) out hf K _ _ hP hS ls (lv_sub hl [2, 1, 0] rfl)
  obtain ⟨r22, hE23, hf⟩ := zbind hf
  refine L21 _ 0 0 r22 hE23 ?_ _ _ hP hS ls (lv_sub hl [2, 1, 0] rfl)
  intro H locs hP hS ls hl
  refine z_aload_n C0 dX3_edge_27 rfl (lv_at hl 0 rfl) ?_
  obtain ⟨r24, hc25, hf⟩ := zbind hf
  refine z_callFi (rest := []) C0 hP (zD hD rfl) hS (zmX3_horizon l D cI cZ h _ lagV deadV mannerV settingV keptRowV liveRowV shiftedRowV groupsV searchV deadUntilV settledV knownV tooLateV endedV r24 hc25) (zkX3_102 ⟨by decide, by decide⟩ C0.2.2.2.2.1) 3 rfl rfl rfl rfl hl.1 (Nat.le_of_ble_eq_true rfl) dX3_edge_28 ⟨Nat.zero_le _, Nat.zero_le _⟩ (fun H locs hP hS => ?_)
  have hP : va_P D vwCl ((wX h cI lagV deadV mannerV settingV keptRowV liveRowV shiftedRowV groupsV searchV deadUntilV settledV knownV tooLateV endedV)) H := hP
  refine z_iload_n C0 dX3_edge_31 rfl (lv_at hl 1 rfl) ?_
  refine z_isub C0 dX3_edge_32 ?_
  cases hf
  exact hret hP hS dX3_edge_33
