set_option maxHeartbeats 4000000 in
set_option maxRecDepth 100000 in
theorem zmX0_add (l : Launch) (D : va_G) (cI cZ : ClassId) (a0 : Nat) (a1 : Nat) (a2 : Nat) (a3 : Nat) (a4 : Nat) (a5 : Nat) (a6 : Nat) (b0 : Nat) (b1 : Nat) (sz : Nat) (endV : (Nat → Int)) (setV : (Nat → Int)) (trackStartV : (Nat → Int)) (trackSlopeV : (Nat → Int)) (trackSetV : (Nat → Int)) (trackMissesV : (Nat → Int)) (sizeV : Int) (stripsV2 : (Nat → Int)) (startV2 : Int) (slopeV2 : Int) (setV2 : Int) (missesV2 : Int) (p1 : Int) (p2 : Int) (o : (Nat → Int) × (Nat → Int) × (Nat → Int) × (Nat → Int) × (Nat → Int) × (Nat → Int) × Int) (hf : fX0_add (zk_G endV setV trackStartV trackSlopeV trackSetV trackMissesV sizeV) (zk_S stripsV2 startV2 slopeV2 setV2 missesV2) p1 p2 = some o) : Met l yX0_add (zW yX0_add cX0_add 4 none) rmX0_add (va_Pc [.ref a0, .int (zI p1), .int (zI p2), .ref b0] (zPre D cI cZ ((wG a0 a1 a2 a3 a4 a5 a6 cI endV setV trackStartV trackSlopeV trackSetV trackMissesV sizeV) ++ (wS b0 b1 cI stripsV2 startV2 slopeV2 setV2 missesV2)) sz)) (va_Qv (fun (_ : Unit) => True) (fun _ t => va_P D vwCl ((wG a0 a1 a2 a3 a4 a5 a6 cI o.1 o.2.1 o.2.2.1 o.2.2.2.1 o.2.2.2.2.1 o.2.2.2.2.2.1 o.2.2.2.2.2.2) ++ (wS b0 b1 cI stripsV2 startV2 slopeV2 setV2 missesV2)) t.heap) (va_A ((wG a0 a1 a2 a3 a4 a5 a6 cI endV setV trackStartV trackSlopeV trackSetV trackMissesV sizeV) ++ (wS b0 b1 cI stripsV2 startV2 slopeV2 setV2 missesV2)) sz)) 0 0 (va_A ((wG a0 a1 a2 a3 a4 a5 a6 cI endV setV trackStartV trackSlopeV trackSetV trackMissesV sizeV) ++ (wS b0 b1 cI stripsV2 startV2 slopeV2 setV2 missesV2)) sz) := by
  unfold fX0_add at hf
  refine z_enter_v (own := RX0) (by decide +kernel) rfl (Nat.le_of_ble_eq_true rfl) ?_
  intro p e s m args below meth c A Q C0 hP hD hS hret ls hl
  have hl : lv_has ls 4 [(0, .ref a0), (1, .int (zI p1)), (2, .int (zI p2)), (3, .ref b0)] := hl
  refine z_aload_n C0 dX0_add_0 rfl (lv_at hl 0 rfl) ?_
  refine zgX0_30 C0 hP 0 rfl (.int (zI sizeV)) rfl dX0_add_1 ?_
  refine z_sipush C0 dX0_add_4 (by decide +kernel) ?_
  refine z_icmplt C0 11 dX0_add_7 (by decide) (fun c7 => ?_) (fun c7 => ?_)
  · have hf := zif_pos hf c7
    refine z_aload_n C0 dX0_add_11 rfl (lv_at hl 0 rfl) ?_
    refine zgX0_9 C0 hP 0 rfl (.ref a1) rfl dX0_add_12 ?_
    refine z_aload_n C0 dX0_add_15 rfl (lv_at hl 0 rfl) ?_
    refine zgX0_30 C0 hP 0 rfl (.int (zI sizeV)) rfl dX0_add_16 ?_
    refine z_iload_n C0 dX0_add_19 rfl (lv_at hl 1 rfl) ?_
    obtain ⟨g1, hf⟩ := zg_some hf
    refine z_iast C0 hP (zD hD rfl) hS 1 rfl (Nat.le_of_ble_eq_true rfl) g1 dX0_add_20 (fun H locs hP hS => ?_)
    have hP : va_P D vwCl ((wG a0 a1 a2 a3 a4 a5 a6 cI (zu endV sizeV p1) setV trackStartV trackSlopeV trackSetV trackMissesV sizeV) ++ (wS b0 b1 cI stripsV2 startV2 slopeV2 setV2 missesV2)) H := hP
    refine z_aload_n C0 dX0_add_21 rfl (lv_at hl 0 rfl) ?_
    refine zgX0_15 C0 hP 0 rfl (.ref a2) rfl dX0_add_22 ?_
    refine z_aload_n C0 dX0_add_25 rfl (lv_at hl 0 rfl) ?_
    refine zgX0_30 C0 hP 0 rfl (.int (zI sizeV)) rfl dX0_add_26 ?_
    refine z_iload_n C0 dX0_add_29 rfl (lv_at hl 2 rfl) ?_
    obtain ⟨g2, hf⟩ := zg_some hf
    refine z_iast C0 hP (zD hD rfl) hS 2 rfl (Nat.le_of_ble_eq_true rfl) g2 dX0_add_30 (fun H locs hP hS => ?_)
    have hP : va_P D vwCl ((wG a0 a1 a2 a3 a4 a5 a6 cI (zu endV sizeV p1) (zu setV sizeV p2) trackStartV trackSlopeV trackSetV trackMissesV sizeV) ++ (wS b0 b1 cI stripsV2 startV2 slopeV2 setV2 missesV2)) H := hP
    refine z_aload_n C0 dX0_add_31 rfl (lv_at hl 0 rfl) ?_
    refine zgX0_18 C0 hP 0 rfl (.ref a3) rfl dX0_add_32 ?_
    refine z_aload_n C0 dX0_add_35 rfl (lv_at hl 0 rfl) ?_
    refine zgX0_30 C0 hP 0 rfl (.int (zI sizeV)) rfl dX0_add_36 ?_
    refine z_aload_n C0 dX0_add_39 rfl (lv_at hl 3 rfl) ?_
    refine zgX0_34 C0 hP 7 rfl (.int (zI startV2)) rfl dX0_add_40 ?_
    obtain ⟨g3, hf⟩ := zg_some hf
    refine z_iast C0 hP (zD hD rfl) hS 3 rfl (Nat.le_of_ble_eq_true rfl) g3 dX0_add_43 (fun H locs hP hS => ?_)
    have hP : va_P D vwCl ((wG a0 a1 a2 a3 a4 a5 a6 cI (zu endV sizeV p1) (zu setV sizeV p2) (zu trackStartV sizeV startV2) trackSlopeV trackSetV trackMissesV sizeV) ++ (wS b0 b1 cI stripsV2 startV2 slopeV2 setV2 missesV2)) H := hP
    refine z_aload_n C0 dX0_add_44 rfl (lv_at hl 0 rfl) ?_
    refine zgX0_21 C0 hP 0 rfl (.ref a4) rfl dX0_add_45 ?_
    refine z_aload_n C0 dX0_add_48 rfl (lv_at hl 0 rfl) ?_
    refine zgX0_30 C0 hP 0 rfl (.int (zI sizeV)) rfl dX0_add_49 ?_
    refine z_aload_n C0 dX0_add_52 rfl (lv_at hl 3 rfl) ?_
    refine zgX0_39 C0 hP 7 rfl (.int (zI slopeV2)) rfl dX0_add_53 ?_
    obtain ⟨g4, hf⟩ := zg_some hf
    refine z_iast C0 hP (zD hD rfl) hS 4 rfl (Nat.le_of_ble_eq_true rfl) g4 dX0_add_56 (fun H locs hP hS => ?_)
    have hP : va_P D vwCl ((wG a0 a1 a2 a3 a4 a5 a6 cI (zu endV sizeV p1) (zu setV sizeV p2) (zu trackStartV sizeV startV2) (zu trackSlopeV sizeV slopeV2) trackSetV trackMissesV sizeV) ++ (wS b0 b1 cI stripsV2 startV2 slopeV2 setV2 missesV2)) H := hP
    refine z_aload_n C0 dX0_add_57 rfl (lv_at hl 0 rfl) ?_
    refine zgX0_24 C0 hP 0 rfl (.ref a5) rfl dX0_add_58 ?_
    refine z_aload_n C0 dX0_add_61 rfl (lv_at hl 0 rfl) ?_
    refine zgX0_30 C0 hP 0 rfl (.int (zI sizeV)) rfl dX0_add_62 ?_
    refine z_aload_n C0 dX0_add_65 rfl (lv_at hl 3 rfl) ?_
    refine zgX0_42 C0 hP 7 rfl (.int (zI setV2)) rfl dX0_add_66 ?_
    obtain ⟨g5, hf⟩ := zg_some hf
    refine z_iast C0 hP (zD hD rfl) hS 5 rfl (Nat.le_of_ble_eq_true rfl) g5 dX0_add_69 (fun H locs hP hS => ?_)
    have hP : va_P D vwCl ((wG a0 a1 a2 a3 a4 a5 a6 cI (zu endV sizeV p1) (zu setV sizeV p2) (zu trackStartV sizeV startV2) (zu trackSlopeV sizeV slopeV2) (zu trackSetV sizeV setV2) trackMissesV sizeV) ++ (wS b0 b1 cI stripsV2 startV2 slopeV2 setV2 missesV2)) H := hP
    refine z_aload_n C0 dX0_add_70 rfl (lv_at hl 0 rfl) ?_
    refine zgX0_27 C0 hP 0 rfl (.ref a6) rfl dX0_add_71 ?_
    refine z_aload_n C0 dX0_add_74 rfl (lv_at hl 0 rfl) ?_
    refine zgX0_30 C0 hP 0 rfl (.int (zI sizeV)) rfl dX0_add_75 ?_
    refine z_aload_n C0 dX0_add_78 rfl (lv_at hl 3 rfl) ?_
    refine zgX0_44 C0 hP 7 rfl (.int (zI missesV2)) rfl dX0_add_79 ?_
    obtain ⟨g6, hf⟩ := zg_some hf
    refine z_iast C0 hP (zD hD rfl) hS 6 rfl (Nat.le_of_ble_eq_true rfl) g6 dX0_add_82 (fun H locs hP hS => ?_)
    have hP : va_P D vwCl ((wG a0 a1 a2 a3 a4 a5 a6 cI (zu endV sizeV p1) (zu setV sizeV p2) (zu trackStartV sizeV startV2) (zu trackSlopeV sizeV slopeV2) (zu trackSetV sizeV setV2) (zu trackMissesV sizeV missesV2) sizeV) ++ (wS b0 b1 cI stripsV2 startV2 slopeV2 setV2 missesV2)) H := hP
    refine z_aload_n C0 dX0_add_83 rfl (lv_at hl 0 rfl) ?_
    refine z_dup C0 dX0_add_84 rfl ?_
    refine zgX0_30 C0 hP 0 rfl (.int (zI sizeV)) rfl dX0_add_85 ?_
    refine z_iconst C0 dX0_add_88 ?_
    refine z_iadd C0 dX0_add_89 ?_
    refine zpX0_30 C0 hP (zD hD rfl) hS 0 rfl (Nat.le_of_ble_eq_true rfl) dX0_add_90 (fun H locs hP hS => ?_)
    have hP : va_P D vwCl ((wG a0 a1 a2 a3 a4 a5 a6 cI (zu endV sizeV p1) (zu setV sizeV p2) (zu trackStartV sizeV startV2) (zu trackSlopeV sizeV slopeV2) (zu trackSetV sizeV setV2) (zu trackMissesV sizeV missesV2) (sizeV + 1)) ++ (wS b0 b1 cI stripsV2 startV2 slopeV2 setV2 missesV2)) H := hP
    cases hf
    exact hret hP hS dX0_add_93
  · have hf := zif_neg hf c7
    cases hf
    exact hret hP hS dX0_add_10
set_option maxHeartbeats 4000000 in
set_option maxRecDepth 100000 in
theorem zmX0_endOf (l : Launch) (D : va_G) (cI cZ : ClassId) (a0 : Nat) (a1 : Nat) (a2 : Nat) (a3 : Nat) (a4 : Nat) (a5 : Nat) (a6 : Nat) (sz : Nat) (endV : (Nat → Int)) (setV : (Nat → Int)) (trackStartV : (Nat → Int)) (trackSlopeV : (Nat → Int)) (trackSetV : (Nat → Int)) (trackMissesV : (Nat → Int)) (sizeV : Int) (p1 : Int) (o : Int) (hf : fX0_endOf (zk_G endV setV trackStartV trackSlopeV trackSetV trackMissesV sizeV) p1 = some o) : Met l yX0_endOf (zW yX0_endOf cX0_endOf 2 (some .int)) rmX0_endOf (va_Pc [.ref a0, .int (zI p1)] (zPre D cI cZ ((wG a0 a1 a2 a3 a4 a5 a6 cI endV setV trackStartV trackSlopeV trackSetV trackMissesV sizeV)) sz)) (va_Qi (fun r' (_ : Unit) => r' = zI o) (fun _ t => va_P D vwCl ((wG a0 a1 a2 a3 a4 a5 a6 cI endV setV trackStartV trackSlopeV trackSetV trackMissesV sizeV)) t.heap) (va_A ((wG a0 a1 a2 a3 a4 a5 a6 cI endV setV trackStartV trackSlopeV trackSetV trackMissesV sizeV)) sz)) 0 0 (va_A ((wG a0 a1 a2 a3 a4 a5 a6 cI endV setV trackStartV trackSlopeV trackSetV trackMissesV sizeV)) sz) := by
  unfold fX0_endOf at hf
  refine z_enter_i (own := RX0) (by decide +kernel) rfl (Nat.le_of_ble_eq_true rfl) ?_
  intro p e s m args below meth c A Q C0 hP hD hS hret ls hl
  have hl : lv_has ls 2 [(0, .ref a0), (1, .int (zI p1))] := hl
  refine z_iload_n C0 dX0_endOf_0 rfl (lv_at hl 1 rfl) ?_
  refine z_iflt C0 21 dX0_endOf_1 (by decide) (fun c3 => ?_) (fun c3 => ?_)
  · have hf := zif_pos hf c3
    refine z_iconst C0 dX0_endOf_21 ?_
    cases hf
    exact hret hP hS dX0_endOf_22
  · have hf := zif_neg hf c3
    refine z_iload_n C0 dX0_endOf_4 rfl (lv_at hl 1 rfl) ?_
    refine z_aload_n C0 dX0_endOf_5 rfl (lv_at hl 0 rfl) ?_
    refine zgX0_30 C0 hP 0 rfl (.int (zI sizeV)) rfl dX0_endOf_6 ?_
    refine z_icmpge C0 21 dX0_endOf_9 (by decide) (fun c2 => ?_) (fun c2 => ?_)
    · have hf := zif_pos hf c2
      refine z_iconst C0 dX0_endOf_21 ?_
      cases hf
      exact hret hP hS dX0_endOf_22
    · have hf := zif_neg hf c2
      refine z_aload_n C0 dX0_endOf_12 rfl (lv_at hl 0 rfl) ?_
      refine zgX0_9 C0 hP 0 rfl (.ref a1) rfl dX0_endOf_13 ?_
      refine z_iload_n C0 dX0_endOf_16 rfl (lv_at hl 1 rfl) ?_
      obtain ⟨g1, hf⟩ := zg_some hf
      refine z_iald C0 hP 1 rfl (Nat.le_of_ble_eq_true rfl) g1 dX0_endOf_17 ?_
      refine z_goto C0 22 dX0_endOf_18 (by decide) ?_
      cases hf
      exact hret hP hS dX0_endOf_22
set_option maxHeartbeats 4000000 in
set_option maxRecDepth 100000 in
theorem zmX0_pulses (l : Launch) (D : va_G) (cI cZ : ClassId) (a0 : Nat) (a1 : Nat) (a2 : Nat) (a3 : Nat) (a4 : Nat) (a5 : Nat) (a6 : Nat) (sz : Nat) (endV : (Nat → Int)) (setV : (Nat → Int)) (trackStartV : (Nat → Int)) (trackSlopeV : (Nat → Int)) (trackSetV : (Nat → Int)) (trackMissesV : (Nat → Int)) (sizeV : Int)  (o : Int) (hf : fX0_pulses (zk_G endV setV trackStartV trackSlopeV trackSetV trackMissesV sizeV) = some o) : Met l yX0_pulses (zW yX0_pulses cX0_pulses 1 (some .int)) rmX0_pulses (va_Pc [.ref a0] (zPre D cI cZ ((wG a0 a1 a2 a3 a4 a5 a6 cI endV setV trackStartV trackSlopeV trackSetV trackMissesV sizeV)) sz)) (va_Qi (fun r' (_ : Unit) => r' = zI o) (fun _ t => va_P D vwCl ((wG a0 a1 a2 a3 a4 a5 a6 cI endV setV trackStartV trackSlopeV trackSetV trackMissesV sizeV)) t.heap) (va_A ((wG a0 a1 a2 a3 a4 a5 a6 cI endV setV trackStartV trackSlopeV trackSetV trackMissesV sizeV)) sz)) 0 0 (va_A ((wG a0 a1 a2 a3 a4 a5 a6 cI endV setV trackStartV trackSlopeV trackSetV trackMissesV sizeV)) sz) := by
  unfold fX0_pulses at hf
  refine z_enter_i (own := RX0) (by decide +kernel) rfl (Nat.le_of_ble_eq_true rfl) ?_
  intro p e s m args below meth c A Q C0 hP hD hS hret ls hl
  have hl : lv_has ls 1 [(0, .ref a0)] := hl
  refine z_aload_n C0 dX0_pulses_0 rfl (lv_at hl 0 rfl) ?_
  refine z_aload_n C0 dX0_pulses_1 rfl (lv_at hl 0 rfl) ?_
  refine zgX0_30 C0 hP 0 rfl (.int (zI sizeV)) rfl dX0_pulses_2 ?_
  refine z_iconst C0 dX0_pulses_5 ?_
  refine z_isub C0 dX0_pulses_6 ?_
  obtain ⟨r1, hc2, hf⟩ := zbind hf
  refine z_callFi (rest := []) C0 hP (zD hD rfl) hS (zmX0_endOf l D cI cZ a0 a1 a2 a3 a4 a5 a6 _ endV setV trackStartV trackSlopeV trackSetV trackMissesV sizeV (sizeV - 1) r1 hc2) (zkX0_47 ⟨by decide, by decide⟩ C0.2.2.2.2.1) 0 rfl rfl rfl rfl hl.1 (Nat.le_of_ble_eq_true rfl) dX0_pulses_7 ⟨Nat.zero_le _, Nat.zero_le _⟩ (fun H locs hP hS => ?_)
  have hP : va_P D vwCl ((wG a0 a1 a2 a3 a4 a5 a6 cI endV setV trackStartV trackSlopeV trackSetV trackMissesV sizeV)) H := hP
  cases hf
  exact hret hP hS dX0_pulses_10
set_option maxHeartbeats 4000000 in
set_option maxRecDepth 100000 in
theorem zmX0_hasTrack (l : Launch) (D : va_G) (cI cZ : ClassId) (a0 : Nat) (a1 : Nat) (a2 : Nat) (a3 : Nat) (a4 : Nat) (a5 : Nat) (a6 : Nat) (sz : Nat) (endV : (Nat → Int)) (setV : (Nat → Int)) (trackStartV : (Nat → Int)) (trackSlopeV : (Nat → Int)) (trackSetV : (Nat → Int)) (trackMissesV : (Nat → Int)) (sizeV : Int) (p1 : Int) (o : Int) (hf : fX0_hasTrack (zk_G endV setV trackStartV trackSlopeV trackSetV trackMissesV sizeV) p1 = some o) : Met l yX0_hasTrack (zW yX0_hasTrack cX0_hasTrack 2 (some .boolean)) rmX0_hasTrack (va_Pc [.ref a0, .int (zI p1)] (zPre D cI cZ ((wG a0 a1 a2 a3 a4 a5 a6 cI endV setV trackStartV trackSlopeV trackSetV trackMissesV sizeV)) sz)) (va_Qi (fun r' (_ : Unit) => r' = zI o) (fun _ t => va_P D vwCl ((wG a0 a1 a2 a3 a4 a5 a6 cI endV setV trackStartV trackSlopeV trackSetV trackMissesV sizeV)) t.heap) (va_A ((wG a0 a1 a2 a3 a4 a5 a6 cI endV setV trackStartV trackSlopeV trackSetV trackMissesV sizeV)) sz)) 0 0 (va_A ((wG a0 a1 a2 a3 a4 a5 a6 cI endV setV trackStartV trackSlopeV trackSetV trackMissesV sizeV)) sz) := by
  unfold fX0_hasTrack at hf
  refine z_enter_z (own := RX0) (by decide +kernel) rfl (Nat.le_of_ble_eq_true rfl) ?_
  intro p e s m args below meth c A Q C0 hP hD hS hret ls hl
  have hl : lv_has ls 2 [(0, .ref a0), (1, .int (zI p1))] := hl
  refine z_aload_n C0 dX0_hasTrack_0 rfl (lv_at hl 0 rfl) ?_
  refine zgX0_24 C0 hP 0 rfl (.ref a5) rfl dX0_hasTrack_1 ?_
  refine z_iload_n C0 dX0_hasTrack_4 rfl (lv_at hl 1 rfl) ?_
  obtain ⟨g1, hf⟩ := zg_some hf
  refine z_iald C0 hP 5 rfl (Nat.le_of_ble_eq_true rfl) g1 dX0_hasTrack_5 ?_
  refine z_ifeq C0 13 dX0_hasTrack_6 (by decide) (fun c2 => ?_) (fun c2 => ?_)
  · have hf := zif_pos hf c2
    refine z_iconst C0 dX0_hasTrack_13 ?_
    cases hf
    exact hret (Or.inl rfl) hP hS dX0_hasTrack_14
  · have hf := zif_neg hf c2
    refine z_iconst C0 dX0_hasTrack_9 ?_
    refine z_goto C0 14 dX0_hasTrack_10 (by decide) ?_
    cases hf
    exact hret (Or.inr rfl) hP hS dX0_hasTrack_14
set_option maxHeartbeats 4000000 in
set_option maxRecDepth 100000 in
theorem zmX0_tracks (l : Launch) (D : va_G) (cI cZ : ClassId) (a0 : Nat) (a1 : Nat) (a2 : Nat) (a3 : Nat) (a4 : Nat) (a5 : Nat) (a6 : Nat) (sz : Nat) (endV : (Nat → Int)) (setV : (Nat → Int)) (trackStartV : (Nat → Int)) (trackSlopeV : (Nat → Int)) (trackSetV : (Nat → Int)) (trackMissesV : (Nat → Int)) (sizeV : Int)  (o : Int) (hf : fX0_tracks (zk_G endV setV trackStartV trackSlopeV trackSetV trackMissesV sizeV) = some o) : Met l yX0_tracks (zW yX0_tracks cX0_tracks 3 (some .int)) rmX0_tracks (va_Pc [.ref a0] (zPre D cI cZ ((wG a0 a1 a2 a3 a4 a5 a6 cI endV setV trackStartV trackSlopeV trackSetV trackMissesV sizeV)) sz)) (va_Qi (fun r' (_ : Unit) => r' = zI o) (fun _ t => va_P D vwCl ((wG a0 a1 a2 a3 a4 a5 a6 cI endV setV trackStartV trackSlopeV trackSetV trackMissesV sizeV)) t.heap) (va_A ((wG a0 a1 a2 a3 a4 a5 a6 cI endV setV trackStartV trackSlopeV trackSetV trackMissesV sizeV)) sz)) 0 0 (va_A ((wG a0 a1 a2 a3 a4 a5 a6 cI endV setV trackStartV trackSlopeV trackSetV trackMissesV sizeV)) sz) := by
  unfold fX0_tracks at hf
  refine z_enter_i (own := RX0) (by decide +kernel) rfl (Nat.le_of_ble_eq_true rfl) ?_
  intro p e s m args below meth c A Q C0 hP hD hS hret ls hl
  have hl : lv_has ls 3 [(0, .ref a0)] := hl
  refine z_iconst C0 dX0_tracks_0 ?_
  refine z_istore_n C0 [(1, .int (zI 0)), (0, .ref a0)] dX0_tracks_1 rfl hl (by decide) rfl (fun ls hl => ?_)
  refine z_iconst C0 dX0_tracks_2 ?_
  refine z_istore_n C0 [(2, .int (zI 0)), (1, .int (zI 0)), (0, .ref a0)] dX0_tracks_3 rfl hl (by decide) rfl (fun ls hl => ?_)
  have L18 : ∀ (zn : Nat) (i2 : Int) (i3 : Int) (out : Int), fX0_tracks_L4 zn (zk_G endV setV trackStartV trackSlopeV trackSetV trackMissesV sizeV) i2 i3 = some out → (∀ (H : Heap) (locs : List Loc), va_P D vwCl ((wG a0 a1 a2 a3 a4 a5 a6 cI endV setV trackStartV trackSlopeV trackSetV trackMissesV sizeV)) H → va_S A s.heap H locs → ∀ ls : Array Slot, lv_has ls 3 [(1, .int (zI out))] → W p l e rmX0_tracks s m args below meth c H locs 0 0 Q (F0 m 29 ls [])) → ∀ (H : Heap) (locs : List Loc), va_P D vwCl ((wG a0 a1 a2 a3 a4 a5 a6 cI endV setV trackStartV trackSlopeV trackSetV trackMissesV sizeV)) H → va_S A s.heap H locs → ∀ ls : Array Slot, lv_has ls 3 [(0, .ref a0), (1, .int (zI i2)), (2, .int (zI i3))] → W p l e rmX0_tracks s m args below meth c H locs 0 0 Q (F0 m 4 ls []) := by
    intro zn
    induction zn with
    | zero =>
      intro i2 i3 out hf
      rw [fX0_tracks_L4_z] at hf
      cases hf
    | succ zn ih =>
      intro i2 i3 out hf K H locs hP hS ls hl
      rw [fX0_tracks_L4_s] at hf
      refine z_iload_n C0 dX0_tracks_4 rfl (lv_at hl 2 rfl) ?_
      refine z_aload_n C0 dX0_tracks_5 rfl (lv_at hl 0 rfl) ?_
      refine zgX0_30 C0 hP 0 rfl (.int (zI sizeV)) rfl dX0_tracks_6 ?_
      refine z_icmpge C0 29 dX0_tracks_9 (by decide) (fun c17 => ?_) (fun c17 => ?_)
      · have hf := zif_pos hf c17
        cases hf
        exact K _ _ hP hS ls (lv_sub hl [1] rfl)
      · have hf := zif_neg hf c17
        refine z_aload_n C0 dX0_tracks_12 rfl (lv_at hl 0 rfl) ?_
        refine z_iload_n C0 dX0_tracks_13 rfl (lv_at hl 2 rfl) ?_
        obtain ⟨r11, hc12, hf⟩ := zbind hf
        refine z_callFi (rest := []) C0 hP (zD hD rfl) hS (zmX0_hasTrack l D cI cZ a0 a1 a2 a3 a4 a5 a6 _ endV setV trackStartV trackSlopeV trackSetV trackMissesV sizeV i3 r11 hc12) (zkX0_51 ⟨by decide, by decide⟩ C0.2.2.2.2.1) 0 rfl rfl rfl rfl hl.1 (Nat.le_of_ble_eq_true rfl) dX0_tracks_14 ⟨Nat.zero_le _, Nat.zero_le _⟩ (fun H locs hP hS => ?_)
        have hP : va_P D vwCl ((wG a0 a1 a2 a3 a4 a5 a6 cI endV setV trackStartV trackSlopeV trackSetV trackMissesV sizeV)) H := hP
        obtain ⟨r13, hE16, hf⟩ := zbind hf
        have J14 : ∀ (H : Heap) (locs : List Loc), va_P D vwCl ((wG a0 a1 a2 a3 a4 a5 a6 cI endV setV trackStartV trackSlopeV trackSetV trackMissesV sizeV)) H → va_S A s.heap H locs → ∀ ls : Array Slot, lv_has ls 3 [(0, .ref a0), (1, .int (zI r13)), (2, .int (zI i3))] → W p l e rmX0_tracks s m args below meth c H locs 0 0 Q (F0 m 23 ls []) := by
          intro H locs hP hS ls hl
          refine z_iinc C0 [(2, .int (zI (i3 + 1))), (0, .ref a0), (1, .int (zI r13))] dX0_tracks_23 hl 2 rfl (by decide) rfl (fun ls hl => ?_)
          refine z_goto C0 4 dX0_tracks_26 (by decide) ?_
          exact ih r13 (i3 + 1) out hf K _ _ hP hS ls (lv_sub hl [1, 2, 0] rfl)
        have hf := hE16
        refine z_ifeq C0 23 dX0_tracks_17 (by decide) (fun c15 => ?_) (fun c15 => ?_)
        · have hf := zif_pos hf c15
          cases hf
          exact J14 _ _ hP hS ls (lv_sub hl [0, 1, 2] rfl)
        · have hf := zif_neg hf c15
          refine z_iinc C0 [(1, .int (zI (i2 + 1))), (0, .ref a0), (2, .int (zI i3))] dX0_tracks_20 hl 1 rfl (by decide) rfl (fun ls hl => ?_)
          cases hf
          exact J14 _ _ hP hS ls (lv_sub hl [1, 0, 2] rfl)
  obtain ⟨r19, hE20, hf⟩ := zbind hf
  refine L18 _ 0 0 r19 hE20 ?_ _ _ hP hS ls (lv_sub hl [2, 1, 0] rfl)
  intro H locs hP hS ls hl
  refine z_iload_n C0 dX0_tracks_29 rfl (lv_at hl 0 rfl) ?_
  cases hf
  exact hret hP hS dX0_tracks_30
set_option maxHeartbeats 4000000 in
set_option maxRecDepth 100000 in
theorem zmX1_take (l : Launch) (D : va_G) (cI cZ : ClassId) (a0 : Nat) (a1 : Nat) (sz : Nat) (stripsV : (Nat → Int)) (startV : Int) (slopeV : Int) (setV : Int) (missesV : Int) (p1 : Int) (p2 : Int) (p3 : Int) (p4 : Int) (o : Int × Int × Int × Int) (hf : fX1_take (zk_S stripsV startV slopeV setV missesV) p1 p2 p3 p4 = some o) : Met l yX1_take (zW yX1_take cX1_take 5 none) rmX1_take (va_Pc [.ref a0, .int (zI p1), .int (zI p2), .int (zI p3), .int (zI p4)] (zPre D cI cZ ((wS a0 a1 cI stripsV startV slopeV setV missesV)) sz)) (va_Qv (fun (_ : Unit) => True) (fun _ t => va_P D vwCl ((wS a0 a1 cI stripsV o.1 o.2.1 o.2.2.1 o.2.2.2)) t.heap) (va_A ((wS a0 a1 cI stripsV startV slopeV setV missesV)) sz)) 0 0 (va_A ((wS a0 a1 cI stripsV startV slopeV setV missesV)) sz) := by
  unfold fX1_take at hf
  refine z_enter_v (own := RX1) (by decide +kernel) rfl (Nat.le_of_ble_eq_true rfl) ?_
  intro p e s m args below meth c A Q C0 hP hD hS hret ls hl
  have hl : lv_has ls 5 [(0, .ref a0), (1, .int (zI p1)), (2, .int (zI p2)), (3, .int (zI p3)), (4, .int (zI p4))] := hl
  refine z_aload_n C0 dX1_take_0 rfl (lv_at hl 0 rfl) ?_
  refine z_iload_n C0 dX1_take_1 rfl (lv_at hl 1 rfl) ?_
  refine zpX1_44 C0 hP (zD hD rfl) hS 0 rfl (Nat.le_of_ble_eq_true rfl) dX1_take_2 (fun H locs hP hS => ?_)
  have hP : va_P D vwCl ((wS a0 a1 cI stripsV p1 slopeV setV missesV)) H := hP
  refine z_aload_n C0 dX1_take_5 rfl (lv_at hl 0 rfl) ?_
  refine z_iload_n C0 dX1_take_6 rfl (lv_at hl 2 rfl) ?_
  refine zpX1_47 C0 hP (zD hD rfl) hS 0 rfl (Nat.le_of_ble_eq_true rfl) dX1_take_7 (fun H locs hP hS => ?_)
  have hP : va_P D vwCl ((wS a0 a1 cI stripsV p1 p2 setV missesV)) H := hP
  refine z_aload_n C0 dX1_take_10 rfl (lv_at hl 0 rfl) ?_
  refine z_iload_n C0 dX1_take_11 rfl (lv_at hl 3 rfl) ?_
  refine zpX1_15 C0 hP (zD hD rfl) hS 0 rfl (Nat.le_of_ble_eq_true rfl) dX1_take_12 (fun H locs hP hS => ?_)
  have hP : va_P D vwCl ((wS a0 a1 cI stripsV p1 p2 p3 missesV)) H := hP
  refine z_aload_n C0 dX1_take_15 rfl (lv_at hl 0 rfl) ?_
  refine z_iload C0 dX1_take_16 (lv_at hl 4 rfl) ?_
  refine zpX1_19 C0 hP (zD hD rfl) hS 0 rfl (Nat.le_of_ble_eq_true rfl) dX1_take_18 (fun H locs hP hS => ?_)
  have hP : va_P D vwCl ((wS a0 a1 cI stripsV p1 p2 p3 p4)) H := hP
  cases hf
  exact hret hP hS dX1_take_21
set_option maxHeartbeats 4000000 in
set_option maxRecDepth 100000 in
theorem zmX1_weigh (l : Launch) (D : va_G) (cI cZ : ClassId) (a0 : Nat) (a1 : Nat) (sz : Nat) (stripsV : (Nat → Int)) (startV : Int) (slopeV : Int) (setV : Int) (missesV : Int) (p1 : Int) (p2 : Int) (p3 : Int) (o : Int × Int × Int × Int) (hf : fX1_weigh (zk_S stripsV startV slopeV setV missesV) p1 p2 p3 = some o) : Met l yX1_weigh (zW yX1_weigh cX1_weigh 8 none) rmX1_weigh (va_Pc [.ref a0, .int (zI p1), .int (zI p2), .int (zI p3)] (zPre D cI cZ ((wS a0 a1 cI stripsV startV slopeV setV missesV)) sz)) (va_Qv (fun (_ : Unit) => True) (fun _ t => va_P D vwCl ((wS a0 a1 cI stripsV o.1 o.2.1 o.2.2.1 o.2.2.2)) t.heap) (va_A ((wS a0 a1 cI stripsV startV slopeV setV missesV)) sz)) 0 0 (va_A ((wS a0 a1 cI stripsV startV slopeV setV missesV)) sz) := by
  unfold fX1_weigh at hf
  refine z_enter_v (own := RX1) (by decide +kernel) rfl (Nat.le_of_ble_eq_true rfl) ?_
  intro p e s m args below meth c A Q C0 hP hD hS hret ls hl
  have hl : lv_has ls 8 [(0, .ref a0), (1, .int (zI p1)), (2, .int (zI p2)), (3, .int (zI p3))] := hl
  refine z_iconst C0 dX1_weigh_0 ?_
  refine z_istore C0 [(4, .int (zI 0)), (0, .ref a0), (1, .int (zI p1)), (2, .int (zI p2)), (3, .int (zI p3))] dX1_weigh_1 hl (by decide) rfl (fun ls hl => ?_)
  refine z_iconst C0 dX1_weigh_3 ?_
  refine z_istore C0 [(5, .int (zI 0)), (4, .int (zI 0)), (0, .ref a0), (1, .int (zI p1)), (2, .int (zI p2)), (3, .int (zI p3))] dX1_weigh_4 hl (by decide) rfl (fun ls hl => ?_)
  refine z_iconst C0 dX1_weigh_6 ?_
  refine z_istore C0 [(6, .int (zI 0)), (5, .int (zI 0)), (4, .int (zI 0)), (0, .ref a0), (1, .int (zI p1)), (2, .int (zI p2)), (3, .int (zI p3))] dX1_weigh_7 hl (by decide) rfl (fun ls hl => ?_)
  have L24 : ∀ (zn : Nat) (i5 : Int) (i6 : Int) (i7 : Int) (out : Int × Int), fX1_weigh_L9 zn (zk_S stripsV startV slopeV setV missesV) p1 p2 p3 i5 i6 i7 = some out → (∀ (H : Heap) (locs : List Loc), va_P D vwCl ((wS a0 a1 cI stripsV startV slopeV setV missesV)) H → va_S A s.heap H locs → ∀ ls : Array Slot, lv_has ls 8 [(0, .ref a0), (1, .int (zI p1)), (2, .int (zI p2)), (4, .int (zI out.1)), (5, .int (zI out.2))] → W p l e rmX1_weigh s m args below meth c H locs 0 0 Q (F0 m 81 ls [])) → ∀ (H : Heap) (locs : List Loc), va_P D vwCl ((wS a0 a1 cI stripsV startV slopeV setV missesV)) H → va_S A s.heap H locs → ∀ ls : Array Slot, lv_has ls 8 [(0, .ref a0), (1, .int (zI p1)), (2, .int (zI p2)), (3, .int (zI p3)), (4, .int (zI i5)), (5, .int (zI i6)), (6, .int (zI i7))] → W p l e rmX1_weigh s m args below meth c H locs 0 0 Q (F0 m 9 ls []) := by
    intro zn
    induction zn with
    | zero =>
      intro i5 i6 i7 out hf
      rw [fX1_weigh_L9_z] at hf
      cases hf
    | succ zn ih =>
      intro i5 i6 i7 out hf K H locs hP hS ls hl
      rw [fX1_weigh_L9_s] at hf
      refine z_iload C0 dX1_weigh_9 (lv_at hl 6 rfl) ?_
      refine z_bipush C0 dX1_weigh_11 (by decide +kernel) ?_
      refine z_icmpge C0 81 dX1_weigh_13 (by decide) (fun c23 => ?_) (fun c23 => ?_)
      · have hf := zif_pos hf c23
        cases hf
        exact K _ _ hP hS ls (lv_sub hl [0, 1, 2, 4, 5] rfl)
      · have hf := zif_neg hf c23
        refine z_aload_n C0 dX1_weigh_16 rfl (lv_at hl 0 rfl) ?_
        refine zgX1_9 C0 hP 0 rfl (.ref a1) rfl dX1_weigh_17 ?_
        refine z_iload C0 dX1_weigh_20 (lv_at hl 6 rfl) ?_
        obtain ⟨g13, hf⟩ := zg_some hf
        refine z_iald C0 hP 1 rfl (Nat.le_of_ble_eq_true rfl) g13 dX1_weigh_22 ?_
        refine z_bipush C0 dX1_weigh_23 (by decide +kernel) ?_
        obtain ⟨r14, hE22, hf⟩ := zbind hf
        have J15 : ∀ (H : Heap) (locs : List Loc), va_P D vwCl ((wS a0 a1 cI stripsV startV slopeV setV missesV)) H → va_S A s.heap H locs → ∀ ls : Array Slot, lv_has ls 8 [(0, .ref a0), (1, .int (zI p1)), (2, .int (zI p2)), (3, .int (zI p3)), (4, .int (zI r14.1)), (5, .int (zI r14.2)), (6, .int (zI i7))] → W p l e rmX1_weigh s m args below meth c H locs 0 0 Q (F0 m 75 ls []) := by
          intro H locs hP hS ls hl
          refine z_iinc C0 [(6, .int (zI (i7 + 1))), (0, .ref a0), (1, .int (zI p1)), (2, .int (zI p2)), (3, .int (zI p3)), (4, .int (zI r14.1)), (5, .int (zI r14.2))] dX1_weigh_75 hl 6 rfl (by decide) rfl (fun ls hl => ?_)
          refine z_goto C0 9 dX1_weigh_78 (by decide) ?_
          exact ih r14.1 r14.2 (i7 + 1) out hf K _ _ hP hS ls (lv_sub hl [1, 2, 3, 4, 5, 6, 0] rfl)
        have hf := hE22
        refine z_icmpne C0 31 dX1_weigh_25 (by decide) (fun c21 => ?_) (fun c21 => ?_)
        · have hf := zif_neg hf c21
          refine z_iload_n C0 dX1_weigh_31 rfl (lv_at hl 1 rfl) ?_
          refine z_iload_n C0 dX1_weigh_32 rfl (lv_at hl 2 rfl) ?_
          refine z_iload C0 dX1_weigh_33 (lv_at hl 6 rfl) ?_
          refine z_imul C0 dX1_weigh_35 ?_
          refine z_iadd C0 dX1_weigh_36 ?_
          refine z_aload_n C0 dX1_weigh_37 rfl (lv_at hl 0 rfl) ?_
          refine zgX1_9 C0 hP 0 rfl (.ref a1) rfl dX1_weigh_38 ?_
          refine z_iload C0 dX1_weigh_41 (lv_at hl 6 rfl) ?_
          obtain ⟨g16, hf⟩ := zg_some hf
          refine z_iald C0 hP 1 rfl (Nat.le_of_ble_eq_true rfl) g16 dX1_weigh_43 ?_
          refine z_isub C0 dX1_weigh_44 ?_
          refine z_abs C0 hl.1 zw28 zw29 zw30 zw31 (by decide) (Nat.le_of_ble_eq_true rfl) (Nat.zero_le _) (Nat.zero_le _) dX1_weigh_45 ?_
          obtain ⟨v17, hv17, hf⟩ := zl_some hf
          refine z_name hv17 ?_
          refine z_istore C0 [(7, .int (zI v17)), (0, .ref a0), (1, .int (zI p1)), (2, .int (zI p2)), (3, .int (zI p3)), (4, .int (zI i5)), (5, .int (zI i6)), (6, .int (zI i7))] dX1_weigh_48 hl (by decide) rfl (fun ls hl => ?_)
          refine z_iload C0 dX1_weigh_50 (lv_at hl 0 rfl) ?_
          refine z_iload_n C0 dX1_weigh_52 rfl (lv_at hl 4 rfl) ?_
          refine z_icmple C0 59 dX1_weigh_53 (by decide) (fun c20 => ?_) (fun c20 => ?_)
          · have hf := zif_pos hf c20
            refine z_iload C0 dX1_weigh_59 (lv_at hl 5 rfl) ?_
            refine z_iconst C0 dX1_weigh_61 ?_
            refine z_iload C0 dX1_weigh_62 (lv_at hl 7 rfl) ?_
            refine z_ishl C0 dX1_weigh_64 ?_
            refine z_ior C0 dX1_weigh_65 ?_
            obtain ⟨v18, hv18, hf⟩ := zl_some hf
            refine z_name hv18 ?_
            refine z_istore C0 [(4, .int (zI v18)), (7, .int (zI v17)), (0, .ref a0), (1, .int (zI p1)), (2, .int (zI p2)), (3, .int (zI p3)), (5, .int (zI i6)), (6, .int (zI i7))] dX1_weigh_66 hl (by decide) rfl (fun ls hl => ?_)
            refine z_iload C0 dX1_weigh_68 (lv_at hl 6 rfl) ?_
            refine z_iload C0 dX1_weigh_70 (lv_at hl 1 rfl) ?_
            refine z_iadd C0 dX1_weigh_72 ?_
            obtain ⟨v19, hv19, hf⟩ := zl_some hf
            refine z_name hv19 ?_
            refine z_istore C0 [(5, .int (zI v19)), (4, .int (zI v18)), (7, .int (zI v17)), (0, .ref a0), (1, .int (zI p1)), (2, .int (zI p2)), (3, .int (zI p3)), (6, .int (zI i7))] dX1_weigh_73 hl (by decide) rfl (fun ls hl => ?_)
            cases hf
            exact J15 _ _ hP hS ls (lv_sub hl [3, 4, 5, 6, 1, 0, 7] rfl)
          · have hf := zif_neg hf c20
            refine z_goto C0 75 dX1_weigh_56 (by decide) ?_
            cases hf
            exact J15 _ _ hP hS ls (lv_sub hl [1, 2, 3, 4, 5, 6, 7] rfl)
        · have hf := zif_pos hf c21
          refine z_goto C0 75 dX1_weigh_28 (by decide) ?_
          cases hf
          exact J15 _ _ hP hS ls (lv_sub hl [0, 1, 2, 3, 4, 5, 6] rfl)
  obtain ⟨r25, hE26, hf⟩ := zbind hf
  refine L24 _ 0 0 0 r25 hE26 ?_ _ _ hP hS ls (lv_sub hl [3, 4, 5, 6, 2, 1, 0] rfl)
  intro H locs hP hS ls hl
  refine z_iload C0 dX1_weigh_81 (lv_at hl 3 rfl) ?_
  obtain ⟨r27, hc28, hf⟩ := zbind hf
  refine z_callSi (rest := []) C0 hP (zD hD rfl) hS [] rfl (zmJ6_bitCount_0f7a4 l D cI cZ _ r25.1 r27 hc28) (zkX1_29 ⟨by decide, by decide⟩ C0.2.2.2.2.1) rfl rfl rfl hl.1 (Nat.le_of_ble_eq_true rfl) dX1_weigh_83 ⟨Nat.zero_le _, Nat.zero_le _⟩ rfl (Nat.le_of_ble_eq_true rfl) (fun H locs hP hS => ?_)
  have hP : va_P D vwCl ((wS a0 a1 cI stripsV startV slopeV setV missesV)) H := hP
  refine z_aload_n C0 dX1_weigh_86 rfl (lv_at hl 0 rfl) ?_
  refine zgX1_15 C0 hP 0 rfl (.int (zI setV)) rfl dX1_weigh_87 ?_
  obtain ⟨r29, hc30, hf⟩ := zbind hf
  refine z_callSi (rest := [.int (zI r27)]) C0 hP (zD hD rfl) hS [] rfl (zmJ6_bitCount_0f7a4 l D cI cZ _ setV r29 hc30) (zkX1_29 ⟨by decide, by decide⟩ C0.2.2.2.2.1) rfl rfl rfl hl.1 (Nat.le_of_ble_eq_true rfl) dX1_weigh_90 ⟨Nat.zero_le _, Nat.zero_le _⟩ rfl (Nat.le_of_ble_eq_true rfl) (fun H locs hP hS => ?_)
  have hP : va_P D vwCl ((wS a0 a1 cI stripsV startV slopeV setV missesV)) H := hP
  refine z_isub C0 dX1_weigh_93 ?_
  obtain ⟨v31, hv31, hf⟩ := zl_some hf
  refine z_name hv31 ?_
  refine z_istore C0 [(6, .int (zI v31)), (0, .ref a0), (1, .int (zI p1)), (2, .int (zI p2)), (4, .int (zI r25.1)), (5, .int (zI r25.2))] dX1_weigh_94 hl (by decide) rfl (fun ls hl => ?_)
  refine z_iload C0 dX1_weigh_96 (lv_at hl 0 rfl) ?_
  refine z_ifgt C0 115 dX1_weigh_98 (by decide) (fun c38 => ?_) (fun c38 => ?_)
  · have hf := zif_pos hf c38
    refine z_aload_n C0 dX1_weigh_115 rfl (lv_at hl 1 rfl) ?_
    refine z_iload_n C0 dX1_weigh_116 rfl (lv_at hl 2 rfl) ?_
    refine z_iload_n C0 dX1_weigh_117 rfl (lv_at hl 3 rfl) ?_
    refine z_iload C0 dX1_weigh_118 (lv_at hl 4 rfl) ?_
    refine z_iload C0 dX1_weigh_120 (lv_at hl 5 rfl) ?_
    obtain ⟨r32, hc33, hf⟩ := zbind hf
    refine z_callFv (rest := []) C0 hP (zD hD rfl) hS (zmX1_take l D cI cZ a0 a1 _ stripsV startV slopeV setV missesV p1 p2 r25.1 r25.2 r32 hc33) (zkX1_40 ⟨by decide, by decide⟩ C0.2.2.2.2.1) 1 rfl rfl rfl rfl hl.1 (Nat.le_of_ble_eq_true rfl) dX1_weigh_122 ⟨Nat.zero_le _, Nat.zero_le _⟩ (fun H locs hP hS => ?_)
    have hP : va_P D vwCl ((wS a0 a1 cI stripsV r32.1 r32.2.1 r32.2.2.1 r32.2.2.2)) H := hP
    cases hf
    exact hret hP hS dX1_weigh_125
  · have hf := zif_neg hf c38
    refine z_iload C0 dX1_weigh_101 (lv_at hl 0 rfl) ?_
    refine z_ifne C0 125 dX1_weigh_103 (by decide) (fun c37 => ?_) (fun c37 => ?_)
    · have hf := zif_neg hf c37
      cases hf
      exact hret hP hS dX1_weigh_125
    · have hf := zif_pos hf c37
      refine z_iload C0 dX1_weigh_106 (lv_at hl 5 rfl) ?_
      refine z_aload_n C0 dX1_weigh_108 rfl (lv_at hl 1 rfl) ?_
      refine zgX1_19 C0 hP 0 rfl (.int (zI missesV)) rfl dX1_weigh_109 ?_
      refine z_icmpge C0 125 dX1_weigh_112 (by decide) (fun c36 => ?_) (fun c36 => ?_)
      · have hf := zif_pos hf c36
        cases hf
        exact hret hP hS dX1_weigh_125
      · have hf := zif_neg hf c36
        refine z_aload_n C0 dX1_weigh_115 rfl (lv_at hl 1 rfl) ?_
        refine z_iload_n C0 dX1_weigh_116 rfl (lv_at hl 2 rfl) ?_
        refine z_iload_n C0 dX1_weigh_117 rfl (lv_at hl 3 rfl) ?_
        refine z_iload C0 dX1_weigh_118 (lv_at hl 4 rfl) ?_
        refine z_iload C0 dX1_weigh_120 (lv_at hl 5 rfl) ?_
        obtain ⟨r34, hc35, hf⟩ := zbind hf
        refine z_callFv (rest := []) C0 hP (zD hD rfl) hS (zmX1_take l D cI cZ a0 a1 _ stripsV startV slopeV setV missesV p1 p2 r25.1 r25.2 r34 hc35) (zkX1_40 ⟨by decide, by decide⟩ C0.2.2.2.2.1) 1 rfl rfl rfl rfl hl.1 (Nat.le_of_ble_eq_true rfl) dX1_weigh_122 ⟨Nat.zero_le _, Nat.zero_le _⟩ (fun H locs hP hS => ?_)
        have hP : va_P D vwCl ((wS a0 a1 cI stripsV r34.1 r34.2.1 r34.2.2.1 r34.2.2.2)) H := hP
        cases hf
        exact hret hP hS dX1_weigh_125
set_option maxHeartbeats 4000000 in
set_option maxRecDepth 100000 in
theorem zmX1_run (l : Launch) (D : va_G) (cI cZ : ClassId) (a0 : Nat) (a1 : Nat) (sz : Nat) (stripsV : (Nat → Int)) (startV : Int) (slopeV : Int) (setV : Int) (missesV : Int) (p1 : Int) (p2 : Int) (o : Int × Int × Int × Int) (hf : fX1_run (zk_S stripsV startV slopeV setV missesV) p1 p2 = some o) : Met l yX1_run (zW yX1_run cX1_run 8 none) rmX1_run (va_Pc [.ref a0, .int (zI p1), .int (zI p2)] (zPreS D cI cZ ((wS a0 a1 cI stripsV startV slopeV setV missesV)) sz)) (va_Qv (fun (_ : Unit) => True) (fun _ t => va_P D vwCl ((wS a0 a1 cI stripsV o.1 o.2.1 o.2.2.1 o.2.2.2)) t.heap) (va_A ((wS a0 a1 cI stripsV startV slopeV setV missesV)) sz)) 0 0 (va_A ((wS a0 a1 cI stripsV startV slopeV setV missesV)) sz) := by
  unfold fX1_run at hf
  refine z_enterS_v (own := RX1) (by decide +kernel) rfl (Nat.le_of_ble_eq_true rfl) ?_
  intro p e s m args below meth c A Q C0 hP hD hS hZ hret ls hl
  have hl : lv_has ls 8 [(0, .ref a0), (1, .int (zI p1)), (2, .int (zI p2))] := hl
  refine z_aload_n C0 dX1_run_0 rfl (lv_at hl 0 rfl) ?_
  refine z_iconst C0 dX1_run_1 ?_
  refine zpX1_15 C0 hP (zD hD rfl) hS 0 rfl (Nat.le_of_ble_eq_true rfl) dX1_run_2 (fun H locs hP hS => ?_)
  have hP : va_P D vwCl ((wS a0 a1 cI stripsV startV slopeV 0 missesV)) H := hP
  refine z_aload_n C0 dX1_run_5 rfl (lv_at hl 0 rfl) ?_
  refine z_iconst C0 dX1_run_6 ?_
  refine zpX1_19 C0 hP (zD hD rfl) hS 0 rfl (Nat.le_of_ble_eq_true rfl) dX1_run_7 (fun H locs hP hS => ?_)
  have hP : va_P D vwCl ((wS a0 a1 cI stripsV startV slopeV 0 0)) H := hP
  obtain ⟨t1, hZt1, hTt1⟩ := hZ.1
  refine z_gets C0 hZt1 hS zw41 dX1_run_10 ?_
  refine z_astore_n C0 [(3, .ref t1), (0, .ref a0), (1, .int (zI p1)), (2, .int (zI p2))] dX1_run_13 rfl hl (by decide) rfl (fun ls hl => ?_)
  refine z_aload_n C0 dX1_run_14 rfl (lv_at hl 0 rfl) ?_
  refine z_tlen C0 hTt1 hS dX1_run_15 ?_
  refine z_istore C0 [(4, .int (zI 7)), (3, .ref t1), (0, .ref a0), (1, .int (zI p1)), (2, .int (zI p2))] dX1_run_16 hl (by decide) rfl (fun ls hl => ?_)
  refine z_iconst C0 dX1_run_18 ?_
  refine z_istore C0 [(5, .int (zI 0)), (4, .int (zI 7)), (3, .ref t1), (0, .ref a0), (1, .int (zI p1)), (2, .int (zI p2))] dX1_run_19 hl (by decide) rfl (fun ls hl => ?_)
  have L35 : ∀ (zn : Nat) (i7 : Int) (k9 : Int) (k10 : Int) (k11 : Int) (k12 : Int) (out : Int × Int × Int × Int), fX1_run_L21 zn (zk_S stripsV startV slopeV setV missesV) p1 p2 i7 k9 k10 k11 k12 = some out → (∀ (H : Heap) (locs : List Loc), va_P D vwCl ((wS a0 a1 cI stripsV out.1 out.2.1 out.2.2.1 out.2.2.2)) H → va_S A s.heap H locs → ∀ ls : Array Slot, lv_has ls 8 [(0, .ref a0), (2, .int (zI p2))] → W p l e rmX1_run s m args below meth c H locs 0 0 Q (F0 m 65 ls [])) → ∀ (H : Heap) (locs : List Loc), va_P D vwCl ((wS a0 a1 cI stripsV k9 k10 k11 k12)) H → va_S A s.heap H locs → ∀ ls : Array Slot, lv_has ls 8 [(0, .ref a0), (1, .int (zI p1)), (2, .int (zI p2)), (3, .ref t1), (4, .int (zI 7)), (5, .int (zI i7))] → W p l e rmX1_run s m args below meth c H locs 0 0 Q (F0 m 21 ls []) := by
    intro zn
    induction zn with
    | zero =>
      intro i7 k9 k10 k11 k12 out hf
      rw [fX1_run_L21_z] at hf
      cases hf
    | succ zn ih =>
      intro i7 k9 k10 k11 k12 out hf K H locs hP hS ls hl
      rw [fX1_run_L21_s] at hf
      refine z_iload C0 dX1_run_21 (lv_at hl 5 rfl) ?_
      refine z_iload C0 dX1_run_23 (lv_at hl 4 rfl) ?_
      refine z_icmpge C0 65 dX1_run_25 (by decide) (fun c34 => ?_) (fun c34 => ?_)
      · have hf := zif_pos hf c34
        cases hf
        exact K _ _ hP hS ls (lv_sub hl [0, 2] rfl)
      · have hf := zif_neg hf c34
        refine z_aload_n C0 dX1_run_28 rfl (lv_at hl 3 rfl) ?_
        refine z_iload C0 dX1_run_29 (lv_at hl 5 rfl) ?_
        obtain ⟨g13, hf⟩ := zg_some hf
        refine z_tald C0 (f := zS0) hTt1 hS (Nat.le_of_ble_eq_true rfl) g13 dX1_run_31 ?_
        obtain ⟨v14, hv14, hf⟩ := zl_some hf
        refine z_name hv14 ?_
        refine z_istore C0 [(6, .int (zI v14)), (0, .ref a0), (1, .int (zI p1)), (2, .int (zI p2)), (3, .ref t1), (4, .int (zI 7)), (5, .int (zI i7))] dX1_run_32 hl (by decide) rfl (fun ls hl => ?_)
        refine z_iconst C0 dX1_run_34 ?_
        refine z_istore C0 [(7, .int (zI 0)), (6, .int (zI v14)), (0, .ref a0), (1, .int (zI p1)), (2, .int (zI p2)), (3, .ref t1), (4, .int (zI 7)), (5, .int (zI i7))] dX1_run_35 hl (by decide) rfl (fun ls hl => ?_)
        have L31 : ∀ (zn : Nat) (i22 : Int) (k24 : Int) (k25 : Int) (k26 : Int) (k27 : Int) (out : Int × Int × Int × Int), fX1_run_L37 zn (zk_S stripsV startV slopeV setV missesV) p1 p2 i7 v14 i22 k24 k25 k26 k27 = some out → (∀ (H : Heap) (locs : List Loc), va_P D vwCl ((wS a0 a1 cI stripsV out.1 out.2.1 out.2.2.1 out.2.2.2)) H → va_S A s.heap H locs → ∀ ls : Array Slot, lv_has ls 8 [(0, .ref a0), (1, .int (zI p1)), (2, .int (zI p2)), (3, .ref t1), (4, .int (zI 7)), (5, .int (zI i7))] → W p l e rmX1_run s m args below meth c H locs 0 0 Q (F0 m 59 ls [])) → ∀ (H : Heap) (locs : List Loc), va_P D vwCl ((wS a0 a1 cI stripsV k24 k25 k26 k27)) H → va_S A s.heap H locs → ∀ ls : Array Slot, lv_has ls 8 [(0, .ref a0), (1, .int (zI p1)), (2, .int (zI p2)), (3, .ref t1), (4, .int (zI 7)), (5, .int (zI i7)), (6, .int (zI v14)), (7, .int (zI i22))] → W p l e rmX1_run s m args below meth c H locs 0 0 Q (F0 m 37 ls []) := by
          intro zn
          induction zn with
          | zero =>
            intro i22 k24 k25 k26 k27 out hf
            rw [fX1_run_L37_z] at hf
            cases hf
          | succ zn ih =>
            intro i22 k24 k25 k26 k27 out hf K H locs hP hS ls hl
            rw [fX1_run_L37_s] at hf
            refine z_iload C0 dX1_run_37 (lv_at hl 7 rfl) ?_
            refine z_bipush C0 dX1_run_39 (by decide +kernel) ?_
            refine z_icmpge C0 59 dX1_run_41 (by decide) (fun c30 => ?_) (fun c30 => ?_)
            · have hf := zif_pos hf c30
              cases hf
              exact K _ _ hP hS ls (lv_sub hl [0, 1, 2, 3, 4, 5] rfl)
            · have hf := zif_neg hf c30
              refine z_aload_n C0 dX1_run_44 rfl (lv_at hl 0 rfl) ?_
              refine z_iload C0 dX1_run_45 (lv_at hl 7 rfl) ?_
              refine z_iload C0 dX1_run_47 (lv_at hl 6 rfl) ?_
              refine z_iload_n C0 dX1_run_49 rfl (lv_at hl 1 rfl) ?_
              obtain ⟨r28, hc29, hf⟩ := zbind hf
              refine z_callFv (rest := []) C0 hP (zD hD rfl) hS (zmX1_weigh l D cI cZ a0 a1 _ stripsV k24 k25 k26 k27 i22 v14 p1 r28 hc29) (zkX1_25 ⟨by decide, by decide⟩ C0.2.2.2.2.1) 1 rfl rfl rfl rfl hl.1 (Nat.le_of_ble_eq_true rfl) dX1_run_50 ⟨Nat.zero_le _, Nat.zero_le _⟩ (fun H locs hP hS => ?_)
              have hP : va_P D vwCl ((wS a0 a1 cI stripsV r28.1 r28.2.1 r28.2.2.1 r28.2.2.2)) H := hP
              refine z_iinc C0 [(7, .int (zI (i22 + 1))), (0, .ref a0), (1, .int (zI p1)), (2, .int (zI p2)), (3, .ref t1), (4, .int (zI 7)), (5, .int (zI i7)), (6, .int (zI v14))] dX1_run_53 hl 7 rfl (by decide) rfl (fun ls hl => ?_)
              refine z_goto C0 37 dX1_run_56 (by decide) ?_
              exact ih (i22 + 1) r28.1 r28.2.1 r28.2.2.1 r28.2.2.2 out hf K _ _ hP hS ls (lv_sub hl [1, 2, 3, 4, 5, 6, 7, 0] rfl)
        obtain ⟨r32, hE33, hf⟩ := zbind hf
        refine L31 _ 0 k9 k10 k11 k12 r32 hE33 ?_ _ _ hP hS ls (lv_sub hl [2, 3, 4, 5, 6, 7, 1, 0] rfl)
        intro H locs hP hS ls hl
        refine z_iinc C0 [(5, .int (zI (i7 + 1))), (0, .ref a0), (1, .int (zI p1)), (2, .int (zI p2)), (3, .ref t1), (4, .int (zI 7))] dX1_run_59 hl 5 rfl (by decide) rfl (fun ls hl => ?_)
        refine z_goto C0 21 dX1_run_62 (by decide) ?_
        exact ih (i7 + 1) r32.1 r32.2.1 r32.2.2.1 r32.2.2.2 out hf K _ _ hP hS ls (lv_sub hl [1, 2, 3, 4, 5, 0] rfl)
  obtain ⟨r36, hE37, hf⟩ := zbind hf
  refine L35 _ 0 startV slopeV 0 0 r36 hE37 ?_ _ _ hP hS ls (lv_sub hl [3, 4, 5, 2, 1, 0] rfl)
  intro H locs hP hS ls hl
  refine z_aload_n C0 dX1_run_65 rfl (lv_at hl 0 rfl) ?_
  refine zgX1_15 C0 hP 0 rfl (.int (zI r36.2.2.1)) rfl dX1_run_66 ?_
  obtain ⟨r38, hc39, hf⟩ := zbind hf
  refine z_callSi (rest := []) C0 hP (zD hD rfl) hS [] rfl (zmJ6_bitCount_0f7a4 l D cI cZ _ r36.2.2.1 r38 hc39) (zkX1_29 ⟨by decide, by decide⟩ C0.2.2.2.2.1) rfl rfl rfl hl.1 (Nat.le_of_ble_eq_true rfl) dX1_run_69 ⟨Nat.zero_le _, Nat.zero_le _⟩ rfl (Nat.le_of_ble_eq_true rfl) (fun H locs hP hS => ?_)
  have hP : va_P D vwCl ((wS a0 a1 cI stripsV r36.1 r36.2.1 r36.2.2.1 r36.2.2.2)) H := hP
  refine z_iload_n C0 dX1_run_72 rfl (lv_at hl 1 rfl) ?_
  refine z_icmpge C0 81 dX1_run_73 (by decide) (fun c40 => ?_) (fun c40 => ?_)
  · have hf := zif_pos hf c40
    cases hf
    exact hret hP hS dX1_run_81
  · have hf := zif_neg hf c40
    refine z_aload_n C0 dX1_run_76 rfl (lv_at hl 0 rfl) ?_
    refine z_iconst C0 dX1_run_77 ?_
    refine zpX1_15 C0 hP (zD hD rfl) hS 0 rfl (Nat.le_of_ble_eq_true rfl) dX1_run_78 (fun H locs hP hS => ?_)
    have hP : va_P D vwCl ((wS a0 a1 cI stripsV r36.1 r36.2.1 0 r36.2.2.2)) H := hP
    cases hf
    exact hret hP hS dX1_run_81
