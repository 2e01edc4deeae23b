set_option maxHeartbeats 4000000 in
set_option maxRecDepth 100000 in
theorem zmL_sameGroup (l : Launch) (D : va_G) (cI cZ : ClassId) (h : Nat → Nat) (h2 : Nat → Nat) (sz : Nat) (t : zXT) (t2 : zXT) (p2 : Int) (o : Int) (hf : fL_sameGroup t t2 p2 = some o) : Met l yL_sameGroup (zW yL_sameGroup cL_sameGroup 4 (some .boolean)) rmL_sameGroup (va_Pc [.ref (h 0), .ref (h2 0), .int (zI p2)] (zPre D cI cZ ((wX h cI (zx_lag t) (zx_dead t) (zx_manner t) (zx_setting t) (zx_keptRow t) (zx_liveRow t) (zx_shiftedRow t) (zx_groups t) (zx_search t) (zx_deadUntil t) (zx_settled t) (zx_known t) (zx_tooLate t) (zx_ended t)) ++ (wX h2 cI (zx_lag t2) (zx_dead t2) (zx_manner t2) (zx_setting t2) (zx_keptRow t2) (zx_liveRow t2) (zx_shiftedRow t2) (zx_groups t2) (zx_search t2) (zx_deadUntil t2) (zx_settled t2) (zx_known t2) (zx_tooLate t2) (zx_ended t2))) sz)) (va_Qi (fun r' (_ : Unit) => r' = zI o) (fun _ tq => va_P D vwCl ((wX h cI (zx_lag t) (zx_dead t) (zx_manner t) (zx_setting t) (zx_keptRow t) (zx_liveRow t) (zx_shiftedRow t) (zx_groups t) (zx_search t) (zx_deadUntil t) (zx_settled t) (zx_known t) (zx_tooLate t) (zx_ended t)) ++ (wX h2 cI (zx_lag t2) (zx_dead t2) (zx_manner t2) (zx_setting t2) (zx_keptRow t2) (zx_liveRow t2) (zx_shiftedRow t2) (zx_groups t2) (zx_search t2) (zx_deadUntil t2) (zx_settled t2) (zx_known t2) (zx_tooLate t2) (zx_ended t2))) tq.heap) (va_A ((wX h cI (zx_lag t) (zx_dead t) (zx_manner t) (zx_setting t) (zx_keptRow t) (zx_liveRow t) (zx_shiftedRow t) (zx_groups t) (zx_search t) (zx_deadUntil t) (zx_settled t) (zx_known t) (zx_tooLate t) (zx_ended t)) ++ (wX h2 cI (zx_lag t2) (zx_dead t2) (zx_manner t2) (zx_setting t2) (zx_keptRow t2) (zx_liveRow t2) (zx_shiftedRow t2) (zx_groups t2) (zx_search t2) (zx_deadUntil t2) (zx_settled t2) (zx_known t2) (zx_tooLate t2) (zx_ended t2))) sz)) 0 0 (va_A ((wX h cI (zx_lag t) (zx_dead t) (zx_manner t) (zx_setting t) (zx_keptRow t) (zx_liveRow t) (zx_shiftedRow t) (zx_groups t) (zx_search t) (zx_deadUntil t) (zx_settled t) (zx_known t) (zx_tooLate t) (zx_ended t)) ++ (wX h2 cI (zx_lag t2) (zx_dead t2) (zx_manner t2) (zx_setting t2) (zx_keptRow t2) (zx_liveRow t2) (zx_shiftedRow t2) (zx_groups t2) (zx_search t2) (zx_deadUntil t2) (zx_settled t2) (zx_known t2) (zx_tooLate t2) (zx_ended t2))) sz) := by
  unfold fL_sameGroup at hf
  refine z_enter_z (own := RL) (by decide +kernel) rfl (Nat.le_of_ble_eq_true rfl) ?_
  intro p e s m args below meth c A Q C0 hP hD hS hret ls hl
  have hl : lv_has ls 4 [(0, .ref (h 0)), (1, .ref (h2 0)), (2, .int (zI p2))] := hl
  refine z_iconst C0 dL_sameGroup_0 ?_
  refine z_istore_n C0 [(3, .int (zI 0)), (0, .ref (h 0)), (1, .ref (h2 0)), (2, .int (zI p2))] dL_sameGroup_1 rfl hl (by decide) rfl (fun ls hl => ?_)
  have L18 : ∀ (zn : Nat) (i4 : Int) (out : Unit), fL_sameGroup_L2 zn t t2 p2 i4 = some out → (∀ (H : Heap) (locs : List Loc), va_P D vwCl ((wX h cI (zx_lag t) (zx_dead t) (zx_manner t) (zx_setting t) (zx_keptRow t) (zx_liveRow t) (zx_shiftedRow t) (zx_groups t) (zx_search t) (zx_deadUntil t) (zx_settled t) (zx_known t) (zx_tooLate t) (zx_ended t)) ++ (wX h2 cI (zx_lag t2) (zx_dead t2) (zx_manner t2) (zx_setting t2) (zx_keptRow t2) (zx_liveRow t2) (zx_shiftedRow t2) (zx_groups t2) (zx_search t2) (zx_deadUntil t2) (zx_settled t2) (zx_known t2) (zx_tooLate t2) (zx_ended t2))) H → va_S A s.heap H locs → ∀ ls : Array Slot, lv_has ls 4 [(0, .ref (h 0)), (1, .ref (h2 0)), (2, .int (zI p2))] → W p l e rmL_sameGroup s m args below meth c H locs 0 0 Q (F0 m 45 ls [])) → ∀ (H : Heap) (locs : List Loc), va_P D vwCl ((wX h cI (zx_lag t) (zx_dead t) (zx_manner t) (zx_setting t) (zx_keptRow t) (zx_liveRow t) (zx_shiftedRow t) (zx_groups t) (zx_search t) (zx_deadUntil t) (zx_settled t) (zx_known t) (zx_tooLate t) (zx_ended t)) ++ (wX h2 cI (zx_lag t2) (zx_dead t2) (zx_manner t2) (zx_setting t2) (zx_keptRow t2) (zx_liveRow t2) (zx_shiftedRow t2) (zx_groups t2) (zx_search t2) (zx_deadUntil t2) (zx_settled t2) (zx_known t2) (zx_tooLate t2) (zx_ended t2))) H → va_S A s.heap H locs → ∀ ls : Array Slot, lv_has ls 4 [(0, .ref (h 0)), (1, .ref (h2 0)), (2, .int (zI p2)), (3, .int (zI i4))] → W p l e rmL_sameGroup s m args below meth c H locs 0 0 Q (F0 m 2 ls []) := by
    intro zn
    induction zn with
    | zero =>
      intro i4 out hf
      rw [fL_sameGroup_L2_z] at hf
      cases hf
    | succ zn ih =>
      intro i4 out hf K H locs hP hS ls hl
      rw [fL_sameGroup_L2_s] at hf
      refine z_iload_n C0 dL_sameGroup_2 rfl (lv_at hl 3 rfl) ?_
      refine z_iconst C0 dL_sameGroup_3 ?_
      refine z_icmpge C0 45 dL_sameGroup_4 (by decide) (fun c17 => ?_) (fun c17 => ?_)
      · have hf := zif_pos hf c17
        cases hf
        exact K _ _ hP hS ls (lv_sub hl [0, 1, 2] rfl)
      · have hf := zif_neg hf c17
        refine z_aload_n C0 dL_sameGroup_7 rfl (lv_at hl 0 rfl) ?_
        refine z_iload_n C0 dL_sameGroup_8 rfl (lv_at hl 2 rfl) ?_
        refine z_iload_n C0 dL_sameGroup_9 rfl (lv_at hl 3 rfl) ?_
        obtain ⟨r7, hc8, hf⟩ := zbind hf
        refine z_qVi (rest := []) C0 (zc20 hP) (zd20 (zD hD rfl)) hS (zmX3_group l D cI cZ h _ (zx_lag t) (zx_dead t) (zx_manner t) (zx_setting t) (zx_keptRow t) (zx_liveRow t) (zx_shiftedRow t) (zx_groups t) (zx_search t) (zx_deadUntil t) (zx_settled t) (zx_known t) (zx_tooLate t) (zx_ended t) p2 i4 r7 hc8) (zkL_28 ⟨by decide, by decide⟩ C0.2.2.2.2.1) 3 rfl rfl rfl rfl hl.1 (Nat.le_of_ble_eq_true rfl) dL_sameGroup_10 ⟨Nat.zero_le _, Nat.zero_le _⟩ (fun H locs hP hS => ?_)
        have hP : va_P D vwCl ((wX h cI (zx_lag t) (zx_dead t) (zx_manner t) (zx_setting t) (zx_keptRow t) (zx_liveRow t) (zx_shiftedRow t) (zx_groups t) (zx_search t) (zx_deadUntil t) (zx_settled t) (zx_known t) (zx_tooLate t) (zx_ended t)) ++ (wX h2 cI (zx_lag t2) (zx_dead t2) (zx_manner t2) (zx_setting t2) (zx_keptRow t2) (zx_liveRow t2) (zx_shiftedRow t2) (zx_groups t2) (zx_search t2) (zx_deadUntil t2) (zx_settled t2) (zx_known t2) (zx_tooLate t2) (zx_ended t2))) H := zb20 hP
        refine z_aload_n C0 dL_sameGroup_13 rfl (lv_at hl 1 rfl) ?_
        refine z_iload_n C0 dL_sameGroup_14 rfl (lv_at hl 2 rfl) ?_
        refine z_iload_n C0 dL_sameGroup_15 rfl (lv_at hl 3 rfl) ?_
        obtain ⟨r9, hc10, hf⟩ := zbind hf
        refine z_qVi (rest := [.int (zI r7)]) C0 (zc21 hP) (zd21 (zD hD rfl)) hS (zmX3_group l D cI cZ h2 _ (zx_lag t2) (zx_dead t2) (zx_manner t2) (zx_setting t2) (zx_keptRow t2) (zx_liveRow t2) (zx_shiftedRow t2) (zx_groups t2) (zx_search t2) (zx_deadUntil t2) (zx_settled t2) (zx_known t2) (zx_tooLate t2) (zx_ended t2) p2 i4 r9 hc10) (zkL_28 ⟨by decide, by decide⟩ C0.2.2.2.2.1) 3 rfl rfl rfl rfl hl.1 (Nat.le_of_ble_eq_true rfl) dL_sameGroup_16 ⟨Nat.zero_le _, Nat.zero_le _⟩ (fun H locs hP hS => ?_)
        have hP : va_P D vwCl ((wX h cI (zx_lag t) (zx_dead t) (zx_manner t) (zx_setting t) (zx_keptRow t) (zx_liveRow t) (zx_shiftedRow t) (zx_groups t) (zx_search t) (zx_deadUntil t) (zx_settled t) (zx_known t) (zx_tooLate t) (zx_ended t)) ++ (wX h2 cI (zx_lag t2) (zx_dead t2) (zx_manner t2) (zx_setting t2) (zx_keptRow t2) (zx_liveRow t2) (zx_shiftedRow t2) (zx_groups t2) (zx_search t2) (zx_deadUntil t2) (zx_settled t2) (zx_known t2) (zx_tooLate t2) (zx_ended t2))) H := zb21 hP
        refine z_icmpne C0 37 dL_sameGroup_19 (by decide) (fun c16 => ?_) (fun c16 => ?_)
        · have hf := zif_neg hf c16
          refine z_iconst C0 dL_sameGroup_37 ?_
          cases hf
        · have hf := zif_pos hf c16
          refine z_aload_n C0 dL_sameGroup_22 rfl (lv_at hl 0 rfl) ?_
          refine z_iload_n C0 dL_sameGroup_23 rfl (lv_at hl 2 rfl) ?_
          refine z_iload_n C0 dL_sameGroup_24 rfl (lv_at hl 3 rfl) ?_
          obtain ⟨r11, hc12, hf⟩ := zbind hf
          refine z_qVi (rest := []) C0 (zc20 hP) (zd20 (zD hD rfl)) hS (zmX3_track l D cI cZ h _ (zx_lag t) (zx_dead t) (zx_manner t) (zx_setting t) (zx_keptRow t) (zx_liveRow t) (zx_shiftedRow t) (zx_groups t) (zx_search t) (zx_deadUntil t) (zx_settled t) (zx_known t) (zx_tooLate t) (zx_ended t) p2 i4 r11 hc12) (zkL_31 ⟨by decide, by decide⟩ C0.2.2.2.2.1) 3 rfl rfl rfl rfl hl.1 (Nat.le_of_ble_eq_true rfl) dL_sameGroup_25 ⟨Nat.zero_le _, Nat.zero_le _⟩ (fun H locs hP hS => ?_)
          have hP : va_P D vwCl ((wX h cI (zx_lag t) (zx_dead t) (zx_manner t) (zx_setting t) (zx_keptRow t) (zx_liveRow t) (zx_shiftedRow t) (zx_groups t) (zx_search t) (zx_deadUntil t) (zx_settled t) (zx_known t) (zx_tooLate t) (zx_ended t)) ++ (wX h2 cI (zx_lag t2) (zx_dead t2) (zx_manner t2) (zx_setting t2) (zx_keptRow t2) (zx_liveRow t2) (zx_shiftedRow t2) (zx_groups t2) (zx_search t2) (zx_deadUntil t2) (zx_settled t2) (zx_known t2) (zx_tooLate t2) (zx_ended t2))) H := zb20 hP
          refine z_aload_n C0 dL_sameGroup_28 rfl (lv_at hl 1 rfl) ?_
          refine z_iload_n C0 dL_sameGroup_29 rfl (lv_at hl 2 rfl) ?_
          refine z_iload_n C0 dL_sameGroup_30 rfl (lv_at hl 3 rfl) ?_
          obtain ⟨r13, hc14, hf⟩ := zbind hf
          refine z_qVi (rest := [.int (zI r11)]) C0 (zc21 hP) (zd21 (zD hD rfl)) hS (zmX3_track l D cI cZ h2 _ (zx_lag t2) (zx_dead t2) (zx_manner t2) (zx_setting t2) (zx_keptRow t2) (zx_liveRow t2) (zx_shiftedRow t2) (zx_groups t2) (zx_search t2) (zx_deadUntil t2) (zx_settled t2) (zx_known t2) (zx_tooLate t2) (zx_ended t2) p2 i4 r13 hc14) (zkL_31 ⟨by decide, by decide⟩ C0.2.2.2.2.1) 3 rfl rfl rfl rfl hl.1 (Nat.le_of_ble_eq_true rfl) dL_sameGroup_31 ⟨Nat.zero_le _, Nat.zero_le _⟩ (fun H locs hP hS => ?_)
          have hP : va_P D vwCl ((wX h cI (zx_lag t) (zx_dead t) (zx_manner t) (zx_setting t) (zx_keptRow t) (zx_liveRow t) (zx_shiftedRow t) (zx_groups t) (zx_search t) (zx_deadUntil t) (zx_settled t) (zx_known t) (zx_tooLate t) (zx_ended t)) ++ (wX h2 cI (zx_lag t2) (zx_dead t2) (zx_manner t2) (zx_setting t2) (zx_keptRow t2) (zx_liveRow t2) (zx_shiftedRow t2) (zx_groups t2) (zx_search t2) (zx_deadUntil t2) (zx_settled t2) (zx_known t2) (zx_tooLate t2) (zx_ended t2))) H := zb21 hP
          refine z_icmpeq C0 39 dL_sameGroup_34 (by decide) (fun c15 => ?_) (fun c15 => ?_)
          · have hf := zif_pos hf c15
            refine z_iinc C0 [(3, .int (zI (i4 + 1))), (0, .ref (h 0)), (1, .ref (h2 0)), (2, .int (zI p2))] dL_sameGroup_39 hl 3 rfl (by decide) rfl (fun ls hl => ?_)
            refine z_goto C0 2 dL_sameGroup_42 (by decide) ?_
            exact ih (i4 + 1) out hf K _ _ hP hS ls (lv_sub hl [1, 2, 3, 0] rfl)
          · have hf := zif_neg hf c15
            refine z_iconst C0 dL_sameGroup_37 ?_
            cases hf
  obtain ⟨r19, hE20, hf⟩ := zbind hf
  refine L18 _ 0 r19 hE20 ?_ _ _ hP hS ls (lv_sub hl [1, 2, 3, 0] rfl)
  intro H locs hP hS ls hl
  refine z_iconst C0 dL_sameGroup_45 ?_
  refine z_istore_n C0 [(3, .int (zI 0)), (0, .ref (h 0)), (1, .ref (h2 0)), (2, .int (zI p2))] dL_sameGroup_46 rfl hl (by decide) rfl (fun ls hl => ?_)
  have L38 : ∀ (zn : Nat) (i24 : Int) (out : Unit), fL_sameGroup_L47 zn t t2 p2 i24 = some out → (∀ (H : Heap) (locs : List Loc), va_P D vwCl ((wX h cI (zx_lag t) (zx_dead t) (zx_manner t) (zx_setting t) (zx_keptRow t) (zx_liveRow t) (zx_shiftedRow t) (zx_groups t) (zx_search t) (zx_deadUntil t) (zx_settled t) (zx_known t) (zx_tooLate t) (zx_ended t)) ++ (wX h2 cI (zx_lag t2) (zx_dead t2) (zx_manner t2) (zx_setting t2) (zx_keptRow t2) (zx_liveRow t2) (zx_shiftedRow t2) (zx_groups t2) (zx_search t2) (zx_deadUntil t2) (zx_settled t2) (zx_known t2) (zx_tooLate t2) (zx_ended t2))) H → va_S A s.heap H locs → ∀ ls : Array Slot, lv_has ls 4 [(0, .ref (h 0)), (2, .int (zI p2))] → W p l e rmL_sameGroup s m args below meth c H locs 0 0 Q (F0 m 95 ls [])) → ∀ (H : Heap) (locs : List Loc), va_P D vwCl ((wX h cI (zx_lag t) (zx_dead t) (zx_manner t) (zx_setting t) (zx_keptRow t) (zx_liveRow t) (zx_shiftedRow t) (zx_groups t) (zx_search t) (zx_deadUntil t) (zx_settled t) (zx_known t) (zx_tooLate t) (zx_ended t)) ++ (wX h2 cI (zx_lag t2) (zx_dead t2) (zx_manner t2) (zx_setting t2) (zx_keptRow t2) (zx_liveRow t2) (zx_shiftedRow t2) (zx_groups t2) (zx_search t2) (zx_deadUntil t2) (zx_settled t2) (zx_known t2) (zx_tooLate t2) (zx_ended t2))) H → va_S A s.heap H locs → ∀ ls : Array Slot, lv_has ls 4 [(0, .ref (h 0)), (1, .ref (h2 0)), (2, .int (zI p2)), (3, .int (zI i24))] → W p l e rmL_sameGroup s m args below meth c H locs 0 0 Q (F0 m 47 ls []) := by
    intro zn
    induction zn with
    | zero =>
      intro i24 out hf
      rw [fL_sameGroup_L47_z] at hf
      cases hf
    | succ zn ih =>
      intro i24 out hf K H locs hP hS ls hl
      rw [fL_sameGroup_L47_s] at hf
      refine z_iload_n C0 dL_sameGroup_47 rfl (lv_at hl 3 rfl) ?_
      refine z_bipush C0 dL_sameGroup_48 (by decide +kernel) ?_
      refine z_icmpge C0 95 dL_sameGroup_50 (by decide) (fun c37 => ?_) (fun c37 => ?_)
      · have hf := zif_pos hf c37
        cases hf
        exact K _ _ hP hS ls (lv_sub hl [0, 2] rfl)
      · have hf := zif_neg hf c37
        refine z_aload_n C0 dL_sameGroup_53 rfl (lv_at hl 0 rfl) ?_
        refine z_iload_n C0 dL_sameGroup_54 rfl (lv_at hl 2 rfl) ?_
        refine z_iload_n C0 dL_sameGroup_55 rfl (lv_at hl 3 rfl) ?_
        refine z_iconst C0 dL_sameGroup_56 ?_
        obtain ⟨r27, hc28, hf⟩ := zbind hf
        refine z_qVi (rest := []) C0 (zc20 hP) (zd20 (zD hD rfl)) hS (zmX3_member l D cI cZ h _ (zx_lag t) (zx_dead t) (zx_manner t) (zx_setting t) (zx_keptRow t) (zx_liveRow t) (zx_shiftedRow t) (zx_groups t) (zx_search t) (zx_deadUntil t) (zx_settled t) (zx_known t) (zx_tooLate t) (zx_ended t) p2 i24 0 r27 hc28) (zkL_34 ⟨by decide, by decide⟩ C0.2.2.2.2.1) 3 rfl rfl rfl rfl hl.1 (Nat.le_of_ble_eq_true rfl) dL_sameGroup_57 ⟨Nat.zero_le _, Nat.zero_le _⟩ (fun H locs hP hS => ?_)
        have hP : va_P D vwCl ((wX h cI (zx_lag t) (zx_dead t) (zx_manner t) (zx_setting t) (zx_keptRow t) (zx_liveRow t) (zx_shiftedRow t) (zx_groups t) (zx_search t) (zx_deadUntil t) (zx_settled t) (zx_known t) (zx_tooLate t) (zx_ended t)) ++ (wX h2 cI (zx_lag t2) (zx_dead t2) (zx_manner t2) (zx_setting t2) (zx_keptRow t2) (zx_liveRow t2) (zx_shiftedRow t2) (zx_groups t2) (zx_search t2) (zx_deadUntil t2) (zx_settled t2) (zx_known t2) (zx_tooLate t2) (zx_ended t2))) H := zb20 hP
        refine z_aload_n C0 dL_sameGroup_60 rfl (lv_at hl 1 rfl) ?_
        refine z_iload_n C0 dL_sameGroup_61 rfl (lv_at hl 2 rfl) ?_
        refine z_iload_n C0 dL_sameGroup_62 rfl (lv_at hl 3 rfl) ?_
        refine z_iconst C0 dL_sameGroup_63 ?_
        obtain ⟨r29, hc30, hf⟩ := zbind hf
        refine z_qVi (rest := [.int (zI r27)]) C0 (zc21 hP) (zd21 (zD hD rfl)) hS (zmX3_member l D cI cZ h2 _ (zx_lag t2) (zx_dead t2) (zx_manner t2) (zx_setting t2) (zx_keptRow t2) (zx_liveRow t2) (zx_shiftedRow t2) (zx_groups t2) (zx_search t2) (zx_deadUntil t2) (zx_settled t2) (zx_known t2) (zx_tooLate t2) (zx_ended t2) p2 i24 0 r29 hc30) (zkL_34 ⟨by decide, by decide⟩ C0.2.2.2.2.1) 3 rfl rfl rfl rfl hl.1 (Nat.le_of_ble_eq_true rfl) dL_sameGroup_64 ⟨Nat.zero_le _, Nat.zero_le _⟩ (fun H locs hP hS => ?_)
        have hP : va_P D vwCl ((wX h cI (zx_lag t) (zx_dead t) (zx_manner t) (zx_setting t) (zx_keptRow t) (zx_liveRow t) (zx_shiftedRow t) (zx_groups t) (zx_search t) (zx_deadUntil t) (zx_settled t) (zx_known t) (zx_tooLate t) (zx_ended t)) ++ (wX h2 cI (zx_lag t2) (zx_dead t2) (zx_manner t2) (zx_setting t2) (zx_keptRow t2) (zx_liveRow t2) (zx_shiftedRow t2) (zx_groups t2) (zx_search t2) (zx_deadUntil t2) (zx_settled t2) (zx_known t2) (zx_tooLate t2) (zx_ended t2))) H := zb21 hP
        refine z_icmpne C0 87 dL_sameGroup_67 (by decide) (fun c36 => ?_) (fun c36 => ?_)
        · have hf := zif_neg hf c36
          refine z_iconst C0 dL_sameGroup_87 ?_
          cases hf
        · have hf := zif_pos hf c36
          refine z_aload_n C0 dL_sameGroup_70 rfl (lv_at hl 0 rfl) ?_
          refine z_iload_n C0 dL_sameGroup_71 rfl (lv_at hl 2 rfl) ?_
          refine z_iload_n C0 dL_sameGroup_72 rfl (lv_at hl 3 rfl) ?_
          refine z_iconst C0 dL_sameGroup_73 ?_
          obtain ⟨r31, hc32, hf⟩ := zbind hf
          refine z_qVi (rest := []) C0 (zc20 hP) (zd20 (zD hD rfl)) hS (zmX3_member l D cI cZ h _ (zx_lag t) (zx_dead t) (zx_manner t) (zx_setting t) (zx_keptRow t) (zx_liveRow t) (zx_shiftedRow t) (zx_groups t) (zx_search t) (zx_deadUntil t) (zx_settled t) (zx_known t) (zx_tooLate t) (zx_ended t) p2 i24 1 r31 hc32) (zkL_34 ⟨by decide, by decide⟩ C0.2.2.2.2.1) 3 rfl rfl rfl rfl hl.1 (Nat.le_of_ble_eq_true rfl) dL_sameGroup_74 ⟨Nat.zero_le _, Nat.zero_le _⟩ (fun H locs hP hS => ?_)
          have hP : va_P D vwCl ((wX h cI (zx_lag t) (zx_dead t) (zx_manner t) (zx_setting t) (zx_keptRow t) (zx_liveRow t) (zx_shiftedRow t) (zx_groups t) (zx_search t) (zx_deadUntil t) (zx_settled t) (zx_known t) (zx_tooLate t) (zx_ended t)) ++ (wX h2 cI (zx_lag t2) (zx_dead t2) (zx_manner t2) (zx_setting t2) (zx_keptRow t2) (zx_liveRow t2) (zx_shiftedRow t2) (zx_groups t2) (zx_search t2) (zx_deadUntil t2) (zx_settled t2) (zx_known t2) (zx_tooLate t2) (zx_ended t2))) H := zb20 hP
          refine z_aload_n C0 dL_sameGroup_77 rfl (lv_at hl 1 rfl) ?_
          refine z_iload_n C0 dL_sameGroup_78 rfl (lv_at hl 2 rfl) ?_
          refine z_iload_n C0 dL_sameGroup_79 rfl (lv_at hl 3 rfl) ?_
          refine z_iconst C0 dL_sameGroup_80 ?_
          obtain ⟨r33, hc34, hf⟩ := zbind hf
          refine z_qVi (rest := [.int (zI r31)]) C0 (zc21 hP) (zd21 (zD hD rfl)) hS (zmX3_member l D cI cZ h2 _ (zx_lag t2) (zx_dead t2) (zx_manner t2) (zx_setting t2) (zx_keptRow t2) (zx_liveRow t2) (zx_shiftedRow t2) (zx_groups t2) (zx_search t2) (zx_deadUntil t2) (zx_settled t2) (zx_known t2) (zx_tooLate t2) (zx_ended t2) p2 i24 1 r33 hc34) (zkL_34 ⟨by decide, by decide⟩ C0.2.2.2.2.1) 3 rfl rfl rfl rfl hl.1 (Nat.le_of_ble_eq_true rfl) dL_sameGroup_81 ⟨Nat.zero_le _, Nat.zero_le _⟩ (fun H locs hP hS => ?_)
          have hP : va_P D vwCl ((wX h cI (zx_lag t) (zx_dead t) (zx_manner t) (zx_setting t) (zx_keptRow t) (zx_liveRow t) (zx_shiftedRow t) (zx_groups t) (zx_search t) (zx_deadUntil t) (zx_settled t) (zx_known t) (zx_tooLate t) (zx_ended t)) ++ (wX h2 cI (zx_lag t2) (zx_dead t2) (zx_manner t2) (zx_setting t2) (zx_keptRow t2) (zx_liveRow t2) (zx_shiftedRow t2) (zx_groups t2) (zx_search t2) (zx_deadUntil t2) (zx_settled t2) (zx_known t2) (zx_tooLate t2) (zx_ended t2))) H := zb21 hP
          refine z_icmpeq C0 89 dL_sameGroup_84 (by decide) (fun c35 => ?_) (fun c35 => ?_)
          · have hf := zif_pos hf c35
            refine z_iinc C0 [(3, .int (zI (i24 + 1))), (0, .ref (h 0)), (1, .ref (h2 0)), (2, .int (zI p2))] dL_sameGroup_89 hl 3 rfl (by decide) rfl (fun ls hl => ?_)
            refine z_goto C0 47 dL_sameGroup_92 (by decide) ?_
            exact ih (i24 + 1) out hf K _ _ hP hS ls (lv_sub hl [1, 2, 3, 0] rfl)
          · have hf := zif_neg hf c35
            refine z_iconst C0 dL_sameGroup_87 ?_
            cases hf
  obtain ⟨r39, hE40, hf⟩ := zbind hf
  refine L38 _ 0 r39 hE40 ?_ _ _ hP hS ls (lv_sub hl [1, 2, 3, 0] rfl)
  intro H locs hP hS ls hl
  refine z_aload_n C0 dL_sameGroup_95 rfl (lv_at hl 0 rfl) ?_
  refine z_iload_n C0 dL_sameGroup_96 rfl (lv_at hl 1 rfl) ?_
  refine z_iconst C0 dL_sameGroup_97 ?_
  obtain ⟨r41, hc42, hf⟩ := zbind hf
  refine z_qVi (rest := []) C0 (zc20 hP) (zd20 (zD hD rfl)) hS (zmX3_group l D cI cZ h _ (zx_lag t) (zx_dead t) (zx_manner t) (zx_setting t) (zx_keptRow t) (zx_liveRow t) (zx_shiftedRow t) (zx_groups t) (zx_search t) (zx_deadUntil t) (zx_settled t) (zx_known t) (zx_tooLate t) (zx_ended t) p2 0 r41 hc42) (zkL_28 ⟨by decide, by decide⟩ C0.2.2.2.2.1) 3 rfl rfl rfl rfl hl.1 (Nat.le_of_ble_eq_true rfl) dL_sameGroup_98 ⟨Nat.zero_le _, Nat.zero_le _⟩ (fun H locs hP hS => ?_)
  have hP : va_P D vwCl ((wX h cI (zx_lag t) (zx_dead t) (zx_manner t) (zx_setting t) (zx_keptRow t) (zx_liveRow t) (zx_shiftedRow t) (zx_groups t) (zx_search t) (zx_deadUntil t) (zx_settled t) (zx_known t) (zx_tooLate t) (zx_ended t)) ++ (wX h2 cI (zx_lag t2) (zx_dead t2) (zx_manner t2) (zx_setting t2) (zx_keptRow t2) (zx_liveRow t2) (zx_shiftedRow t2) (zx_groups t2) (zx_search t2) (zx_deadUntil t2) (zx_settled t2) (zx_known t2) (zx_tooLate t2) (zx_ended t2))) H := zb20 hP
  refine z_iflt C0 108 dL_sameGroup_101 (by decide) (fun c43 => ?_) (fun c43 => ?_)
  · have hf := zif_pos hf c43
    refine z_iconst C0 dL_sameGroup_108 ?_
    cases hf
  · have hf := zif_neg hf c43
    refine z_iconst C0 dL_sameGroup_104 ?_
    refine z_goto C0 109 dL_sameGroup_105 (by decide) ?_
    cases hf
    exact hret (Or.inr rfl) hP hS dL_sameGroup_109
