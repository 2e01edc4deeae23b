set_option maxHeartbeats 4000000 in
set_option maxRecDepth 100000 in
theorem zmL_same (l : Launch) (D : va_G) (cI cZ : ClassId) (h : Nat → Nat) (h2 : Nat → Nat) (sz : Nat) (t : zXT) (t2 : zXT) (p2 : Int) (o : Int × zXT × zXT) (hf : fL_same t t2 p2 = some o) : Met l yL_same (zW yL_same cL_same 6 (some .boolean)) rmL_same (va_Pc [.ref (h 0), .ref (h2 0), .int (zI p2)] (zPre D cI cZ ((wX h cI (zx_lag t) (zx_dead t) (zx_manner t) (zx_setting t) (zx_keptRow t) (zx_liveRow t) (zx_shiftedRow t) (zx_groups t) (zx_search t) (zx_deadUntil t) (zx_settled t) (zx_known t) (zx_tooLate t) (zx_ended t)) ++ (wX h2 cI (zx_lag t2) (zx_dead t2) (zx_manner t2) (zx_setting t2) (zx_keptRow t2) (zx_liveRow t2) (zx_shiftedRow t2) (zx_groups t2) (zx_search t2) (zx_deadUntil t2) (zx_settled t2) (zx_known t2) (zx_tooLate t2) (zx_ended t2))) sz)) (va_Qi (fun r' (_ : Unit) => r' = zI o.1) (fun _ tq => va_P D vwCl ((wX h cI (zx_lag o.2.1) (zx_dead o.2.1) (zx_manner o.2.1) (zx_setting o.2.1) (zx_keptRow o.2.1) (zx_liveRow o.2.1) (zx_shiftedRow o.2.1) (zx_groups o.2.1) (zx_search o.2.1) (zx_deadUntil o.2.1) (zx_settled o.2.1) (zx_known o.2.1) (zx_tooLate o.2.1) (zx_ended o.2.1)) ++ (wX h2 cI (zx_lag o.2.2) (zx_dead o.2.2) (zx_manner o.2.2) (zx_setting o.2.2) (zx_keptRow o.2.2) (zx_liveRow o.2.2) (zx_shiftedRow o.2.2) (zx_groups o.2.2) (zx_search o.2.2) (zx_deadUntil o.2.2) (zx_settled o.2.2) (zx_known o.2.2) (zx_tooLate o.2.2) (zx_ended o.2.2))) tq.heap) (va_A ((wX h cI (zx_lag t) (zx_dead t) (zx_manner t) (zx_setting t) (zx_keptRow t) (zx_liveRow t) (zx_shiftedRow t) (zx_groups t) (zx_search t) (zx_deadUntil t) (zx_settled t) (zx_known t) (zx_tooLate t) (zx_ended t)) ++ (wX h2 cI (zx_lag t2) (zx_dead t2) (zx_manner t2) (zx_setting t2) (zx_keptRow t2) (zx_liveRow t2) (zx_shiftedRow t2) (zx_groups t2) (zx_search t2) (zx_deadUntil t2) (zx_settled t2) (zx_known t2) (zx_tooLate t2) (zx_ended t2))) sz)) 0 0 (va_A ((wX h cI (zx_lag t) (zx_dead t) (zx_manner t) (zx_setting t) (zx_keptRow t) (zx_liveRow t) (zx_shiftedRow t) (zx_groups t) (zx_search t) (zx_deadUntil t) (zx_settled t) (zx_known t) (zx_tooLate t) (zx_ended t)) ++ (wX h2 cI (zx_lag t2) (zx_dead t2) (zx_manner t2) (zx_setting t2) (zx_keptRow t2) (zx_liveRow t2) (zx_shiftedRow t2) (zx_groups t2) (zx_search t2) (zx_deadUntil t2) (zx_settled t2) (zx_known t2) (zx_tooLate t2) (zx_ended t2))) sz) := by
  unfold fL_same at hf
  refine z_enter_z (own := RL) (by decide +kernel) rfl (Nat.le_of_ble_eq_true rfl) ?_
  intro p e s m args below meth c A Q C0 hP hD hS hret ls hl
  have hl : lv_has ls 6 [(0, .ref (h 0)), (1, .ref (h2 0)), (2, .int (zI p2))] := hl
  refine z_aload_n C0 dL_same_0 rfl (lv_at hl 0 rfl) ?_
  refine z_bipush C0 dL_same_1 (by decide +kernel) ?_
  obtain ⟨r1, hc2, hf⟩ := zbind hf
  refine z_qVi (rest := []) C0 (zc20 hP) (zd20 (zD hD rfl)) hS (zmX3_many l D cI cZ h _ (zx_lag t) (zx_dead t) (zx_manner t) (zx_setting t) (zx_keptRow t) (zx_liveRow t) (zx_shiftedRow t) (zx_groups t) (zx_search t) (zx_deadUntil t) (zx_settled t) (zx_known t) (zx_tooLate t) (zx_ended t) 7 r1 hc2) (zkL_38 ⟨by decide, by decide⟩ C0.2.2.2.2.1) 3 rfl rfl rfl rfl hl.1 (Nat.le_of_ble_eq_true rfl) dL_same_3 ⟨Nat.zero_le _, Nat.zero_le _⟩ (fun H locs hP hS => ?_)
  have hP : va_P D vwCl ((wX h cI (zx_lag t) (zx_dead t) (zx_manner t) (zx_setting t) (zx_keptRow t) (zx_liveRow t) (zx_shiftedRow t) (zx_groups t) (zx_search t) (zx_deadUntil t) (zx_settled t) (zx_known t) (zx_tooLate t) (zx_ended t)) ++ (wX h2 cI (zx_lag t2) (zx_dead t2) (zx_manner t2) (zx_setting t2) (zx_keptRow t2) (zx_liveRow t2) (zx_shiftedRow t2) (zx_groups t2) (zx_search t2) (zx_deadUntil t2) (zx_settled t2) (zx_known t2) (zx_tooLate t2) (zx_ended t2))) H := zb20 hP
  refine z_istore_n C0 [(3, .int (zI r1)), (0, .ref (h 0)), (1, .ref (h2 0)), (2, .int (zI p2))] dL_same_6 rfl hl (by decide) rfl (fun ls hl => ?_)
  refine z_aload_n C0 dL_same_7 rfl (lv_at hl 2 rfl) ?_
  refine z_bipush C0 dL_same_8 (by decide +kernel) ?_
  obtain ⟨r3, hc4, hf⟩ := zbind hf
  refine z_qVi (rest := []) C0 (zc21 hP) (zd21 (zD hD rfl)) hS (zmX3_many l D cI cZ h2 _ (zx_lag t2) (zx_dead t2) (zx_manner t2) (zx_setting t2) (zx_keptRow t2) (zx_liveRow t2) (zx_shiftedRow t2) (zx_groups t2) (zx_search t2) (zx_deadUntil t2) (zx_settled t2) (zx_known t2) (zx_tooLate t2) (zx_ended t2) 7 r3 hc4) (zkL_38 ⟨by decide, by decide⟩ C0.2.2.2.2.1) 3 rfl rfl rfl rfl hl.1 (Nat.le_of_ble_eq_true rfl) dL_same_10 ⟨Nat.zero_le _, Nat.zero_le _⟩ (fun H locs hP hS => ?_)
  have hP : va_P D vwCl ((wX h cI (zx_lag t) (zx_dead t) (zx_manner t) (zx_setting t) (zx_keptRow t) (zx_liveRow t) (zx_shiftedRow t) (zx_groups t) (zx_search t) (zx_deadUntil t) (zx_settled t) (zx_known t) (zx_tooLate t) (zx_ended t)) ++ (wX h2 cI (zx_lag t2) (zx_dead t2) (zx_manner t2) (zx_setting t2) (zx_keptRow t2) (zx_liveRow t2) (zx_shiftedRow t2) (zx_groups t2) (zx_search t2) (zx_deadUntil t2) (zx_settled t2) (zx_known t2) (zx_tooLate t2) (zx_ended t2))) H := zb21 hP
  refine z_iload_n C0 dL_same_13 rfl (lv_at hl 0 rfl) ?_
  refine z_icmpeq C0 19 dL_same_14 (by decide) (fun c108 => ?_) (fun c108 => ?_)
  · have hf := zif_pos hf c108
    refine z_iconst C0 dL_same_19 ?_
    refine z_istore C0 [(4, .int (zI 0)), (3, .int (zI r1)), (0, .ref (h 0)), (1, .ref (h2 0)), (2, .int (zI p2))] dL_same_20 hl (by decide) rfl (fun ls hl => ?_)
    have L16 : ∀ (zn : Nat) (i9 : Int) (out : Unit), fL_same_L22 zn t t2 p2 r1 i9 = some out → (∀ (H : Heap) (locs : List Loc), va_P D vwCl ((wX h cI (zx_lag t) (zx_dead t) (zx_manner t) (zx_setting t) (zx_keptRow t) (zx_liveRow t) (zx_shiftedRow t) (zx_groups t) (zx_search t) (zx_deadUntil t) (zx_settled t) (zx_known t) (zx_tooLate t) (zx_ended t)) ++ (wX h2 cI (zx_lag t2) (zx_dead t2) (zx_manner t2) (zx_setting t2) (zx_keptRow t2) (zx_liveRow t2) (zx_shiftedRow t2) (zx_groups t2) (zx_search t2) (zx_deadUntil t2) (zx_settled t2) (zx_known t2) (zx_tooLate t2) (zx_ended t2))) H → va_S A s.heap H locs → ∀ ls : Array Slot, lv_has ls 6 [(0, .ref (h 0)), (1, .ref (h2 0)), (2, .int (zI p2))] → W p l e rmL_same s m args below meth c H locs 0 0 Q (F0 m 46 ls [])) → ∀ (H : Heap) (locs : List Loc), va_P D vwCl ((wX h cI (zx_lag t) (zx_dead t) (zx_manner t) (zx_setting t) (zx_keptRow t) (zx_liveRow t) (zx_shiftedRow t) (zx_groups t) (zx_search t) (zx_deadUntil t) (zx_settled t) (zx_known t) (zx_tooLate t) (zx_ended t)) ++ (wX h2 cI (zx_lag t2) (zx_dead t2) (zx_manner t2) (zx_setting t2) (zx_keptRow t2) (zx_liveRow t2) (zx_shiftedRow t2) (zx_groups t2) (zx_search t2) (zx_deadUntil t2) (zx_settled t2) (zx_known t2) (zx_tooLate t2) (zx_ended t2))) H → va_S A s.heap H locs → ∀ ls : Array Slot, lv_has ls 6 [(0, .ref (h 0)), (1, .ref (h2 0)), (2, .int (zI p2)), (3, .int (zI r1)), (4, .int (zI i9))] → W p l e rmL_same s m args below meth c H locs 0 0 Q (F0 m 22 ls []) := by
      intro zn
      induction zn with
      | zero =>
        intro i9 out hf
        rw [fL_same_L22_z] at hf
        cases hf
      | succ zn ih =>
        intro i9 out hf K H locs hP hS ls hl
        rw [fL_same_L22_s] at hf
        refine z_iload C0 dL_same_22 (lv_at hl 4 rfl) ?_
        refine z_iload_n C0 dL_same_24 rfl (lv_at hl 3 rfl) ?_
        refine z_icmpge C0 46 dL_same_25 (by decide) (fun c15 => ?_) (fun c15 => ?_)
        · have hf := zif_pos hf c15
          cases hf
          exact K _ _ hP hS ls (lv_sub hl [0, 1, 2] rfl)
        · have hf := zif_neg hf c15
          refine z_aload_n C0 dL_same_28 rfl (lv_at hl 0 rfl) ?_
          refine z_aload_n C0 dL_same_29 rfl (lv_at hl 1 rfl) ?_
          refine z_iload C0 dL_same_30 (lv_at hl 4 rfl) ?_
          obtain ⟨r12, hc13, hf⟩ := zbind hf
          refine z_qSi (rest := []) C0 (zc2n hP) (zd2n (zD hD rfl)) hS (zmL_sameGroup l D cI cZ h h2 _ t t2 i9 r12 hc13) (zkL_42 ⟨by decide, by decide⟩ C0.2.2.2.2.1) rfl rfl hl.1 (Nat.le_of_ble_eq_true rfl) dL_same_32 ⟨Nat.zero_le _, Nat.zero_le _⟩ (fun H locs hP hS => ?_)
          have hP : va_P D vwCl ((wX h cI (zx_lag t) (zx_dead t) (zx_manner t) (zx_setting t) (zx_keptRow t) (zx_liveRow t) (zx_shiftedRow t) (zx_groups t) (zx_search t) (zx_deadUntil t) (zx_settled t) (zx_known t) (zx_tooLate t) (zx_ended t)) ++ (wX h2 cI (zx_lag t2) (zx_dead t2) (zx_manner t2) (zx_setting t2) (zx_keptRow t2) (zx_liveRow t2) (zx_shiftedRow t2) (zx_groups t2) (zx_search t2) (zx_deadUntil t2) (zx_settled t2) (zx_known t2) (zx_tooLate t2) (zx_ended t2))) H := zb2n hP
          refine z_ifne C0 40 dL_same_35 (by decide) (fun c14 => ?_) (fun c14 => ?_)
          · have hf := zif_neg hf c14
            refine z_iinc C0 [(4, .int (zI (i9 + 1))), (0, .ref (h 0)), (1, .ref (h2 0)), (2, .int (zI p2)), (3, .int (zI r1))] dL_same_40 hl 4 rfl (by decide) rfl (fun ls hl => ?_)
            refine z_goto C0 22 dL_same_43 (by decide) ?_
            exact ih (i9 + 1) out hf K _ _ hP hS ls (lv_sub hl [1, 2, 3, 4, 0] rfl)
          · have hf := zif_pos hf c14
            refine z_iconst C0 dL_same_38 ?_
            cases hf
    obtain ⟨r17, hE18, hf⟩ := zbind hf
    refine L16 _ 0 r17 hE18 ?_ _ _ hP hS ls (lv_sub hl [2, 3, 4, 1, 0] rfl)
    intro H locs hP hS ls hl
    refine z_iconst C0 dL_same_46 ?_
    refine z_istore C0 [(4, .int (zI 0)), (0, .ref (h 0)), (1, .ref (h2 0)), (2, .int (zI p2))] dL_same_47 hl (by decide) rfl (fun ls hl => ?_)
    have L31 : ∀ (zn : Nat) (i22 : Int) (out : Unit), fL_same_L49 zn t t2 p2 i22 = some out → (∀ (H : Heap) (locs : List Loc), va_P D vwCl ((wX h cI (zx_lag t) (zx_dead t) (zx_manner t) (zx_setting t) (zx_keptRow t) (zx_liveRow t) (zx_shiftedRow t) (zx_groups t) (zx_search t) (zx_deadUntil t) (zx_settled t) (zx_known t) (zx_tooLate t) (zx_ended t)) ++ (wX h2 cI (zx_lag t2) (zx_dead t2) (zx_manner t2) (zx_setting t2) (zx_keptRow t2) (zx_liveRow t2) (zx_shiftedRow t2) (zx_groups t2) (zx_search t2) (zx_deadUntil t2) (zx_settled t2) (zx_known t2) (zx_tooLate t2) (zx_ended t2))) H → va_S A s.heap H locs → ∀ ls : Array Slot, lv_has ls 6 [(0, .ref (h 0)), (1, .ref (h2 0)), (2, .int (zI p2))] → W p l e rmL_same s m args below meth c H locs 0 0 Q (F0 m 79 ls [])) → ∀ (H : Heap) (locs : List Loc), va_P D vwCl ((wX h cI (zx_lag t) (zx_dead t) (zx_manner t) (zx_setting t) (zx_keptRow t) (zx_liveRow t) (zx_shiftedRow t) (zx_groups t) (zx_search t) (zx_deadUntil t) (zx_settled t) (zx_known t) (zx_tooLate t) (zx_ended t)) ++ (wX h2 cI (zx_lag t2) (zx_dead t2) (zx_manner t2) (zx_setting t2) (zx_keptRow t2) (zx_liveRow t2) (zx_shiftedRow t2) (zx_groups t2) (zx_search t2) (zx_deadUntil t2) (zx_settled t2) (zx_known t2) (zx_tooLate t2) (zx_ended t2))) H → va_S A s.heap H locs → ∀ ls : Array Slot, lv_has ls 6 [(0, .ref (h 0)), (1, .ref (h2 0)), (2, .int (zI p2)), (4, .int (zI i22))] → W p l e rmL_same s m args below meth c H locs 0 0 Q (F0 m 49 ls []) := by
      intro zn
      induction zn with
      | zero =>
        intro i22 out hf
        rw [fL_same_L49_z] at hf
        cases hf
      | succ zn ih =>
        intro i22 out hf K H locs hP hS ls hl
        rw [fL_same_L49_s] at hf
        refine z_iload C0 dL_same_49 (lv_at hl 3 rfl) ?_
        refine z_bipush C0 dL_same_51 (by decide +kernel) ?_
        refine z_icmpge C0 79 dL_same_53 (by decide) (fun c30 => ?_) (fun c30 => ?_)
        · have hf := zif_pos hf c30
          cases hf
          exact K _ _ hP hS ls (lv_sub hl [0, 1, 2] rfl)
        · have hf := zif_neg hf c30
          refine z_aload_n C0 dL_same_56 rfl (lv_at hl 0 rfl) ?_
          refine z_iload C0 dL_same_57 (lv_at hl 3 rfl) ?_
          obtain ⟨r25, hc26, hf⟩ := zbind hf
          refine z_qVi (rest := []) C0 (zc20 hP) (zd20 (zD hD rfl)) hS (zmX3_many l D cI cZ h _ (zx_lag t) (zx_dead t) (zx_manner t) (zx_setting t) (zx_keptRow t) (zx_liveRow t) (zx_shiftedRow t) (zx_groups t) (zx_search t) (zx_deadUntil t) (zx_settled t) (zx_known t) (zx_tooLate t) (zx_ended t) i22 r25 hc26) (zkL_38 ⟨by decide, by decide⟩ C0.2.2.2.2.1) 3 rfl rfl rfl rfl hl.1 (Nat.le_of_ble_eq_true rfl) dL_same_59 ⟨Nat.zero_le _, Nat.zero_le _⟩ (fun H locs hP hS => ?_)
          have hP : va_P D vwCl ((wX h cI (zx_lag t) (zx_dead t) (zx_manner t) (zx_setting t) (zx_keptRow t) (zx_liveRow t) (zx_shiftedRow t) (zx_groups t) (zx_search t) (zx_deadUntil t) (zx_settled t) (zx_known t) (zx_tooLate t) (zx_ended t)) ++ (wX h2 cI (zx_lag t2) (zx_dead t2) (zx_manner t2) (zx_setting t2) (zx_keptRow t2) (zx_liveRow t2) (zx_shiftedRow t2) (zx_groups t2) (zx_search t2) (zx_deadUntil t2) (zx_settled t2) (zx_known t2) (zx_tooLate t2) (zx_ended t2))) H := zb20 hP
          refine z_aload_n C0 dL_same_62 rfl (lv_at hl 1 rfl) ?_
          refine z_iload C0 dL_same_63 (lv_at hl 3 rfl) ?_
          obtain ⟨r27, hc28, hf⟩ := zbind hf
          refine z_qVi (rest := [.int (zI r25)]) C0 (zc21 hP) (zd21 (zD hD rfl)) hS (zmX3_many l D cI cZ h2 _ (zx_lag t2) (zx_dead t2) (zx_manner t2) (zx_setting t2) (zx_keptRow t2) (zx_liveRow t2) (zx_shiftedRow t2) (zx_groups t2) (zx_search t2) (zx_deadUntil t2) (zx_settled t2) (zx_known t2) (zx_tooLate t2) (zx_ended t2) i22 r27 hc28) (zkL_38 ⟨by decide, by decide⟩ C0.2.2.2.2.1) 3 rfl rfl rfl rfl hl.1 (Nat.le_of_ble_eq_true rfl) dL_same_65 ⟨Nat.zero_le _, Nat.zero_le _⟩ (fun H locs hP hS => ?_)
          have hP : va_P D vwCl ((wX h cI (zx_lag t) (zx_dead t) (zx_manner t) (zx_setting t) (zx_keptRow t) (zx_liveRow t) (zx_shiftedRow t) (zx_groups t) (zx_search t) (zx_deadUntil t) (zx_settled t) (zx_known t) (zx_tooLate t) (zx_ended t)) ++ (wX h2 cI (zx_lag t2) (zx_dead t2) (zx_manner t2) (zx_setting t2) (zx_keptRow t2) (zx_liveRow t2) (zx_shiftedRow t2) (zx_groups t2) (zx_search t2) (zx_deadUntil t2) (zx_settled t2) (zx_known t2) (zx_tooLate t2) (zx_ended t2))) H := zb21 hP
          refine z_icmpeq C0 73 dL_same_68 (by decide) (fun c29 => ?_) (fun c29 => ?_)
          · have hf := zif_pos hf c29
            refine z_iinc C0 [(4, .int (zI (i22 + 1))), (0, .ref (h 0)), (1, .ref (h2 0)), (2, .int (zI p2))] dL_same_73 hl 3 rfl (by decide) rfl (fun ls hl => ?_)
            refine z_goto C0 49 dL_same_76 (by decide) ?_
            exact ih (i22 + 1) out hf K _ _ hP hS ls (lv_sub hl [1, 2, 3, 0] rfl)
          · have hf := zif_neg hf c29
            refine z_iconst C0 dL_same_71 ?_
            cases hf
    obtain ⟨r32, hE33, hf⟩ := zbind hf
    refine L31 _ 0 r32 hE33 ?_ _ _ hP hS ls (lv_sub hl [1, 2, 3, 0] rfl)
    intro H locs hP hS ls hl
    refine z_iconst C0 dL_same_79 ?_
    refine z_istore C0 [(4, .int (zI 0)), (0, .ref (h 0)), (1, .ref (h2 0)), (2, .int (zI p2))] dL_same_80 hl (by decide) rfl (fun ls hl => ?_)
    have L86 : ∀ (zn : Nat) (i37 : Int) (out : Unit), fL_same_L82 zn t t2 p2 i37 = some out → (∀ (H : Heap) (locs : List Loc), va_P D vwCl ((wX h cI (zx_lag t) (zx_dead t) (zx_manner t) (zx_setting t) (zx_keptRow t) (zx_liveRow t) (zx_shiftedRow t) (zx_groups t) (zx_search t) (zx_deadUntil t) (zx_settled t) (zx_known t) (zx_tooLate t) (zx_ended t)) ++ (wX h2 cI (zx_lag t2) (zx_dead t2) (zx_manner t2) (zx_setting t2) (zx_keptRow t2) (zx_liveRow t2) (zx_shiftedRow t2) (zx_groups t2) (zx_search t2) (zx_deadUntil t2) (zx_settled t2) (zx_known t2) (zx_tooLate t2) (zx_ended t2))) H → va_S A s.heap H locs → ∀ ls : Array Slot, lv_has ls 6 [(0, .ref (h 0)), (1, .ref (h2 0)), (2, .int (zI p2))] → W p l e rmL_same s m args below meth c H locs 0 0 Q (F0 m 259 ls [])) → ∀ (H : Heap) (locs : List Loc), va_P D vwCl ((wX h cI (zx_lag t) (zx_dead t) (zx_manner t) (zx_setting t) (zx_keptRow t) (zx_liveRow t) (zx_shiftedRow t) (zx_groups t) (zx_search t) (zx_deadUntil t) (zx_settled t) (zx_known t) (zx_tooLate t) (zx_ended t)) ++ (wX h2 cI (zx_lag t2) (zx_dead t2) (zx_manner t2) (zx_setting t2) (zx_keptRow t2) (zx_liveRow t2) (zx_shiftedRow t2) (zx_groups t2) (zx_search t2) (zx_deadUntil t2) (zx_settled t2) (zx_known t2) (zx_tooLate t2) (zx_ended t2))) H → va_S A s.heap H locs → ∀ ls : Array Slot, lv_has ls 6 [(0, .ref (h 0)), (1, .ref (h2 0)), (2, .int (zI p2)), (4, .int (zI i37))] → W p l e rmL_same s m args below meth c H locs 0 0 Q (F0 m 82 ls []) := by
      intro zn
      induction zn with
      | zero =>
        intro i37 out hf
        rw [fL_same_L82_z] at hf
        cases hf
      | succ zn ih =>
        intro i37 out hf K H locs hP hS ls hl
        rw [fL_same_L82_s] at hf
        refine z_iload C0 dL_same_82 (lv_at hl 3 rfl) ?_
        refine z_bipush C0 dL_same_84 (by decide +kernel) ?_
        refine z_icmpge C0 259 dL_same_86 (by decide) (fun c85 => ?_) (fun c85 => ?_)
        · have hf := zif_pos hf c85
          cases hf
          exact K _ _ hP hS ls (lv_sub hl [0, 1, 2] rfl)
        · have hf := zif_neg hf c85
          refine z_iconst C0 dL_same_89 ?_
          refine z_istore C0 [(5, .int (zI 0)), (0, .ref (h 0)), (1, .ref (h2 0)), (2, .int (zI p2)), (4, .int (zI i37))] dL_same_90 hl (by decide) rfl (fun ls hl => ?_)
          have L53 : ∀ (zn : Nat) (i44 : Int) (out : Unit), fL_same_L92 zn t t2 p2 i37 i44 = some out → (∀ (H : Heap) (locs : List Loc), va_P D vwCl ((wX h cI (zx_lag t) (zx_dead t) (zx_manner t) (zx_setting t) (zx_keptRow t) (zx_liveRow t) (zx_shiftedRow t) (zx_groups t) (zx_search t) (zx_deadUntil t) (zx_settled t) (zx_known t) (zx_tooLate t) (zx_ended t)) ++ (wX h2 cI (zx_lag t2) (zx_dead t2) (zx_manner t2) (zx_setting t2) (zx_keptRow t2) (zx_liveRow t2) (zx_shiftedRow t2) (zx_groups t2) (zx_search t2) (zx_deadUntil t2) (zx_settled t2) (zx_known t2) (zx_tooLate t2) (zx_ended t2))) H → va_S A s.heap H locs → ∀ ls : Array Slot, lv_has ls 6 [(0, .ref (h 0)), (1, .ref (h2 0)), (2, .int (zI p2)), (4, .int (zI i37))] → W p l e rmL_same s m args below meth c H locs 0 0 Q (F0 m 126 ls [])) → ∀ (H : Heap) (locs : List Loc), va_P D vwCl ((wX h cI (zx_lag t) (zx_dead t) (zx_manner t) (zx_setting t) (zx_keptRow t) (zx_liveRow t) (zx_shiftedRow t) (zx_groups t) (zx_search t) (zx_deadUntil t) (zx_settled t) (zx_known t) (zx_tooLate t) (zx_ended t)) ++ (wX h2 cI (zx_lag t2) (zx_dead t2) (zx_manner t2) (zx_setting t2) (zx_keptRow t2) (zx_liveRow t2) (zx_shiftedRow t2) (zx_groups t2) (zx_search t2) (zx_deadUntil t2) (zx_settled t2) (zx_known t2) (zx_tooLate t2) (zx_ended t2))) H → va_S A s.heap H locs → ∀ ls : Array Slot, lv_has ls 6 [(0, .ref (h 0)), (1, .ref (h2 0)), (2, .int (zI p2)), (4, .int (zI i37)), (5, .int (zI i44))] → W p l e rmL_same s m args below meth c H locs 0 0 Q (F0 m 92 ls []) := by
            intro zn
            induction zn with
            | zero =>
              intro i44 out hf
              rw [fL_same_L92_z] at hf
              cases hf
            | succ zn ih =>
              intro i44 out hf K H locs hP hS ls hl
              rw [fL_same_L92_s] at hf
              refine z_iload C0 dL_same_92 (lv_at hl 4 rfl) ?_
              refine z_bipush C0 dL_same_94 (by decide +kernel) ?_
              refine z_icmpge C0 126 dL_same_96 (by decide) (fun c52 => ?_) (fun c52 => ?_)
              · have hf := zif_pos hf c52
                cases hf
                exact K _ _ hP hS ls (lv_sub hl [0, 1, 2, 3] rfl)
              · have hf := zif_neg hf c52
                refine z_aload_n C0 dL_same_99 rfl (lv_at hl 0 rfl) ?_
                refine z_iload C0 dL_same_100 (lv_at hl 3 rfl) ?_
                refine z_iload C0 dL_same_102 (lv_at hl 4 rfl) ?_
                obtain ⟨r47, hc48, hf⟩ := zbind hf
                refine z_qVi (rest := []) C0 (zc20 hP) (zd20 (zD hD rfl)) hS (zmX3_ofPlane l D cI cZ h _ (zx_lag t) (zx_dead t) (zx_manner t) (zx_setting t) (zx_keptRow t) (zx_liveRow t) (zx_shiftedRow t) (zx_groups t) (zx_search t) (zx_deadUntil t) (zx_settled t) (zx_known t) (zx_tooLate t) (zx_ended t) i37 i44 r47 hc48) (zkL_46 ⟨by decide, by decide⟩ C0.2.2.2.2.1) 3 rfl rfl rfl rfl hl.1 (Nat.le_of_ble_eq_true rfl) dL_same_104 ⟨Nat.zero_le _, Nat.zero_le _⟩ (fun H locs hP hS => ?_)
                have hP : va_P D vwCl ((wX h cI (zx_lag t) (zx_dead t) (zx_manner t) (zx_setting t) (zx_keptRow t) (zx_liveRow t) (zx_shiftedRow t) (zx_groups t) (zx_search t) (zx_deadUntil t) (zx_settled t) (zx_known t) (zx_tooLate t) (zx_ended t)) ++ (wX h2 cI (zx_lag t2) (zx_dead t2) (zx_manner t2) (zx_setting t2) (zx_keptRow t2) (zx_liveRow t2) (zx_shiftedRow t2) (zx_groups t2) (zx_search t2) (zx_deadUntil t2) (zx_settled t2) (zx_known t2) (zx_tooLate t2) (zx_ended t2))) H := zb20 hP
                refine z_aload_n C0 dL_same_107 rfl (lv_at hl 1 rfl) ?_
                refine z_iload C0 dL_same_108 (lv_at hl 3 rfl) ?_
                refine z_iload C0 dL_same_110 (lv_at hl 4 rfl) ?_
                obtain ⟨r49, hc50, hf⟩ := zbind hf
                refine z_qVi (rest := [.int (zI r47)]) C0 (zc21 hP) (zd21 (zD hD rfl)) hS (zmX3_ofPlane l D cI cZ h2 _ (zx_lag t2) (zx_dead t2) (zx_manner t2) (zx_setting t2) (zx_keptRow t2) (zx_liveRow t2) (zx_shiftedRow t2) (zx_groups t2) (zx_search t2) (zx_deadUntil t2) (zx_settled t2) (zx_known t2) (zx_tooLate t2) (zx_ended t2) i37 i44 r49 hc50) (zkL_46 ⟨by decide, by decide⟩ C0.2.2.2.2.1) 3 rfl rfl rfl rfl hl.1 (Nat.le_of_ble_eq_true rfl) dL_same_112 ⟨Nat.zero_le _, Nat.zero_le _⟩ (fun H locs hP hS => ?_)
                have hP : va_P D vwCl ((wX h cI (zx_lag t) (zx_dead t) (zx_manner t) (zx_setting t) (zx_keptRow t) (zx_liveRow t) (zx_shiftedRow t) (zx_groups t) (zx_search t) (zx_deadUntil t) (zx_settled t) (zx_known t) (zx_tooLate t) (zx_ended t)) ++ (wX h2 cI (zx_lag t2) (zx_dead t2) (zx_manner t2) (zx_setting t2) (zx_keptRow t2) (zx_liveRow t2) (zx_shiftedRow t2) (zx_groups t2) (zx_search t2) (zx_deadUntil t2) (zx_settled t2) (zx_known t2) (zx_tooLate t2) (zx_ended t2))) H := zb21 hP
                refine z_icmpeq C0 120 dL_same_115 (by decide) (fun c51 => ?_) (fun c51 => ?_)
                · have hf := zif_pos hf c51
                  refine z_iinc C0 [(5, .int (zI (i44 + 1))), (0, .ref (h 0)), (1, .ref (h2 0)), (2, .int (zI p2)), (4, .int (zI i37))] dL_same_120 hl 4 rfl (by decide) rfl (fun ls hl => ?_)
                  refine z_goto C0 92 dL_same_123 (by decide) ?_
                  exact ih (i44 + 1) out hf K _ _ hP hS ls (lv_sub hl [1, 2, 3, 4, 0] rfl)
                · have hf := zif_neg hf c51
                  refine z_iconst C0 dL_same_118 ?_
                  cases hf
          obtain ⟨r54, hE55, hf⟩ := zbind hf
          refine L53 _ 0 r54 hE55 ?_ _ _ hP hS ls (lv_sub hl [1, 2, 3, 4, 0] rfl)
          intro H locs hP hS ls hl
          refine z_iload C0 dL_same_126 (lv_at hl 3 rfl) ?_
          refine z_iconst C0 dL_same_128 ?_
          refine z_iadd C0 dL_same_129 ?_
          refine z_iload_n C0 dL_same_130 rfl (lv_at hl 2 rfl) ?_
          refine z_iconst C0 dL_same_131 ?_
          obtain ⟨r56, hc57, hf⟩ := zbind hf
          refine z_qSi (rest := [.int (zI (i37 + 1))]) C0 (zc0 hP) (zd0 (zD hD rfl)) hS (zmL_low l D cI cZ _ p2 5 r56 hc57) (zkL_15 ⟨by decide, by decide⟩ C0.2.2.2.2.1) rfl rfl hl.1 (Nat.le_of_ble_eq_true rfl) dL_same_132 ⟨Nat.zero_le _, Nat.zero_le _⟩ (fun H locs hP hS => ?_)
          have hP : va_P D vwCl ((wX h cI (zx_lag t) (zx_dead t) (zx_manner t) (zx_setting t) (zx_keptRow t) (zx_liveRow t) (zx_shiftedRow t) (zx_groups t) (zx_search t) (zx_deadUntil t) (zx_settled t) (zx_known t) (zx_tooLate t) (zx_ended t)) ++ (wX h2 cI (zx_lag t2) (zx_dead t2) (zx_manner t2) (zx_setting t2) (zx_keptRow t2) (zx_liveRow t2) (zx_shiftedRow t2) (zx_groups t2) (zx_search t2) (zx_deadUntil t2) (zx_settled t2) (zx_known t2) (zx_tooLate t2) (zx_ended t2))) H := zb0 hP
          refine z_iadd C0 dL_same_135 ?_
          refine z_bipush C0 dL_same_136 (by decide +kernel) ?_
          obtain ⟨g58, hf⟩ := zg_some hf
          refine z_irem C0 g58 dL_same_138 ?_
          obtain ⟨v59, hv59, hf⟩ := zl_some hf
          refine z_name hv59 ?_
          refine z_istore C0 [(5, .int (zI v59)), (0, .ref (h 0)), (1, .ref (h2 0)), (2, .int (zI p2)), (4, .int (zI i37))] dL_same_139 hl (by decide) rfl (fun ls hl => ?_)
          refine z_aload_n C0 dL_same_141 rfl (lv_at hl 1 rfl) ?_
          refine z_iload C0 dL_same_142 (lv_at hl 4 rfl) ?_
          obtain ⟨r60, hc61, hf⟩ := zbind hf
          refine z_qVi (rest := []) C0 (zc20 hP) (zd20 (zD hD rfl)) hS (zmX3_live l D cI cZ h _ (zx_lag t) (zx_dead t) (zx_manner t) (zx_setting t) (zx_keptRow t) (zx_liveRow t) (zx_shiftedRow t) (zx_groups t) (zx_search t) (zx_deadUntil t) (zx_settled t) (zx_known t) (zx_tooLate t) (zx_ended t) i37 r60 hc61) (zkL_49 ⟨by decide, by decide⟩ C0.2.2.2.2.1) 3 rfl rfl rfl rfl hl.1 (Nat.le_of_ble_eq_true rfl) dL_same_144 ⟨Nat.zero_le _, Nat.zero_le _⟩ (fun H locs hP hS => ?_)
          have hP : va_P D vwCl ((wX h cI (zx_lag t) (zx_dead t) (zx_manner t) (zx_setting t) (zx_keptRow t) (zx_liveRow t) (zx_shiftedRow t) (zx_groups t) (zx_search t) (zx_deadUntil t) (zx_settled t) (zx_known t) (zx_tooLate t) (zx_ended t)) ++ (wX h2 cI (zx_lag t2) (zx_dead t2) (zx_manner t2) (zx_setting t2) (zx_keptRow t2) (zx_liveRow t2) (zx_shiftedRow t2) (zx_groups t2) (zx_search t2) (zx_deadUntil t2) (zx_settled t2) (zx_known t2) (zx_tooLate t2) (zx_ended t2))) H := zb20 hP
          refine z_aload_n C0 dL_same_147 rfl (lv_at hl 2 rfl) ?_
          refine z_iload C0 dL_same_148 (lv_at hl 4 rfl) ?_
          obtain ⟨r62, hc63, hf⟩ := zbind hf
          refine z_qVi (rest := [.int (zI r60)]) C0 (zc21 hP) (zd21 (zD hD rfl)) hS (zmX3_live l D cI cZ h2 _ (zx_lag t2) (zx_dead t2) (zx_manner t2) (zx_setting t2) (zx_keptRow t2) (zx_liveRow t2) (zx_shiftedRow t2) (zx_groups t2) (zx_search t2) (zx_deadUntil t2) (zx_settled t2) (zx_known t2) (zx_tooLate t2) (zx_ended t2) i37 r62 hc63) (zkL_49 ⟨by decide, by decide⟩ C0.2.2.2.2.1) 3 rfl rfl rfl rfl hl.1 (Nat.le_of_ble_eq_true rfl) dL_same_150 ⟨Nat.zero_le _, Nat.zero_le _⟩ (fun H locs hP hS => ?_)
          have hP : va_P D vwCl ((wX h cI (zx_lag t) (zx_dead t) (zx_manner t) (zx_setting t) (zx_keptRow t) (zx_liveRow t) (zx_shiftedRow t) (zx_groups t) (zx_search t) (zx_deadUntil t) (zx_settled t) (zx_known t) (zx_tooLate t) (zx_ended t)) ++ (wX h2 cI (zx_lag t2) (zx_dead t2) (zx_manner t2) (zx_setting t2) (zx_keptRow t2) (zx_liveRow t2) (zx_shiftedRow t2) (zx_groups t2) (zx_search t2) (zx_deadUntil t2) (zx_settled t2) (zx_known t2) (zx_tooLate t2) (zx_ended t2))) H := zb21 hP
          refine z_icmpne C0 251 dL_same_153 (by decide) (fun c84 => ?_) (fun c84 => ?_)
          · have hf := zif_neg hf c84
            refine z_iconst C0 dL_same_251 ?_
            cases hf
          · have hf := zif_pos hf c84
            refine z_aload_n C0 dL_same_156 rfl (lv_at hl 1 rfl) ?_
            refine z_iload C0 dL_same_157 (lv_at hl 4 rfl) ?_
            refine z_iconst C0 dL_same_159 ?_
            obtain ⟨r64, hc65, hf⟩ := zbind hf
            refine z_qVl (rest := []) C0 (zc20 hP) (zd20 (zD hD rfl)) hS (zmX3_rate l D cI cZ h _ (zx_lag t) (zx_dead t) (zx_manner t) (zx_setting t) (zx_keptRow t) (zx_liveRow t) (zx_shiftedRow t) (zx_groups t) (zx_search t) (zx_deadUntil t) (zx_settled t) (zx_known t) (zx_tooLate t) (zx_ended t) i37 0 r64 hc65) (zkL_52 ⟨by decide, by decide⟩ C0.2.2.2.2.1) 3 rfl rfl rfl rfl hl.1 (Nat.le_of_ble_eq_true rfl) dL_same_160 ⟨Nat.zero_le _, Nat.zero_le _⟩ (fun H locs hP hS => ?_)
            have hP : va_P D vwCl ((wX h cI (zx_lag t) (zx_dead t) (zx_manner t) (zx_setting t) (zx_keptRow t) (zx_liveRow t) (zx_shiftedRow t) (zx_groups t) (zx_search t) (zx_deadUntil t) (zx_settled t) (zx_known t) (zx_tooLate t) (zx_ended t)) ++ (wX h2 cI (zx_lag t2) (zx_dead t2) (zx_manner t2) (zx_setting t2) (zx_keptRow t2) (zx_liveRow t2) (zx_shiftedRow t2) (zx_groups t2) (zx_search t2) (zx_deadUntil t2) (zx_settled t2) (zx_known t2) (zx_tooLate t2) (zx_ended t2))) H := zb20 hP
            refine z_aload_n C0 dL_same_163 rfl (lv_at hl 2 rfl) ?_
            refine z_iload C0 dL_same_164 (lv_at hl 4 rfl) ?_
            refine z_iconst C0 dL_same_166 ?_
            obtain ⟨r66, hc67, hf⟩ := zbind hf
            refine z_qVl (rest := [.long (zL r64)]) C0 (zc21 hP) (zd21 (zD hD rfl)) hS (zmX3_rate l D cI cZ h2 _ (zx_lag t2) (zx_dead t2) (zx_manner t2) (zx_setting t2) (zx_keptRow t2) (zx_liveRow t2) (zx_shiftedRow t2) (zx_groups t2) (zx_search t2) (zx_deadUntil t2) (zx_settled t2) (zx_known t2) (zx_tooLate t2) (zx_ended t2) i37 0 r66 hc67) (zkL_52 ⟨by decide, by decide⟩ C0.2.2.2.2.1) 3 rfl rfl rfl rfl hl.1 (Nat.le_of_ble_eq_true rfl) dL_same_167 ⟨Nat.zero_le _, Nat.zero_le _⟩ (fun H locs hP hS => ?_)
            have hP : va_P D vwCl ((wX h cI (zx_lag t) (zx_dead t) (zx_manner t) (zx_setting t) (zx_keptRow t) (zx_liveRow t) (zx_shiftedRow t) (zx_groups t) (zx_search t) (zx_deadUntil t) (zx_settled t) (zx_known t) (zx_tooLate t) (zx_ended t)) ++ (wX h2 cI (zx_lag t2) (zx_dead t2) (zx_manner t2) (zx_setting t2) (zx_keptRow t2) (zx_liveRow t2) (zx_shiftedRow t2) (zx_groups t2) (zx_search t2) (zx_deadUntil t2) (zx_settled t2) (zx_known t2) (zx_tooLate t2) (zx_ended t2))) H := zb21 hP
            refine z_lcmp C0 dL_same_170 ?_
            refine z_ifne C0 251 dL_same_171 (by decide) (fun c83 => ?_) (fun c83 => ?_)
            · have hf := zif_neg hf c83
              refine z_iconst C0 dL_same_251 ?_
              cases hf
            · have hf := zif_pos hf c83
              refine z_aload_n C0 dL_same_174 rfl (lv_at hl 1 rfl) ?_
              refine z_iload C0 dL_same_175 (lv_at hl 4 rfl) ?_
              refine z_iconst C0 dL_same_177 ?_
              obtain ⟨r68, hc69, hf⟩ := zbind hf
              refine z_qVl (rest := []) C0 (zc20 hP) (zd20 (zD hD rfl)) hS (zmX3_rate l D cI cZ h _ (zx_lag t) (zx_dead t) (zx_manner t) (zx_setting t) (zx_keptRow t) (zx_liveRow t) (zx_shiftedRow t) (zx_groups t) (zx_search t) (zx_deadUntil t) (zx_settled t) (zx_known t) (zx_tooLate t) (zx_ended t) i37 1 r68 hc69) (zkL_52 ⟨by decide, by decide⟩ C0.2.2.2.2.1) 3 rfl rfl rfl rfl hl.1 (Nat.le_of_ble_eq_true rfl) dL_same_178 ⟨Nat.zero_le _, Nat.zero_le _⟩ (fun H locs hP hS => ?_)
              have hP : va_P D vwCl ((wX h cI (zx_lag t) (zx_dead t) (zx_manner t) (zx_setting t) (zx_keptRow t) (zx_liveRow t) (zx_shiftedRow t) (zx_groups t) (zx_search t) (zx_deadUntil t) (zx_settled t) (zx_known t) (zx_tooLate t) (zx_ended t)) ++ (wX h2 cI (zx_lag t2) (zx_dead t2) (zx_manner t2) (zx_setting t2) (zx_keptRow t2) (zx_liveRow t2) (zx_shiftedRow t2) (zx_groups t2) (zx_search t2) (zx_deadUntil t2) (zx_settled t2) (zx_known t2) (zx_tooLate t2) (zx_ended t2))) H := zb20 hP
              refine z_aload_n C0 dL_same_181 rfl (lv_at hl 2 rfl) ?_
              refine z_iload C0 dL_same_182 (lv_at hl 4 rfl) ?_
              refine z_iconst C0 dL_same_184 ?_
              obtain ⟨r70, hc71, hf⟩ := zbind hf
              refine z_qVl (rest := [.long (zL r68)]) C0 (zc21 hP) (zd21 (zD hD rfl)) hS (zmX3_rate l D cI cZ h2 _ (zx_lag t2) (zx_dead t2) (zx_manner t2) (zx_setting t2) (zx_keptRow t2) (zx_liveRow t2) (zx_shiftedRow t2) (zx_groups t2) (zx_search t2) (zx_deadUntil t2) (zx_settled t2) (zx_known t2) (zx_tooLate t2) (zx_ended t2) i37 1 r70 hc71) (zkL_52 ⟨by decide, by decide⟩ C0.2.2.2.2.1) 3 rfl rfl rfl rfl hl.1 (Nat.le_of_ble_eq_true rfl) dL_same_185 ⟨Nat.zero_le _, Nat.zero_le _⟩ (fun H locs hP hS => ?_)
              have hP : va_P D vwCl ((wX h cI (zx_lag t) (zx_dead t) (zx_manner t) (zx_setting t) (zx_keptRow t) (zx_liveRow t) (zx_shiftedRow t) (zx_groups t) (zx_search t) (zx_deadUntil t) (zx_settled t) (zx_known t) (zx_tooLate t) (zx_ended t)) ++ (wX h2 cI (zx_lag t2) (zx_dead t2) (zx_manner t2) (zx_setting t2) (zx_keptRow t2) (zx_liveRow t2) (zx_shiftedRow t2) (zx_groups t2) (zx_search t2) (zx_deadUntil t2) (zx_settled t2) (zx_known t2) (zx_tooLate t2) (zx_ended t2))) H := zb21 hP
              refine z_lcmp C0 dL_same_188 ?_
              refine z_ifne C0 251 dL_same_189 (by decide) (fun c82 => ?_) (fun c82 => ?_)
              · have hf := zif_neg hf c82
                refine z_iconst C0 dL_same_251 ?_
                cases hf
              · have hf := zif_pos hf c82
                refine z_aload_n C0 dL_same_192 rfl (lv_at hl 1 rfl) ?_
                refine z_iload C0 dL_same_193 (lv_at hl 4 rfl) ?_
                refine z_iload C0 dL_same_195 (lv_at hl 0 rfl) ?_
                refine z_iconst C0 dL_same_197 ?_
                obtain ⟨r72, hc73, hf⟩ := zbind hf
                refine z_qVl (rest := []) C0 (zc20 hP) (zd20 (zD hD rfl)) hS (zmX3_expected l D cI cZ h _ (zx_lag t) (zx_dead t) (zx_manner t) (zx_setting t) (zx_keptRow t) (zx_liveRow t) (zx_shiftedRow t) (zx_groups t) (zx_search t) (zx_deadUntil t) (zx_settled t) (zx_known t) (zx_tooLate t) (zx_ended t) i37 v59 0 r72 hc73) (zkL_56 ⟨by decide, by decide⟩ C0.2.2.2.2.1) 3 rfl rfl rfl rfl hl.1 (Nat.le_of_ble_eq_true rfl) dL_same_198 ⟨Nat.zero_le _, Nat.zero_le _⟩ (fun H locs hP hS => ?_)
                have hP : va_P D vwCl ((wX h cI (zx_lag t) (zx_dead t) (zx_manner t) (zx_setting t) (zx_keptRow t) (zx_liveRow t) (zx_shiftedRow t) (zx_groups t) (zx_search t) (zx_deadUntil t) (zx_settled t) (zx_known t) (zx_tooLate t) (zx_ended t)) ++ (wX h2 cI (zx_lag t2) (zx_dead t2) (zx_manner t2) (zx_setting t2) (zx_keptRow t2) (zx_liveRow t2) (zx_shiftedRow t2) (zx_groups t2) (zx_search t2) (zx_deadUntil t2) (zx_settled t2) (zx_known t2) (zx_tooLate t2) (zx_ended t2))) H := zb20 hP
                refine z_aload_n C0 dL_same_201 rfl (lv_at hl 2 rfl) ?_
                refine z_iload C0 dL_same_202 (lv_at hl 4 rfl) ?_
                refine z_iload C0 dL_same_204 (lv_at hl 0 rfl) ?_
                refine z_iconst C0 dL_same_206 ?_
                obtain ⟨r74, hc75, hf⟩ := zbind hf
                refine z_qVl (rest := [.long (zL r72)]) C0 (zc21 hP) (zd21 (zD hD rfl)) hS (zmX3_expected l D cI cZ h2 _ (zx_lag t2) (zx_dead t2) (zx_manner t2) (zx_setting t2) (zx_keptRow t2) (zx_liveRow t2) (zx_shiftedRow t2) (zx_groups t2) (zx_search t2) (zx_deadUntil t2) (zx_settled t2) (zx_known t2) (zx_tooLate t2) (zx_ended t2) i37 v59 0 r74 hc75) (zkL_56 ⟨by decide, by decide⟩ C0.2.2.2.2.1) 3 rfl rfl rfl rfl hl.1 (Nat.le_of_ble_eq_true rfl) dL_same_207 ⟨Nat.zero_le _, Nat.zero_le _⟩ (fun H locs hP hS => ?_)
                have hP : va_P D vwCl ((wX h cI (zx_lag t) (zx_dead t) (zx_manner t) (zx_setting t) (zx_keptRow t) (zx_liveRow t) (zx_shiftedRow t) (zx_groups t) (zx_search t) (zx_deadUntil t) (zx_settled t) (zx_known t) (zx_tooLate t) (zx_ended t)) ++ (wX h2 cI (zx_lag t2) (zx_dead t2) (zx_manner t2) (zx_setting t2) (zx_keptRow t2) (zx_liveRow t2) (zx_shiftedRow t2) (zx_groups t2) (zx_search t2) (zx_deadUntil t2) (zx_settled t2) (zx_known t2) (zx_tooLate t2) (zx_ended t2))) H := zb21 hP
                refine z_lcmp C0 dL_same_210 ?_
                refine z_ifne C0 251 dL_same_211 (by decide) (fun c81 => ?_) (fun c81 => ?_)
                · have hf := zif_neg hf c81
                  refine z_iconst C0 dL_same_251 ?_
                  cases hf
                · have hf := zif_pos hf c81
                  refine z_aload_n C0 dL_same_214 rfl (lv_at hl 1 rfl) ?_
                  refine z_iload C0 dL_same_215 (lv_at hl 4 rfl) ?_
                  refine z_iload C0 dL_same_217 (lv_at hl 0 rfl) ?_
                  refine z_iload_n C0 dL_same_219 rfl (lv_at hl 3 rfl) ?_
                  refine z_iconst C0 dL_same_220 ?_
                  refine z_ishr C0 dL_same_221 ?_
                  refine z_bipush C0 dL_same_222 (by decide +kernel) ?_
                  refine z_iand C0 dL_same_224 ?_
                  refine z_bipush C0 dL_same_225 (by decide +kernel) ?_
                  refine z_isub C0 dL_same_227 ?_
                  obtain ⟨r76, hc77, hf⟩ := zbind hf
                  refine z_qVi (rest := []) C0 (zc20 hP) (zd20 (zD hD rfl)) hS (zmX3_twos l D cI cZ h _ (zx_lag t) (zx_dead t) (zx_manner t) (zx_setting t) (zx_keptRow t) (zx_liveRow t) (zx_shiftedRow t) (zx_groups t) (zx_search t) (zx_deadUntil t) (zx_settled t) (zx_known t) (zx_tooLate t) (zx_ended t) i37 v59 ((zand (zshr p2 4) 31) - 16) r76 hc77) (zkL_60 ⟨by decide, by decide⟩ C0.2.2.2.2.1) 3 rfl rfl rfl rfl hl.1 (Nat.le_of_ble_eq_true rfl) dL_same_228 ⟨Nat.zero_le _, Nat.zero_le _⟩ (fun H locs hP hS => ?_)
                  have hP : va_P D vwCl ((wX h cI (zx_lag t) (zx_dead t) (zx_manner t) (zx_setting t) (zx_keptRow t) (zx_liveRow t) (zx_shiftedRow t) (zx_groups t) (zx_search t) (zx_deadUntil t) (zx_settled t) (zx_known t) (zx_tooLate t) (zx_ended t)) ++ (wX h2 cI (zx_lag t2) (zx_dead t2) (zx_manner t2) (zx_setting t2) (zx_keptRow t2) (zx_liveRow t2) (zx_shiftedRow t2) (zx_groups t2) (zx_search t2) (zx_deadUntil t2) (zx_settled t2) (zx_known t2) (zx_tooLate t2) (zx_ended t2))) H := zb20 hP
                  refine z_aload_n C0 dL_same_231 rfl (lv_at hl 2 rfl) ?_
                  refine z_iload C0 dL_same_232 (lv_at hl 4 rfl) ?_
                  refine z_iload C0 dL_same_234 (lv_at hl 0 rfl) ?_
                  refine z_iload_n C0 dL_same_236 rfl (lv_at hl 3 rfl) ?_
                  refine z_iconst C0 dL_same_237 ?_
                  refine z_ishr C0 dL_same_238 ?_
                  refine z_bipush C0 dL_same_239 (by decide +kernel) ?_
                  refine z_iand C0 dL_same_241 ?_
                  refine z_bipush C0 dL_same_242 (by decide +kernel) ?_
                  refine z_isub C0 dL_same_244 ?_
                  obtain ⟨r78, hc79, hf⟩ := zbind hf
                  refine z_qVi (rest := [.int (zI r76)]) C0 (zc21 hP) (zd21 (zD hD rfl)) hS (zmX3_twos l D cI cZ h2 _ (zx_lag t2) (zx_dead t2) (zx_manner t2) (zx_setting t2) (zx_keptRow t2) (zx_liveRow t2) (zx_shiftedRow t2) (zx_groups t2) (zx_search t2) (zx_deadUntil t2) (zx_settled t2) (zx_known t2) (zx_tooLate t2) (zx_ended t2) i37 v59 ((zand (zshr p2 4) 31) - 16) r78 hc79) (zkL_60 ⟨by decide, by decide⟩ C0.2.2.2.2.1) 3 rfl rfl rfl rfl hl.1 (Nat.le_of_ble_eq_true rfl) dL_same_245 ⟨Nat.zero_le _, Nat.zero_le _⟩ (fun H locs hP hS => ?_)
                  have hP : va_P D vwCl ((wX h cI (zx_lag t) (zx_dead t) (zx_manner t) (zx_setting t) (zx_keptRow t) (zx_liveRow t) (zx_shiftedRow t) (zx_groups t) (zx_search t) (zx_deadUntil t) (zx_settled t) (zx_known t) (zx_tooLate t) (zx_ended t)) ++ (wX h2 cI (zx_lag t2) (zx_dead t2) (zx_manner t2) (zx_setting t2) (zx_keptRow t2) (zx_liveRow t2) (zx_shiftedRow t2) (zx_groups t2) (zx_search t2) (zx_deadUntil t2) (zx_settled t2) (zx_known t2) (zx_tooLate t2) (zx_ended t2))) H := zb21 hP
                  refine z_icmpeq C0 253 dL_same_248 (by decide) (fun c80 => ?_) (fun c80 => ?_)
                  · have hf := zif_pos hf c80
                    refine z_iinc C0 [(4, .int (zI (i37 + 1))), (5, .int (zI v59)), (0, .ref (h 0)), (1, .ref (h2 0)), (2, .int (zI p2))] dL_same_253 hl 4 rfl (by decide) rfl (fun ls hl => ?_)
                    refine z_goto C0 82 dL_same_256 (by decide) ?_
                    exact ih (i37 + 1) out hf K _ _ hP hS ls (lv_sub hl [2, 3, 4, 0] rfl)
                  · have hf := zif_neg hf c80
                    refine z_iconst C0 dL_same_251 ?_
                    cases hf
    obtain ⟨r87, hE88, hf⟩ := zbind hf
    refine L86 _ 0 r87 hE88 ?_ _ _ hP hS ls (lv_sub hl [1, 2, 3, 0] rfl)
    intro H locs hP hS ls hl
    refine z_aload_n C0 dL_same_259 rfl (lv_at hl 0 rfl) ?_
    refine z_iload_n C0 dL_same_260 rfl (lv_at hl 2 rfl) ?_
    refine z_bipush C0 dL_same_261 (by decide +kernel) ?_
    refine z_iand C0 dL_same_263 ?_
    refine z_iload_n C0 dL_same_264 rfl (lv_at hl 2 rfl) ?_
    refine z_bipush C0 dL_same_265 (by decide +kernel) ?_
    refine z_ishr C0 dL_same_267 ?_
    refine z_bipush C0 dL_same_268 (by decide +kernel) ?_
    refine z_iand C0 dL_same_270 ?_
    obtain ⟨r89, hc90, hf⟩ := zbind hf
    refine z_qVi (rest := []) C0 (zc20 hP) (zd20 (zD hD rfl)) hS (zmX3_shifted l D cI cZ h _ (zx_lag t) (zx_dead t) (zx_manner t) (zx_setting t) (zx_keptRow t) (zx_liveRow t) (zx_shiftedRow t) (zx_groups t) (zx_search t) (zx_deadUntil t) (zx_settled t) (zx_known t) (zx_tooLate t) (zx_ended t) (zand p2 63) (zand (zshr p2 6) 63) r89 hc90) (zkL_63 ⟨by decide, by decide⟩ C0.2.2.2.2.1) 3 rfl rfl rfl rfl hl.1 (Nat.le_of_ble_eq_true rfl) dL_same_271 ⟨Nat.zero_le _, Nat.zero_le _⟩ (fun H locs hP hS => ?_)
    have hP : va_P D vwCl ((wX h cI (zx_lag t) (zx_dead t) (zx_manner t) (zx_setting t) (zx_keptRow t) (zx_liveRow t) r89.2 (zx_groups t) (zx_search t) (zx_deadUntil t) (zx_settled t) (zx_known t) (zx_tooLate t) (zx_ended t)) ++ (wX h2 cI (zx_lag t2) (zx_dead t2) (zx_manner t2) (zx_setting t2) (zx_keptRow t2) (zx_liveRow t2) (zx_shiftedRow t2) (zx_groups t2) (zx_search t2) (zx_deadUntil t2) (zx_settled t2) (zx_known t2) (zx_tooLate t2) (zx_ended t2))) H := zb20 hP
    refine z_aload_n C0 dL_same_274 rfl (lv_at hl 1 rfl) ?_
    refine z_iload_n C0 dL_same_275 rfl (lv_at hl 2 rfl) ?_
    refine z_bipush C0 dL_same_276 (by decide +kernel) ?_
    refine z_iand C0 dL_same_278 ?_
    refine z_iload_n C0 dL_same_279 rfl (lv_at hl 2 rfl) ?_
    refine z_bipush C0 dL_same_280 (by decide +kernel) ?_
    refine z_ishr C0 dL_same_282 ?_
    refine z_bipush C0 dL_same_283 (by decide +kernel) ?_
    refine z_iand C0 dL_same_285 ?_
    obtain ⟨r91, hc92, hf⟩ := zbind hf
    refine z_qVi (rest := [.int (zI r89.1)]) C0 (zc21 hP) (zd21 (zD hD rfl)) hS (zmX3_shifted l D cI cZ h2 _ (zx_lag t2) (zx_dead t2) (zx_manner t2) (zx_setting t2) (zx_keptRow t2) (zx_liveRow t2) (zx_shiftedRow t2) (zx_groups t2) (zx_search t2) (zx_deadUntil t2) (zx_settled t2) (zx_known t2) (zx_tooLate t2) (zx_ended t2) (zand p2 63) (zand (zshr p2 6) 63) r91 hc92) (zkL_63 ⟨by decide, by decide⟩ C0.2.2.2.2.1) 3 rfl rfl rfl rfl hl.1 (Nat.le_of_ble_eq_true rfl) dL_same_286 ⟨Nat.zero_le _, Nat.zero_le _⟩ (fun H locs hP hS => ?_)
    have hP : va_P D vwCl ((wX h cI (zx_lag t) (zx_dead t) (zx_manner t) (zx_setting t) (zx_keptRow t) (zx_liveRow t) r89.2 (zx_groups t) (zx_search t) (zx_deadUntil t) (zx_settled t) (zx_known t) (zx_tooLate t) (zx_ended t)) ++ (wX h2 cI (zx_lag t2) (zx_dead t2) (zx_manner t2) (zx_setting t2) (zx_keptRow t2) (zx_liveRow t2) r91.2 (zx_groups t2) (zx_search t2) (zx_deadUntil t2) (zx_settled t2) (zx_known t2) (zx_tooLate t2) (zx_ended t2))) H := zb21 hP
    refine z_icmpne C0 360 dL_same_289 (by decide) (fun c107 => ?_) (fun c107 => ?_)
    · have hf := zif_neg hf c107
      refine z_iconst C0 dL_same_360 ?_
      cases hf
    · have hf := zif_pos hf c107
      refine z_aload_n C0 dL_same_292 rfl (lv_at hl 0 rfl) ?_
      refine z_iload_n C0 dL_same_293 rfl (lv_at hl 2 rfl) ?_
      refine z_bipush C0 dL_same_294 (by decide +kernel) ?_
      refine z_ishr C0 dL_same_296 ?_
      refine z_bipush C0 dL_same_297 (by decide +kernel) ?_
      refine z_iand C0 dL_same_299 ?_
      refine z_iconst C0 dL_same_300 ?_
      obtain ⟨r93, hc94, hf⟩ := zbind hf
      refine z_qVi (rest := []) C0 (zc20 hP) (zd20 (zD hD rfl)) hS (zmX3_having l D cI cZ h _ (zx_lag t) (zx_dead t) (zx_manner t) (zx_setting t) (zx_keptRow t) (zx_liveRow t) r89.2 (zx_groups t) (zx_search t) (zx_deadUntil t) (zx_settled t) (zx_known t) (zx_tooLate t) (zx_ended t) (zand (zshr p2 12) 63) 1 r93 hc94) (zkL_66 ⟨by decide, by decide⟩ C0.2.2.2.2.1) 3 rfl rfl rfl rfl hl.1 (Nat.le_of_ble_eq_true rfl) dL_same_301 ⟨Nat.zero_le _, Nat.zero_le _⟩ (fun H locs hP hS => ?_)
      have hP : va_P D vwCl ((wX h cI (zx_lag t) (zx_dead t) (zx_manner t) (zx_setting t) (zx_keptRow t) (zx_liveRow t) r89.2 (zx_groups t) (zx_search t) (zx_deadUntil t) (zx_settled t) (zx_known t) (zx_tooLate t) (zx_ended t)) ++ (wX h2 cI (zx_lag t2) (zx_dead t2) (zx_manner t2) (zx_setting t2) (zx_keptRow t2) (zx_liveRow t2) r91.2 (zx_groups t2) (zx_search t2) (zx_deadUntil t2) (zx_settled t2) (zx_known t2) (zx_tooLate t2) (zx_ended t2))) H := zb20 hP
      refine z_aload_n C0 dL_same_304 rfl (lv_at hl 1 rfl) ?_
      refine z_iload_n C0 dL_same_305 rfl (lv_at hl 2 rfl) ?_
      refine z_bipush C0 dL_same_306 (by decide +kernel) ?_
      refine z_ishr C0 dL_same_308 ?_
      refine z_bipush C0 dL_same_309 (by decide +kernel) ?_
      refine z_iand C0 dL_same_311 ?_
      refine z_iconst C0 dL_same_312 ?_
      obtain ⟨r95, hc96, hf⟩ := zbind hf
      refine z_qVi (rest := [.int (zI r93)]) C0 (zc21 hP) (zd21 (zD hD rfl)) hS (zmX3_having l D cI cZ h2 _ (zx_lag t2) (zx_dead t2) (zx_manner t2) (zx_setting t2) (zx_keptRow t2) (zx_liveRow t2) r91.2 (zx_groups t2) (zx_search t2) (zx_deadUntil t2) (zx_settled t2) (zx_known t2) (zx_tooLate t2) (zx_ended t2) (zand (zshr p2 12) 63) 1 r95 hc96) (zkL_66 ⟨by decide, by decide⟩ C0.2.2.2.2.1) 3 rfl rfl rfl rfl hl.1 (Nat.le_of_ble_eq_true rfl) dL_same_313 ⟨Nat.zero_le _, Nat.zero_le _⟩ (fun H locs hP hS => ?_)
      have hP : va_P D vwCl ((wX h cI (zx_lag t) (zx_dead t) (zx_manner t) (zx_setting t) (zx_keptRow t) (zx_liveRow t) r89.2 (zx_groups t) (zx_search t) (zx_deadUntil t) (zx_settled t) (zx_known t) (zx_tooLate t) (zx_ended t)) ++ (wX h2 cI (zx_lag t2) (zx_dead t2) (zx_manner t2) (zx_setting t2) (zx_keptRow t2) (zx_liveRow t2) r91.2 (zx_groups t2) (zx_search t2) (zx_deadUntil t2) (zx_settled t2) (zx_known t2) (zx_tooLate t2) (zx_ended t2))) H := zb21 hP
      refine z_icmpne C0 360 dL_same_316 (by decide) (fun c106 => ?_) (fun c106 => ?_)
      · have hf := zif_neg hf c106
        refine z_iconst C0 dL_same_360 ?_
        cases hf
      · have hf := zif_pos hf c106
        refine z_aload_n C0 dL_same_319 rfl (lv_at hl 0 rfl) ?_
        refine z_iload_n C0 dL_same_320 rfl (lv_at hl 2 rfl) ?_
        refine z_bipush C0 dL_same_321 (by decide +kernel) ?_
        obtain ⟨r97, hc98, hf⟩ := zbind hf
        refine z_qSi (rest := [.ref (h 0)]) C0 (zc0 hP) (zd0 (zD hD rfl)) hS (zmL_low l D cI cZ _ p2 6 r97 hc98) (zkL_15 ⟨by decide, by decide⟩ C0.2.2.2.2.1) rfl rfl hl.1 (Nat.le_of_ble_eq_true rfl) dL_same_323 ⟨Nat.zero_le _, Nat.zero_le _⟩ (fun H locs hP hS => ?_)
        have hP : va_P D vwCl ((wX h cI (zx_lag t) (zx_dead t) (zx_manner t) (zx_setting t) (zx_keptRow t) (zx_liveRow t) r89.2 (zx_groups t) (zx_search t) (zx_deadUntil t) (zx_settled t) (zx_known t) (zx_tooLate t) (zx_ended t)) ++ (wX h2 cI (zx_lag t2) (zx_dead t2) (zx_manner t2) (zx_setting t2) (zx_keptRow t2) (zx_liveRow t2) r91.2 (zx_groups t2) (zx_search t2) (zx_deadUntil t2) (zx_settled t2) (zx_known t2) (zx_tooLate t2) (zx_ended t2))) H := zb0 hP
        refine z_iload_n C0 dL_same_326 rfl (lv_at hl 2 rfl) ?_
        refine z_bipush C0 dL_same_327 (by decide +kernel) ?_
        refine z_ishr C0 dL_same_329 ?_
        refine z_bipush C0 dL_same_330 (by decide +kernel) ?_
        refine z_iand C0 dL_same_332 ?_
        obtain ⟨r99, hc100, hf⟩ := zbind hf
        refine z_qVi (rest := []) C0 (zc20 hP) (zd20 (zD hD rfl)) hS (zmX3_through l D cI cZ h _ (zx_lag t) (zx_dead t) (zx_manner t) (zx_setting t) (zx_keptRow t) (zx_liveRow t) r89.2 (zx_groups t) (zx_search t) (zx_deadUntil t) (zx_settled t) (zx_known t) (zx_tooLate t) (zx_ended t) r97 (zand (zshr p2 18) 15) r99 hc100) (zkL_69 ⟨by decide, by decide⟩ C0.2.2.2.2.1) 3 rfl rfl rfl rfl hl.1 (Nat.le_of_ble_eq_true rfl) dL_same_333 ⟨Nat.zero_le _, Nat.zero_le _⟩ (fun H locs hP hS => ?_)
        have hP : va_P D vwCl ((wX h cI (zx_lag t) (zx_dead t) (zx_manner t) (zx_setting t) (zx_keptRow t) (zx_liveRow t) r89.2 (zx_groups t) (zx_search t) (zx_deadUntil t) (zx_settled t) (zx_known t) (zx_tooLate t) (zx_ended t)) ++ (wX h2 cI (zx_lag t2) (zx_dead t2) (zx_manner t2) (zx_setting t2) (zx_keptRow t2) (zx_liveRow t2) r91.2 (zx_groups t2) (zx_search t2) (zx_deadUntil t2) (zx_settled t2) (zx_known t2) (zx_tooLate t2) (zx_ended t2))) H := zb20 hP
        refine z_aload_n C0 dL_same_336 rfl (lv_at hl 1 rfl) ?_
        refine z_iload_n C0 dL_same_337 rfl (lv_at hl 2 rfl) ?_
        refine z_bipush C0 dL_same_338 (by decide +kernel) ?_
        obtain ⟨r101, hc102, hf⟩ := zbind hf
        refine z_qSi (rest := [.ref (h2 0), .int (zI r99)]) C0 (zc0 hP) (zd0 (zD hD rfl)) hS (zmL_low l D cI cZ _ p2 6 r101 hc102) (zkL_15 ⟨by decide, by decide⟩ C0.2.2.2.2.1) rfl rfl hl.1 (Nat.le_of_ble_eq_true rfl) dL_same_340 ⟨Nat.zero_le _, Nat.zero_le _⟩ (fun H locs hP hS => ?_)
        have hP : va_P D vwCl ((wX h cI (zx_lag t) (zx_dead t) (zx_manner t) (zx_setting t) (zx_keptRow t) (zx_liveRow t) r89.2 (zx_groups t) (zx_search t) (zx_deadUntil t) (zx_settled t) (zx_known t) (zx_tooLate t) (zx_ended t)) ++ (wX h2 cI (zx_lag t2) (zx_dead t2) (zx_manner t2) (zx_setting t2) (zx_keptRow t2) (zx_liveRow t2) r91.2 (zx_groups t2) (zx_search t2) (zx_deadUntil t2) (zx_settled t2) (zx_known t2) (zx_tooLate t2) (zx_ended t2))) H := zb0 hP
        refine z_iload_n C0 dL_same_343 rfl (lv_at hl 2 rfl) ?_
        refine z_bipush C0 dL_same_344 (by decide +kernel) ?_
        refine z_ishr C0 dL_same_346 ?_
        refine z_bipush C0 dL_same_347 (by decide +kernel) ?_
        refine z_iand C0 dL_same_349 ?_
        obtain ⟨r103, hc104, hf⟩ := zbind hf
        refine z_qVi (rest := [.int (zI r99)]) C0 (zc21 hP) (zd21 (zD hD rfl)) hS (zmX3_through l D cI cZ h2 _ (zx_lag t2) (zx_dead t2) (zx_manner t2) (zx_setting t2) (zx_keptRow t2) (zx_liveRow t2) r91.2 (zx_groups t2) (zx_search t2) (zx_deadUntil t2) (zx_settled t2) (zx_known t2) (zx_tooLate t2) (zx_ended t2) r101 (zand (zshr p2 18) 15) r103 hc104) (zkL_69 ⟨by decide, by decide⟩ C0.2.2.2.2.1) 3 rfl rfl rfl rfl hl.1 (Nat.le_of_ble_eq_true rfl) dL_same_350 ⟨Nat.zero_le _, Nat.zero_le _⟩ (fun H locs hP hS => ?_)
        have hP : va_P D vwCl ((wX h cI (zx_lag t) (zx_dead t) (zx_manner t) (zx_setting t) (zx_keptRow t) (zx_liveRow t) r89.2 (zx_groups t) (zx_search t) (zx_deadUntil t) (zx_settled t) (zx_known t) (zx_tooLate t) (zx_ended t)) ++ (wX h2 cI (zx_lag t2) (zx_dead t2) (zx_manner t2) (zx_setting t2) (zx_keptRow t2) (zx_liveRow t2) r91.2 (zx_groups t2) (zx_search t2) (zx_deadUntil t2) (zx_settled t2) (zx_known t2) (zx_tooLate t2) (zx_ended t2))) H := zb21 hP
        refine z_icmpne C0 360 dL_same_353 (by decide) (fun c105 => ?_) (fun c105 => ?_)
        · have hf := zif_neg hf c105
          refine z_iconst C0 dL_same_360 ?_
          cases hf
        · have hf := zif_pos hf c105
          refine z_iconst C0 dL_same_356 ?_
          refine z_goto C0 361 dL_same_357 (by decide) ?_
          cases hf
          exact hret (Or.inr rfl) hP hS dL_same_361
  · have hf := zif_neg hf c108
    refine z_iconst C0 dL_same_17 ?_
    cases hf
