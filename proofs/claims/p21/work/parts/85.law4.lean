set_option maxHeartbeats 4000000 in
set_option maxRecDepth 100000 in
theorem zmL_sums (l : Launch) (D : va_G) (cI cZ : ClassId) (h : Nat → Nat) (sz : Nat) (t : zXT)  (o : Int) (hf : fL_sums t = some o) : Met l yL_sums (zW yL_sums cL_sums 10 (some .boolean)) rmL_sums (va_Pc [.ref (h 0)] (zPre D cI cZ ((wX h cI (zx_lag t) (zx_dead t) (zx_manner t) (zx_setting t) (zx_keptRow t) (zx_liveRow t) (zx_shiftedRow t) (zx_groups t) (zx_search t) (zx_deadUntil t) (zx_settled t) (zx_known t) (zx_tooLate t) (zx_ended t))) sz)) (va_Qi (fun r' (_ : Unit) => r' = zI o) (fun _ tq => va_P D vwCl ((wX h cI (zx_lag t) (zx_dead t) (zx_manner t) (zx_setting t) (zx_keptRow t) (zx_liveRow t) (zx_shiftedRow t) (zx_groups t) (zx_search t) (zx_deadUntil t) (zx_settled t) (zx_known t) (zx_tooLate t) (zx_ended t))) tq.heap) (va_A ((wX h cI (zx_lag t) (zx_dead t) (zx_manner t) (zx_setting t) (zx_keptRow t) (zx_liveRow t) (zx_shiftedRow t) (zx_groups t) (zx_search t) (zx_deadUntil t) (zx_settled t) (zx_known t) (zx_tooLate t) (zx_ended t))) sz)) 0 0 (va_A ((wX h cI (zx_lag t) (zx_dead t) (zx_manner t) (zx_setting t) (zx_keptRow t) (zx_liveRow t) (zx_shiftedRow t) (zx_groups t) (zx_search t) (zx_deadUntil t) (zx_settled t) (zx_known t) (zx_tooLate t) (zx_ended t))) sz) := by
  unfold fL_sums at hf
  refine z_enter_z (own := RL) (by decide +kernel) rfl (Nat.le_of_ble_eq_true rfl) ?_
  intro p e s m args below meth c A Q C0 hP hD hS hret ls hl
  have hl : lv_has ls 10 [(0, .ref (h 0))] := hl
  refine z_aload_n C0 dL_sums_0 rfl (lv_at hl 0 rfl) ?_
  refine z_bipush C0 dL_sums_1 (by decide +kernel) ?_
  obtain ⟨r1, hc2, hf⟩ := zbind hf
  refine z_qVi (rest := []) C0 (zc1n hP) (zd1n (zD hD rfl)) hS (zmX3_many l D cI cZ h _ (zx_lag t) (zx_dead t) (zx_manner t) (zx_setting t) (zx_keptRow t) (zx_liveRow t) (zx_shiftedRow t) (zx_groups t) (zx_search t) (zx_deadUntil t) (zx_settled t) (zx_known t) (zx_tooLate t) (zx_ended t) 7 r1 hc2) (zkL_38 ⟨by decide, by decide⟩ C0.2.2.2.2.1) 3 rfl rfl rfl rfl hl.1 (Nat.le_of_ble_eq_true rfl) dL_sums_3 ⟨Nat.zero_le _, Nat.zero_le _⟩ (fun H locs hP hS => ?_)
  have hP : va_P D vwCl ((wX h cI (zx_lag t) (zx_dead t) (zx_manner t) (zx_setting t) (zx_keptRow t) (zx_liveRow t) (zx_shiftedRow t) (zx_groups t) (zx_search t) (zx_deadUntil t) (zx_settled t) (zx_known t) (zx_tooLate t) (zx_ended t))) H := zb1n hP
  refine z_istore_n C0 [(1, .int (zI r1)), (0, .ref (h 0))] dL_sums_6 rfl hl (by decide) rfl (fun ls hl => ?_)
  refine z_iconst C0 dL_sums_7 ?_
  refine z_istore_n C0 [(2, .int (zI 0)), (1, .int (zI r1)), (0, .ref (h 0))] dL_sums_8 rfl hl (by decide) rfl (fun ls hl => ?_)
  refine z_iconst C0 dL_sums_9 ?_
  refine z_istore_n C0 [(3, .int (zI 0)), (2, .int (zI 0)), (1, .int (zI r1)), (0, .ref (h 0))] dL_sums_10 rfl hl (by decide) rfl (fun ls hl => ?_)
  refine z_sipush C0 dL_sums_11 (by decide +kernel) ?_
  refine z_istore C0 [(4, .int (zI (-999))), (3, .int (zI 0)), (2, .int (zI 0)), (1, .int (zI r1)), (0, .ref (h 0))] dL_sums_14 hl (by decide) rfl (fun ls hl => ?_)
  refine z_iconst C0 dL_sums_16 ?_
  refine z_istore C0 [(5, .int (zI 0)), (4, .int (zI (-999))), (3, .int (zI 0)), (2, .int (zI 0)), (1, .int (zI r1)), (0, .ref (h 0))] dL_sums_17 hl (by decide) rfl (fun ls hl => ?_)
  have L70 : ∀ (zn : Nat) (i6 : Int) (i7 : Int) (i8 : Int) (out : Int), fL_sums_L19 zn t r1 i6 i7 i8 = some out → (∀ (H : Heap) (locs : List Loc), va_P D vwCl ((wX h cI (zx_lag t) (zx_dead t) (zx_manner t) (zx_setting t) (zx_keptRow t) (zx_liveRow t) (zx_shiftedRow t) (zx_groups t) (zx_search t) (zx_deadUntil t) (zx_settled t) (zx_known t) (zx_tooLate t) (zx_ended t))) H → va_S A s.heap H locs → ∀ ls : Array Slot, lv_has ls 10 [(0, .ref (h 0)), (1, .int (zI r1)), (2, .int (zI 0)), (3, .int (zI out))] → W p l e rmL_sums s m args below meth c H locs 0 0 Q (F0 m 227 ls [])) → ∀ (H : Heap) (locs : List Loc), va_P D vwCl ((wX h cI (zx_lag t) (zx_dead t) (zx_manner t) (zx_setting t) (zx_keptRow t) (zx_liveRow t) (zx_shiftedRow t) (zx_groups t) (zx_search t) (zx_deadUntil t) (zx_settled t) (zx_known t) (zx_tooLate t) (zx_ended t))) H → va_S A s.heap H locs → ∀ ls : Array Slot, lv_has ls 10 [(0, .ref (h 0)), (1, .int (zI r1)), (2, .int (zI 0)), (3, .int (zI i6)), (4, .int (zI i7)), (5, .int (zI i8))] → W p l e rmL_sums s m args below meth c H locs 0 0 Q (F0 m 19 ls []) := by
    intro zn
    induction zn with
    | zero =>
      intro i6 i7 i8 out hf
      rw [fL_sums_L19_z] at hf
      cases hf
    | succ zn ih =>
      intro i6 i7 i8 out hf K H locs hP hS ls hl
      rw [fL_sums_L19_s] at hf
      refine z_iload C0 dL_sums_19 (lv_at hl 5 rfl) ?_
      refine z_iload_n C0 dL_sums_21 rfl (lv_at hl 1 rfl) ?_
      refine z_icmpge C0 227 dL_sums_22 (by decide) (fun c69 => ?_) (fun c69 => ?_)
      · have hf := zif_pos hf c69
        cases hf
        exact K _ _ hP hS ls (lv_sub hl [0, 1, 2, 3] rfl)
      · have hf := zif_neg hf c69
        refine z_aload_n C0 dL_sums_25 rfl (lv_at hl 0 rfl) ?_
        refine z_iload C0 dL_sums_26 (lv_at hl 5 rfl) ?_
        refine z_iconst C0 dL_sums_28 ?_
        obtain ⟨r10, hc11, hf⟩ := zbind hf
        refine z_qVi (rest := []) C0 (zc1n hP) (zd1n (zD hD rfl)) hS (zmX3_group l D cI cZ h _ (zx_lag t) (zx_dead t) (zx_manner t) (zx_setting t) (zx_keptRow t) (zx_liveRow t) (zx_shiftedRow t) (zx_groups t) (zx_search t) (zx_deadUntil t) (zx_settled t) (zx_known t) (zx_tooLate t) (zx_ended t) i8 0 r10 hc11) (zkL_28 ⟨by decide, by decide⟩ C0.2.2.2.2.1) 3 rfl rfl rfl rfl hl.1 (Nat.le_of_ble_eq_true rfl) dL_sums_29 ⟨Nat.zero_le _, Nat.zero_le _⟩ (fun H locs hP hS => ?_)
        have hP : va_P D vwCl ((wX h cI (zx_lag t) (zx_dead t) (zx_manner t) (zx_setting t) (zx_keptRow t) (zx_liveRow t) (zx_shiftedRow t) (zx_groups t) (zx_search t) (zx_deadUntil t) (zx_settled t) (zx_known t) (zx_tooLate t) (zx_ended t))) H := zb1n hP
        refine z_istore C0 [(6, .int (zI r10)), (0, .ref (h 0)), (1, .int (zI r1)), (2, .int (zI 0)), (3, .int (zI i6)), (4, .int (zI i7)), (5, .int (zI i8))] dL_sums_32 hl (by decide) rfl (fun ls hl => ?_)
        refine z_iconst C0 dL_sums_34 ?_
        refine z_istore C0 [(7, .int (zI 0)), (6, .int (zI r10)), (0, .ref (h 0)), (1, .int (zI r1)), (2, .int (zI 0)), (3, .int (zI i6)), (4, .int (zI i7)), (5, .int (zI i8))] dL_sums_35 hl (by decide) rfl (fun ls hl => ?_)
        refine z_iconst C0 dL_sums_37 ?_
        refine z_istore C0 [(8, .int (zI 0)), (7, .int (zI 0)), (6, .int (zI r10)), (0, .ref (h 0)), (1, .int (zI r1)), (2, .int (zI 0)), (3, .int (zI i6)), (4, .int (zI i7)), (5, .int (zI i8))] dL_sums_38 hl (by decide) rfl (fun ls hl => ?_)
        have L53 : ∀ (zn : Nat) (i19 : Int) (i20 : Int) (out : Int), fL_sums_L40 zn t r1 i6 i7 i8 r10 i19 i20 = some out → (∀ (H : Heap) (locs : List Loc), va_P D vwCl ((wX h cI (zx_lag t) (zx_dead t) (zx_manner t) (zx_setting t) (zx_keptRow t) (zx_liveRow t) (zx_shiftedRow t) (zx_groups t) (zx_search t) (zx_deadUntil t) (zx_settled t) (zx_known t) (zx_tooLate t) (zx_ended t))) H → va_S A s.heap H locs → ∀ ls : Array Slot, lv_has ls 10 [(0, .ref (h 0)), (1, .int (zI r1)), (2, .int (zI 0)), (3, .int (zI i6)), (4, .int (zI i7)), (5, .int (zI i8)), (6, .int (zI r10)), (7, .int (zI out))] → W p l e rmL_sums s m args below meth c H locs 0 0 Q (F0 m 164 ls [])) → ∀ (H : Heap) (locs : List Loc), va_P D vwCl ((wX h cI (zx_lag t) (zx_dead t) (zx_manner t) (zx_setting t) (zx_keptRow t) (zx_liveRow t) (zx_shiftedRow t) (zx_groups t) (zx_search t) (zx_deadUntil t) (zx_settled t) (zx_known t) (zx_tooLate t) (zx_ended t))) H → va_S A s.heap H locs → ∀ ls : Array Slot, lv_has ls 10 [(0, .ref (h 0)), (1, .int (zI r1)), (2, .int (zI 0)), (3, .int (zI i6)), (4, .int (zI i7)), (5, .int (zI i8)), (6, .int (zI r10)), (7, .int (zI i19)), (8, .int (zI i20))] → W p l e rmL_sums s m args below meth c H locs 0 0 Q (F0 m 40 ls []) := by
          intro zn
          induction zn with
          | zero =>
            intro i19 i20 out hf
            rw [fL_sums_L40_z] at hf
            cases hf
          | succ zn ih =>
            intro i19 i20 out hf K H locs hP hS ls hl
            rw [fL_sums_L40_s] at hf
            refine z_iload C0 dL_sums_40 (lv_at hl 8 rfl) ?_
            refine z_bipush C0 dL_sums_42 (by decide +kernel) ?_
            refine z_icmpge C0 164 dL_sums_44 (by decide) (fun c52 => ?_) (fun c52 => ?_)
            · have hf := zif_pos hf c52
              cases hf
              exact K _ _ hP hS ls (lv_sub hl [0, 1, 2, 3, 4, 5, 6, 7] rfl)
            · have hf := zif_neg hf c52
              refine z_aload_n C0 dL_sums_47 rfl (lv_at hl 0 rfl) ?_
              refine z_iload C0 dL_sums_48 (lv_at hl 5 rfl) ?_
              refine z_iload C0 dL_sums_50 (lv_at hl 8 rfl) ?_
              refine z_iconst C0 dL_sums_52 ?_
              obtain ⟨r22, hc23, hf⟩ := zbind hf
              refine z_qVi (rest := []) C0 (zc1n hP) (zd1n (zD hD rfl)) hS (zmX3_member l D cI cZ h _ (zx_lag t) (zx_dead t) (zx_manner t) (zx_setting t) (zx_keptRow t) (zx_liveRow t) (zx_shiftedRow t) (zx_groups t) (zx_search t) (zx_deadUntil t) (zx_settled t) (zx_known t) (zx_tooLate t) (zx_ended t) i8 i20 0 r22 hc23) (zkL_34 ⟨by decide, by decide⟩ C0.2.2.2.2.1) 3 rfl rfl rfl rfl hl.1 (Nat.le_of_ble_eq_true rfl) dL_sums_53 ⟨Nat.zero_le _, Nat.zero_le _⟩ (fun H locs hP hS => ?_)
              have hP : va_P D vwCl ((wX h cI (zx_lag t) (zx_dead t) (zx_manner t) (zx_setting t) (zx_keptRow t) (zx_liveRow t) (zx_shiftedRow t) (zx_groups t) (zx_search t) (zx_deadUntil t) (zx_settled t) (zx_known t) (zx_tooLate t) (zx_ended t))) H := zb1n hP
              refine z_istore C0 [(9, .int (zI r22)), (0, .ref (h 0)), (1, .int (zI r1)), (2, .int (zI 0)), (3, .int (zI i6)), (4, .int (zI i7)), (5, .int (zI i8)), (6, .int (zI r10)), (7, .int (zI i19)), (8, .int (zI i20))] dL_sums_56 hl (by decide) rfl (fun ls hl => ?_)
              refine z_iload C0 dL_sums_58 (lv_at hl 8 rfl) ?_
              refine z_iload C0 dL_sums_60 (lv_at hl 0 rfl) ?_
              obtain ⟨r24, hE51, hf⟩ := zbind hf
              have J25 : ∀ (H : Heap) (locs : List Loc), va_P D vwCl ((wX h cI (zx_lag t) (zx_dead t) (zx_manner t) (zx_setting t) (zx_keptRow t) (zx_liveRow t) (zx_shiftedRow t) (zx_groups t) (zx_search t) (zx_deadUntil t) (zx_settled t) (zx_known t) (zx_tooLate t) (zx_ended t))) H → va_S A s.heap H locs → ∀ ls : Array Slot, lv_has ls 10 [(0, .ref (h 0)), (1, .int (zI r1)), (2, .int (zI 0)), (3, .int (zI i6)), (4, .int (zI i7)), (5, .int (zI i8)), (6, .int (zI r10)), (8, .int (zI i20)), (9, .int (zI r22))] → W p l e rmL_sums s m args below meth c H locs 0 0 Q (F0 m 70 ls [.int (zI r24), .int (zI i19)]) := by
                intro H locs hP hS ls hl
                refine z_iadd C0 dL_sums_70 ?_
                obtain ⟨v26, hv26, hf⟩ := zl_some hf
                refine z_name hv26 ?_
                refine z_istore C0 [(7, .int (zI v26)), (0, .ref (h 0)), (1, .int (zI r1)), (2, .int (zI 0)), (3, .int (zI i6)), (4, .int (zI i7)), (5, .int (zI i8)), (6, .int (zI r10)), (8, .int (zI i20)), (9, .int (zI r22))] dL_sums_71 hl (by decide) rfl (fun ls hl => ?_)
                refine z_iload C0 dL_sums_73 (lv_at hl 9 rfl) ?_
                obtain ⟨r27, hE49, hf⟩ := zbind hf
                have J28 : ∀ (H : Heap) (locs : List Loc), va_P D vwCl ((wX h cI (zx_lag t) (zx_dead t) (zx_manner t) (zx_setting t) (zx_keptRow t) (zx_liveRow t) (zx_shiftedRow t) (zx_groups t) (zx_search t) (zx_deadUntil t) (zx_settled t) (zx_known t) (zx_tooLate t) (zx_ended t))) H → va_S A s.heap H locs → ∀ ls : Array Slot, lv_has ls 10 [(0, .ref (h 0)), (1, .int (zI r1)), (2, .int (zI 0)), (3, .int (zI i6)), (4, .int (zI i7)), (5, .int (zI i8)), (6, .int (zI r10)), (7, .int (zI v26)), (8, .int (zI i20)), (9, .int (zI r22))] → W p l e rmL_sums s m args below meth c H locs 0 0 Q (F0 m 83 ls [.int (zI r27)]) := by
                  intro H locs hP hS ls hl
                  refine z_aload_n C0 dL_sums_83 rfl (lv_at hl 0 rfl) ?_
                  refine z_iload C0 dL_sums_84 (lv_at hl 5 rfl) ?_
                  refine z_iconst C0 dL_sums_86 ?_
                  obtain ⟨r29, hc30, hf⟩ := zbind hf
                  refine z_qVi (rest := [.int (zI r27)]) C0 (zc1n hP) (zd1n (zD hD rfl)) hS (zmX3_group l D cI cZ h _ (zx_lag t) (zx_dead t) (zx_manner t) (zx_setting t) (zx_keptRow t) (zx_liveRow t) (zx_shiftedRow t) (zx_groups t) (zx_search t) (zx_deadUntil t) (zx_settled t) (zx_known t) (zx_tooLate t) (zx_ended t) i8 1 r29 hc30) (zkL_28 ⟨by decide, by decide⟩ C0.2.2.2.2.1) 3 rfl rfl rfl rfl hl.1 (Nat.le_of_ble_eq_true rfl) dL_sums_87 ⟨Nat.zero_le _, Nat.zero_le _⟩ (fun H locs hP hS => ?_)
                  have hP : va_P D vwCl ((wX h cI (zx_lag t) (zx_dead t) (zx_manner t) (zx_setting t) (zx_keptRow t) (zx_liveRow t) (zx_shiftedRow t) (zx_groups t) (zx_search t) (zx_deadUntil t) (zx_settled t) (zx_known t) (zx_tooLate t) (zx_ended t))) H := zb1n hP
                  refine z_iload C0 dL_sums_90 (lv_at hl 8 rfl) ?_
                  refine z_ishr C0 dL_sums_92 ?_
                  refine z_iconst C0 dL_sums_93 ?_
                  refine z_iand C0 dL_sums_94 ?_
                  refine z_iconst C0 dL_sums_95 ?_
                  obtain ⟨r31, hE47, hf⟩ := zbind hf
                  have J32 : ∀ (H : Heap) (locs : List Loc), va_P D vwCl ((wX h cI (zx_lag t) (zx_dead t) (zx_manner t) (zx_setting t) (zx_keptRow t) (zx_liveRow t) (zx_shiftedRow t) (zx_groups t) (zx_search t) (zx_deadUntil t) (zx_settled t) (zx_known t) (zx_tooLate t) (zx_ended t))) H → va_S A s.heap H locs → ∀ ls : Array Slot, lv_has ls 10 [(0, .ref (h 0)), (1, .int (zI r1)), (2, .int (zI 0)), (3, .int (zI i6)), (4, .int (zI i7)), (5, .int (zI i8)), (6, .int (zI r10)), (7, .int (zI v26)), (8, .int (zI i20)), (9, .int (zI r22))] → W p l e rmL_sums s m args below meth c H locs 0 0 Q (F0 m 104 ls [.int (zI r31), .int (zI r27)]) := by
                    intro H locs hP hS ls hl
                    refine z_icmpne C0 156 dL_sums_104 (by decide) (fun c45 => ?_) (fun c45 => ?_)
                    · have hf := zif_neg hf c45
                      refine z_iconst C0 dL_sums_156 ?_
                      cases hf
                    · have hf := zif_pos hf c45
                      refine z_iload C0 dL_sums_107 (lv_at hl 9 rfl) ?_
                      obtain ⟨r33, hE44, hf⟩ := zbind hf
                      have J34 : ∀ (H : Heap) (locs : List Loc), va_P D vwCl ((wX h cI (zx_lag t) (zx_dead t) (zx_manner t) (zx_setting t) (zx_keptRow t) (zx_liveRow t) (zx_shiftedRow t) (zx_groups t) (zx_search t) (zx_deadUntil t) (zx_settled t) (zx_known t) (zx_tooLate t) (zx_ended t))) H → va_S A s.heap H locs → ∀ ls : Array Slot, lv_has ls 10 [(0, .ref (h 0)), (1, .int (zI r1)), (2, .int (zI 0)), (3, .int (zI i6)), (4, .int (zI i7)), (5, .int (zI i8)), (6, .int (zI r10)), (7, .int (zI v26)), (8, .int (zI i20))] → W p l e rmL_sums s m args below meth c H locs 0 0 Q (F0 m 158 ls []) := by
                        intro H locs hP hS ls hl
                        refine z_iinc C0 [(8, .int (zI (i20 + 1))), (0, .ref (h 0)), (1, .int (zI r1)), (2, .int (zI 0)), (3, .int (zI i6)), (4, .int (zI i7)), (5, .int (zI i8)), (6, .int (zI r10)), (7, .int (zI v26))] dL_sums_158 hl 8 rfl (by decide) rfl (fun ls hl => ?_)
                        refine z_goto C0 40 dL_sums_161 (by decide) ?_
                        exact ih v26 (i20 + 1) out hf K _ _ hP hS ls (lv_sub hl [1, 2, 3, 4, 5, 6, 7, 8, 0] rfl)
                      have hf := hE44
                      refine z_iflt C0 158 dL_sums_109 (by decide) (fun c43 => ?_) (fun c43 => ?_)
                      · have hf := zif_pos hf c43
                        cases hf
                        exact J34 _ _ hP hS ls (lv_sub hl [0, 1, 2, 3, 4, 5, 6, 7, 8] rfl)
                      · have hf := zif_neg hf c43
                        refine z_iload C0 dL_sums_112 (lv_at hl 9 rfl) ?_
                        refine z_aload_n C0 dL_sums_114 rfl (lv_at hl 0 rfl) ?_
                        refine z_iload C0 dL_sums_115 (lv_at hl 8 rfl) ?_
                        refine z_iconst C0 dL_sums_117 ?_
                        obtain ⟨r35, hc36, hf⟩ := zbind hf
                        refine z_qVi (rest := [.int (zI r22)]) C0 (zc1n hP) (zd1n (zD hD rfl)) hS (zmX3_ofPlane l D cI cZ h _ (zx_lag t) (zx_dead t) (zx_manner t) (zx_setting t) (zx_keptRow t) (zx_liveRow t) (zx_shiftedRow t) (zx_groups t) (zx_search t) (zx_deadUntil t) (zx_settled t) (zx_known t) (zx_tooLate t) (zx_ended t) i20 0 r35 hc36) (zkL_46 ⟨by decide, by decide⟩ C0.2.2.2.2.1) 3 rfl rfl rfl rfl hl.1 (Nat.le_of_ble_eq_true rfl) dL_sums_118 ⟨Nat.zero_le _, Nat.zero_le _⟩ (fun H locs hP hS => ?_)
                        have hP : va_P D vwCl ((wX h cI (zx_lag t) (zx_dead t) (zx_manner t) (zx_setting t) (zx_keptRow t) (zx_liveRow t) (zx_shiftedRow t) (zx_groups t) (zx_search t) (zx_deadUntil t) (zx_settled t) (zx_known t) (zx_tooLate t) (zx_ended t))) H := zb1n hP
                        refine z_isub C0 dL_sums_121 ?_
                        refine z_bipush C0 dL_sums_122 (by decide +kernel) ?_
                        refine z_iadd C0 dL_sums_124 ?_
                        refine z_iload C0 dL_sums_125 (lv_at hl 6 rfl) ?_
                        refine z_icmplt C0 156 dL_sums_127 (by decide) (fun c42 => ?_) (fun c42 => ?_)
                        · have hf := zif_pos hf c42
                          refine z_iconst C0 dL_sums_156 ?_
                          cases hf
                        · have hf := zif_neg hf c42
                          refine z_iload C0 dL_sums_130 (lv_at hl 9 rfl) ?_
                          refine z_aload_n C0 dL_sums_132 rfl (lv_at hl 0 rfl) ?_
                          refine z_iload C0 dL_sums_133 (lv_at hl 8 rfl) ?_
                          refine z_iconst C0 dL_sums_135 ?_
                          obtain ⟨r37, hc38, hf⟩ := zbind hf
                          refine z_qVi (rest := [.int (zI r22)]) C0 (zc1n hP) (zd1n (zD hD rfl)) hS (zmX3_ofPlane l D cI cZ h _ (zx_lag t) (zx_dead t) (zx_manner t) (zx_setting t) (zx_keptRow t) (zx_liveRow t) (zx_shiftedRow t) (zx_groups t) (zx_search t) (zx_deadUntil t) (zx_settled t) (zx_known t) (zx_tooLate t) (zx_ended t) i20 0 r37 hc38) (zkL_46 ⟨by decide, by decide⟩ C0.2.2.2.2.1) 3 rfl rfl rfl rfl hl.1 (Nat.le_of_ble_eq_true rfl) dL_sums_136 ⟨Nat.zero_le _, Nat.zero_le _⟩ (fun H locs hP hS => ?_)
                          have hP : va_P D vwCl ((wX h cI (zx_lag t) (zx_dead t) (zx_manner t) (zx_setting t) (zx_keptRow t) (zx_liveRow t) (zx_shiftedRow t) (zx_groups t) (zx_search t) (zx_deadUntil t) (zx_settled t) (zx_known t) (zx_tooLate t) (zx_ended t))) H := zb1n hP
                          refine z_isub C0 dL_sums_139 ?_
                          refine z_bipush C0 dL_sums_140 (by decide +kernel) ?_
                          refine z_iadd C0 dL_sums_142 ?_
                          refine z_iload C0 dL_sums_143 (lv_at hl 6 rfl) ?_
                          refine z_aload_n C0 dL_sums_145 rfl (lv_at hl 0 rfl) ?_
                          refine z_iload C0 dL_sums_146 (lv_at hl 5 rfl) ?_
                          refine z_iconst C0 dL_sums_148 ?_
                          obtain ⟨r39, hc40, hf⟩ := zbind hf
                          refine z_qVi (rest := [.int (zI r10), .int (zI ((r22 - r37) + 100))]) C0 (zc1n hP) (zd1n (zD hD rfl)) hS (zmX3_group l D cI cZ h _ (zx_lag t) (zx_dead t) (zx_manner t) (zx_setting t) (zx_keptRow t) (zx_liveRow t) (zx_shiftedRow t) (zx_groups t) (zx_search t) (zx_deadUntil t) (zx_settled t) (zx_known t) (zx_tooLate t) (zx_ended t) i8 4 r39 hc40) (zkL_28 ⟨by decide, by decide⟩ C0.2.2.2.2.1) 3 rfl rfl rfl rfl hl.1 (Nat.le_of_ble_eq_true rfl) dL_sums_149 ⟨Nat.zero_le _, Nat.zero_le _⟩ (fun H locs hP hS => ?_)
                          have hP : va_P D vwCl ((wX h cI (zx_lag t) (zx_dead t) (zx_manner t) (zx_setting t) (zx_keptRow t) (zx_liveRow t) (zx_shiftedRow t) (zx_groups t) (zx_search t) (zx_deadUntil t) (zx_settled t) (zx_known t) (zx_tooLate t) (zx_ended t))) H := zb1n hP
                          refine z_iadd C0 dL_sums_152 ?_
                          refine z_icmple C0 158 dL_sums_153 (by decide) (fun c41 => ?_) (fun c41 => ?_)
                          · have hf := zif_pos hf c41
                            cases hf
                            exact J34 _ _ hP hS ls (lv_sub hl [0, 1, 2, 3, 4, 5, 6, 7, 8] rfl)
                          · have hf := zif_neg hf c41
                            refine z_iconst C0 dL_sums_156 ?_
                            cases hf
                  have hf := hE47
                  refine z_icmpne C0 103 dL_sums_96 (by decide) (fun c46 => ?_) (fun c46 => ?_)
                  · have hf := zif_neg hf c46
                    refine z_iconst C0 dL_sums_103 ?_
                    cases hf
                    exact J32 _ _ hP hS ls (lv_sub hl [0, 1, 2, 3, 4, 5, 6, 7, 8, 9] rfl)
                  · have hf := zif_pos hf c46
                    refine z_iconst C0 dL_sums_99 ?_
                    refine z_goto C0 104 dL_sums_100 (by decide) ?_
                    cases hf
                    exact J32 _ _ hP hS ls (lv_sub hl [0, 1, 2, 3, 4, 5, 6, 7, 8, 9] rfl)
                have hf := hE49
                refine z_iflt C0 82 dL_sums_75 (by decide) (fun c48 => ?_) (fun c48 => ?_)
                · have hf := zif_pos hf c48
                  refine z_iconst C0 dL_sums_82 ?_
                  cases hf
                  exact J28 _ _ hP hS ls (lv_sub hl [1, 2, 3, 4, 5, 6, 7, 0, 8, 9] rfl)
                · have hf := zif_neg hf c48
                  refine z_iconst C0 dL_sums_78 ?_
                  refine z_goto C0 83 dL_sums_79 (by decide) ?_
                  cases hf
                  exact J28 _ _ hP hS ls (lv_sub hl [1, 2, 3, 4, 5, 6, 7, 0, 8, 9] rfl)
              have hf := hE51
              refine z_ifge C0 69 dL_sums_62 (by decide) (fun c50 => ?_) (fun c50 => ?_)
              · have hf := zif_pos hf c50
                refine z_iconst C0 dL_sums_69 ?_
                cases hf
                exact J25 _ _ hP hS ls (lv_sub hl [1, 2, 3, 4, 5, 6, 7, 9, 0] rfl)
              · have hf := zif_neg hf c50
                refine z_iconst C0 dL_sums_65 ?_
                refine z_goto C0 70 dL_sums_66 (by decide) ?_
                cases hf
                exact J25 _ _ hP hS ls (lv_sub hl [1, 2, 3, 4, 5, 6, 7, 9, 0] rfl)
        obtain ⟨r54, hE55, hf⟩ := zbind hf
        refine L53 _ 0 0 r54 hE55 ?_ _ _ hP hS ls (lv_sub hl [3, 4, 5, 6, 7, 8, 2, 1, 0] rfl)
        intro H locs hP hS ls hl
        refine z_iload C0 dL_sums_164 (lv_at hl 6 rfl) ?_
        refine z_iload C0 dL_sums_166 (lv_at hl 4 rfl) ?_
        refine z_icmple C0 197 dL_sums_168 (by decide) (fun c68 => ?_) (fun c68 => ?_)
        · have hf := zif_pos hf c68
          refine z_iconst C0 dL_sums_197 ?_
          cases hf
        · have hf := zif_neg hf c68
          refine z_aload_n C0 dL_sums_171 rfl (lv_at hl 0 rfl) ?_
          refine z_iload C0 dL_sums_172 (lv_at hl 5 rfl) ?_
          refine z_iconst C0 dL_sums_174 ?_
          obtain ⟨r56, hc57, hf⟩ := zbind hf
          refine z_qVi (rest := []) C0 (zc1n hP) (zd1n (zD hD rfl)) hS (zmX3_group l D cI cZ h _ (zx_lag t) (zx_dead t) (zx_manner t) (zx_setting t) (zx_keptRow t) (zx_liveRow t) (zx_shiftedRow t) (zx_groups t) (zx_search t) (zx_deadUntil t) (zx_settled t) (zx_known t) (zx_tooLate t) (zx_ended t) i8 2 r56 hc57) (zkL_28 ⟨by decide, by decide⟩ C0.2.2.2.2.1) 3 rfl rfl rfl rfl hl.1 (Nat.le_of_ble_eq_true rfl) dL_sums_175 ⟨Nat.zero_le _, Nat.zero_le _⟩ (fun H locs hP hS => ?_)
          have hP : va_P D vwCl ((wX h cI (zx_lag t) (zx_dead t) (zx_manner t) (zx_setting t) (zx_keptRow t) (zx_liveRow t) (zx_shiftedRow t) (zx_groups t) (zx_search t) (zx_deadUntil t) (zx_settled t) (zx_known t) (zx_tooLate t) (zx_ended t))) H := zb1n hP
          refine z_iload C0 dL_sums_178 (lv_at hl 7 rfl) ?_
          refine z_aload_n C0 dL_sums_180 rfl (lv_at hl 0 rfl) ?_
          refine z_iload C0 dL_sums_181 (lv_at hl 5 rfl) ?_
          refine z_iconst C0 dL_sums_183 ?_
          obtain ⟨r58, hc59, hf⟩ := zbind hf
          refine z_qVi (rest := [.int (zI r54), .int (zI r56)]) C0 (zc1n hP) (zd1n (zD hD rfl)) hS (zmX3_group l D cI cZ h _ (zx_lag t) (zx_dead t) (zx_manner t) (zx_setting t) (zx_keptRow t) (zx_liveRow t) (zx_shiftedRow t) (zx_groups t) (zx_search t) (zx_deadUntil t) (zx_settled t) (zx_known t) (zx_tooLate t) (zx_ended t) i8 3 r58 hc59) (zkL_28 ⟨by decide, by decide⟩ C0.2.2.2.2.1) 3 rfl rfl rfl rfl hl.1 (Nat.le_of_ble_eq_true rfl) dL_sums_184 ⟨Nat.zero_le _, Nat.zero_le _⟩ (fun H locs hP hS => ?_)
          have hP : va_P D vwCl ((wX h cI (zx_lag t) (zx_dead t) (zx_manner t) (zx_setting t) (zx_keptRow t) (zx_liveRow t) (zx_shiftedRow t) (zx_groups t) (zx_search t) (zx_deadUntil t) (zx_settled t) (zx_known t) (zx_tooLate t) (zx_ended t))) H := zb1n hP
          refine z_iadd C0 dL_sums_187 ?_
          refine z_icmpne C0 197 dL_sums_188 (by decide) (fun c67 => ?_) (fun c67 => ?_)
          · have hf := zif_neg hf c67
            refine z_iconst C0 dL_sums_197 ?_
            cases hf
          · have hf := zif_pos hf c67
            refine z_iload C0 dL_sums_191 (lv_at hl 7 rfl) ?_
            refine z_iconst C0 dL_sums_193 ?_
            refine z_icmpge C0 199 dL_sums_194 (by decide) (fun c66 => ?_) (fun c66 => ?_)
            · have hf := zif_pos hf c66
              refine z_iload C0 dL_sums_199 (lv_at hl 6 rfl) ?_
              refine z_aload_n C0 dL_sums_201 rfl (lv_at hl 0 rfl) ?_
              refine z_iload C0 dL_sums_202 (lv_at hl 5 rfl) ?_
              refine z_iconst C0 dL_sums_204 ?_
              obtain ⟨r60, hc61, hf⟩ := zbind hf
              refine z_qVi (rest := [.int (zI r10)]) C0 (zc1n hP) (zd1n (zD hD rfl)) hS (zmX3_group l D cI cZ h _ (zx_lag t) (zx_dead t) (zx_manner t) (zx_setting t) (zx_keptRow t) (zx_liveRow t) (zx_shiftedRow t) (zx_groups t) (zx_search t) (zx_deadUntil t) (zx_settled t) (zx_known t) (zx_tooLate t) (zx_ended t) i8 4 r60 hc61) (zkL_28 ⟨by decide, by decide⟩ C0.2.2.2.2.1) 3 rfl rfl rfl rfl hl.1 (Nat.le_of_ble_eq_true rfl) dL_sums_205 ⟨Nat.zero_le _, Nat.zero_le _⟩ (fun H locs hP hS => ?_)
              have hP : va_P D vwCl ((wX h cI (zx_lag t) (zx_dead t) (zx_manner t) (zx_setting t) (zx_keptRow t) (zx_liveRow t) (zx_shiftedRow t) (zx_groups t) (zx_search t) (zx_deadUntil t) (zx_settled t) (zx_known t) (zx_tooLate t) (zx_ended t))) H := zb1n hP
              refine z_iadd C0 dL_sums_208 ?_
              obtain ⟨v62, hv62, hf⟩ := zl_some hf
              refine z_name hv62 ?_
              refine z_istore C0 [(4, .int (zI v62)), (0, .ref (h 0)), (1, .int (zI r1)), (2, .int (zI 0)), (3, .int (zI i6)), (5, .int (zI i8)), (6, .int (zI r10)), (7, .int (zI r54))] dL_sums_209 hl (by decide) rfl (fun ls hl => ?_)
              refine z_iload_n C0 dL_sums_211 rfl (lv_at hl 4 rfl) ?_
              refine z_aload_n C0 dL_sums_212 rfl (lv_at hl 1 rfl) ?_
              refine z_iload C0 dL_sums_213 (lv_at hl 5 rfl) ?_
              refine z_iconst C0 dL_sums_215 ?_
              obtain ⟨r63, hc64, hf⟩ := zbind hf
              refine z_qVi (rest := [.int (zI i6)]) C0 (zc1n hP) (zd1n (zD hD rfl)) hS (zmX3_group l D cI cZ h _ (zx_lag t) (zx_dead t) (zx_manner t) (zx_setting t) (zx_keptRow t) (zx_liveRow t) (zx_shiftedRow t) (zx_groups t) (zx_search t) (zx_deadUntil t) (zx_settled t) (zx_known t) (zx_tooLate t) (zx_ended t) i8 2 r63 hc64) (zkL_28 ⟨by decide, by decide⟩ C0.2.2.2.2.1) 3 rfl rfl rfl rfl hl.1 (Nat.le_of_ble_eq_true rfl) dL_sums_216 ⟨Nat.zero_le _, Nat.zero_le _⟩ (fun H locs hP hS => ?_)
              have hP : va_P D vwCl ((wX h cI (zx_lag t) (zx_dead t) (zx_manner t) (zx_setting t) (zx_keptRow t) (zx_liveRow t) (zx_shiftedRow t) (zx_groups t) (zx_search t) (zx_deadUntil t) (zx_settled t) (zx_known t) (zx_tooLate t) (zx_ended t))) H := zb1n hP
              refine z_iadd C0 dL_sums_219 ?_
              obtain ⟨v65, hv65, hf⟩ := zl_some hf
              refine z_name hv65 ?_
              refine z_istore_n C0 [(3, .int (zI v65)), (4, .int (zI v62)), (0, .ref (h 0)), (1, .int (zI r1)), (2, .int (zI 0)), (5, .int (zI i8)), (6, .int (zI r10)), (7, .int (zI r54))] dL_sums_220 rfl hl (by decide) rfl (fun ls hl => ?_)
              refine z_iinc C0 [(5, .int (zI (i8 + 1))), (3, .int (zI v65)), (4, .int (zI v62)), (0, .ref (h 0)), (1, .int (zI r1)), (2, .int (zI 0)), (6, .int (zI r10)), (7, .int (zI r54))] dL_sums_221 hl 5 rfl (by decide) rfl (fun ls hl => ?_)
              refine z_goto C0 19 dL_sums_224 (by decide) ?_
              exact ih v65 v62 (i8 + 1) out hf K _ _ hP hS ls (lv_sub hl [3, 4, 5, 1, 2, 0] rfl)
            · have hf := zif_neg hf c66
              refine z_iconst C0 dL_sums_197 ?_
              cases hf
  obtain ⟨r71, hE72, hf⟩ := zbind hf
  refine L70 _ 0 (-999) 0 r71 hE72 ?_ _ _ hP hS ls (lv_sub hl [5, 4, 3, 2, 1, 0] rfl)
  intro H locs hP hS ls hl
  refine z_iconst C0 dL_sums_227 ?_
  refine z_istore C0 [(5, .int (zI 1)), (0, .ref (h 0)), (1, .int (zI r1)), (2, .int (zI 0)), (3, .int (zI r71))] dL_sums_228 hl (by decide) rfl (fun ls hl => ?_)
  have L83 : ∀ (zn : Nat) (i75 : Int) (i77 : Int) (out : Int), fL_sums_L230 zn t r1 r71 i75 i77 = some out → (∀ (H : Heap) (locs : List Loc), va_P D vwCl ((wX h cI (zx_lag t) (zx_dead t) (zx_manner t) (zx_setting t) (zx_keptRow t) (zx_liveRow t) (zx_shiftedRow t) (zx_groups t) (zx_search t) (zx_deadUntil t) (zx_settled t) (zx_known t) (zx_tooLate t) (zx_ended t))) H → va_S A s.heap H locs → ∀ ls : Array Slot, lv_has ls 10 [(0, .ref (h 0)), (1, .int (zI r1)), (2, .int (zI out)), (3, .int (zI r71))] → W p l e rmL_sums s m args below meth c H locs 0 0 Q (F0 m 252 ls [])) → ∀ (H : Heap) (locs : List Loc), va_P D vwCl ((wX h cI (zx_lag t) (zx_dead t) (zx_manner t) (zx_setting t) (zx_keptRow t) (zx_liveRow t) (zx_shiftedRow t) (zx_groups t) (zx_search t) (zx_deadUntil t) (zx_settled t) (zx_known t) (zx_tooLate t) (zx_ended t))) H → va_S A s.heap H locs → ∀ ls : Array Slot, lv_has ls 10 [(0, .ref (h 0)), (1, .int (zI r1)), (2, .int (zI i75)), (3, .int (zI r71)), (5, .int (zI i77))] → W p l e rmL_sums s m args below meth c H locs 0 0 Q (F0 m 230 ls []) := by
    intro zn
    induction zn with
    | zero =>
      intro i75 i77 out hf
      rw [fL_sums_L230_z] at hf
      cases hf
    | succ zn ih =>
      intro i75 i77 out hf K H locs hP hS ls hl
      rw [fL_sums_L230_s] at hf
      refine z_iload C0 dL_sums_230 (lv_at hl 4 rfl) ?_
      refine z_bipush C0 dL_sums_232 (by decide +kernel) ?_
      refine z_icmpge C0 252 dL_sums_234 (by decide) (fun c82 => ?_) (fun c82 => ?_)
      · have hf := zif_pos hf c82
        cases hf
        exact K _ _ hP hS ls (lv_sub hl [0, 1, 2, 3] rfl)
      · have hf := zif_neg hf c82
        refine z_iload_n C0 dL_sums_237 rfl (lv_at hl 2 rfl) ?_
        refine z_aload_n C0 dL_sums_238 rfl (lv_at hl 0 rfl) ?_
        refine z_iload C0 dL_sums_239 (lv_at hl 4 rfl) ?_
        obtain ⟨r79, hc80, hf⟩ := zbind hf
        refine z_qVi (rest := [.int (zI i75)]) C0 (zc1n hP) (zd1n (zD hD rfl)) hS (zmX3_folds l D cI cZ h _ (zx_lag t) (zx_dead t) (zx_manner t) (zx_setting t) (zx_keptRow t) (zx_liveRow t) (zx_shiftedRow t) (zx_groups t) (zx_search t) (zx_deadUntil t) (zx_settled t) (zx_known t) (zx_tooLate t) (zx_ended t) i77 r79 hc80) (zkL_72 ⟨by decide, by decide⟩ C0.2.2.2.2.1) 3 rfl rfl rfl rfl hl.1 (Nat.le_of_ble_eq_true rfl) dL_sums_241 ⟨Nat.zero_le _, Nat.zero_le _⟩ (fun H locs hP hS => ?_)
        have hP : va_P D vwCl ((wX h cI (zx_lag t) (zx_dead t) (zx_manner t) (zx_setting t) (zx_keptRow t) (zx_liveRow t) (zx_shiftedRow t) (zx_groups t) (zx_search t) (zx_deadUntil t) (zx_settled t) (zx_known t) (zx_tooLate t) (zx_ended t))) H := zb1n hP
        refine z_iadd C0 dL_sums_244 ?_
        obtain ⟨v81, hv81, hf⟩ := zl_some hf
        refine z_name hv81 ?_
        refine z_istore_n C0 [(2, .int (zI v81)), (0, .ref (h 0)), (1, .int (zI r1)), (3, .int (zI r71)), (5, .int (zI i77))] dL_sums_245 rfl hl (by decide) rfl (fun ls hl => ?_)
        refine z_iinc C0 [(5, .int (zI (i77 + 1))), (2, .int (zI v81)), (0, .ref (h 0)), (1, .int (zI r1)), (3, .int (zI r71))] dL_sums_246 hl 4 rfl (by decide) rfl (fun ls hl => ?_)
        refine z_goto C0 230 dL_sums_249 (by decide) ?_
        exact ih v81 (i77 + 1) out hf K _ _ hP hS ls (lv_sub hl [2, 3, 1, 4, 0] rfl)
  obtain ⟨r84, hE85, hf⟩ := zbind hf
  refine L83 _ 0 1 r84 hE85 ?_ _ _ hP hS ls (lv_sub hl [1, 2, 3, 4, 0] rfl)
  intro H locs hP hS ls hl
  refine z_iload_n C0 dL_sums_252 rfl (lv_at hl 2 rfl) ?_
  refine z_iload_n C0 dL_sums_253 rfl (lv_at hl 1 rfl) ?_
  refine z_icmpne C0 339 dL_sums_254 (by decide) (fun c112 => ?_) (fun c112 => ?_)
  · have hf := zif_neg hf c112
    refine z_iconst C0 dL_sums_339 ?_
    cases hf
  · have hf := zif_pos hf c112
    refine z_iload_n C0 dL_sums_257 rfl (lv_at hl 3 rfl) ?_
    refine z_aload_n C0 dL_sums_258 rfl (lv_at hl 0 rfl) ?_
    refine z_bipush C0 dL_sums_259 (by decide +kernel) ?_
    obtain ⟨r86, hc87, hf⟩ := zbind hf
    refine z_qVi (rest := [.int (zI r71)]) C0 (zc1n hP) (zd1n (zD hD rfl)) hS (zmX3_many l D cI cZ h _ (zx_lag t) (zx_dead t) (zx_manner t) (zx_setting t) (zx_keptRow t) (zx_liveRow t) (zx_shiftedRow t) (zx_groups t) (zx_search t) (zx_deadUntil t) (zx_settled t) (zx_known t) (zx_tooLate t) (zx_ended t) 9 r86 hc87) (zkL_38 ⟨by decide, by decide⟩ C0.2.2.2.2.1) 3 rfl rfl rfl rfl hl.1 (Nat.le_of_ble_eq_true rfl) dL_sums_261 ⟨Nat.zero_le _, Nat.zero_le _⟩ (fun H locs hP hS => ?_)
    have hP : va_P D vwCl ((wX h cI (zx_lag t) (zx_dead t) (zx_manner t) (zx_setting t) (zx_keptRow t) (zx_liveRow t) (zx_shiftedRow t) (zx_groups t) (zx_search t) (zx_deadUntil t) (zx_settled t) (zx_known t) (zx_tooLate t) (zx_ended t))) H := zb1n hP
    refine z_icmpne C0 339 dL_sums_264 (by decide) (fun c111 => ?_) (fun c111 => ?_)
    · have hf := zif_neg hf c111
      refine z_iconst C0 dL_sums_339 ?_
      cases hf
    · have hf := zif_pos hf c111
      refine z_aload_n C0 dL_sums_267 rfl (lv_at hl 0 rfl) ?_
      refine z_iconst C0 dL_sums_268 ?_
      refine z_iconst C0 dL_sums_269 ?_
      obtain ⟨r88, hc89, hf⟩ := zbind hf
      refine z_qVi (rest := []) C0 (zc1n hP) (zd1n (zD hD rfl)) hS (zmX3_having l D cI cZ h _ (zx_lag t) (zx_dead t) (zx_manner t) (zx_setting t) (zx_keptRow t) (zx_liveRow t) (zx_shiftedRow t) (zx_groups t) (zx_search t) (zx_deadUntil t) (zx_settled t) (zx_known t) (zx_tooLate t) (zx_ended t) 0 1 r88 hc89) (zkL_66 ⟨by decide, by decide⟩ C0.2.2.2.2.1) 3 rfl rfl rfl rfl hl.1 (Nat.le_of_ble_eq_true rfl) dL_sums_270 ⟨Nat.zero_le _, Nat.zero_le _⟩ (fun H locs hP hS => ?_)
      have hP : va_P D vwCl ((wX h cI (zx_lag t) (zx_dead t) (zx_manner t) (zx_setting t) (zx_keptRow t) (zx_liveRow t) (zx_shiftedRow t) (zx_groups t) (zx_search t) (zx_deadUntil t) (zx_settled t) (zx_known t) (zx_tooLate t) (zx_ended t))) H := zb1n hP
      refine z_iload_n C0 dL_sums_273 rfl (lv_at hl 1 rfl) ?_
      refine z_icmpne C0 339 dL_sums_274 (by decide) (fun c110 => ?_) (fun c110 => ?_)
      · have hf := zif_neg hf c110
        refine z_iconst C0 dL_sums_339 ?_
        cases hf
      · have hf := zif_pos hf c110
        refine z_aload_n C0 dL_sums_277 rfl (lv_at hl 0 rfl) ?_
        refine z_iconst C0 dL_sums_278 ?_
        refine z_iconst C0 dL_sums_279 ?_
        obtain ⟨r90, hc91, hf⟩ := zbind hf
        refine z_qVi (rest := []) C0 (zc1n hP) (zd1n (zD hD rfl)) hS (zmX3_having l D cI cZ h _ (zx_lag t) (zx_dead t) (zx_manner t) (zx_setting t) (zx_keptRow t) (zx_liveRow t) (zx_shiftedRow t) (zx_groups t) (zx_search t) (zx_deadUntil t) (zx_settled t) (zx_known t) (zx_tooLate t) (zx_ended t) 0 2 r90 hc91) (zkL_66 ⟨by decide, by decide⟩ C0.2.2.2.2.1) 3 rfl rfl rfl rfl hl.1 (Nat.le_of_ble_eq_true rfl) dL_sums_280 ⟨Nat.zero_le _, Nat.zero_le _⟩ (fun H locs hP hS => ?_)
        have hP : va_P D vwCl ((wX h cI (zx_lag t) (zx_dead t) (zx_manner t) (zx_setting t) (zx_keptRow t) (zx_liveRow t) (zx_shiftedRow t) (zx_groups t) (zx_search t) (zx_deadUntil t) (zx_settled t) (zx_known t) (zx_tooLate t) (zx_ended t))) H := zb1n hP
        refine z_iload_n C0 dL_sums_283 rfl (lv_at hl 1 rfl) ?_
        refine z_icmpne C0 339 dL_sums_284 (by decide) (fun c109 => ?_) (fun c109 => ?_)
        · have hf := zif_neg hf c109
          refine z_iconst C0 dL_sums_339 ?_
          cases hf
        · have hf := zif_pos hf c109
          refine z_aload_n C0 dL_sums_287 rfl (lv_at hl 0 rfl) ?_
          refine z_iconst C0 dL_sums_288 ?_
          obtain ⟨r92, hc93, hf⟩ := zbind hf
          refine z_qVi (rest := []) C0 (zc1n hP) (zd1n (zD hD rfl)) hS (zmX3_many l D cI cZ h _ (zx_lag t) (zx_dead t) (zx_manner t) (zx_setting t) (zx_keptRow t) (zx_liveRow t) (zx_shiftedRow t) (zx_groups t) (zx_search t) (zx_deadUntil t) (zx_settled t) (zx_known t) (zx_tooLate t) (zx_ended t) 4 r92 hc93) (zkL_38 ⟨by decide, by decide⟩ C0.2.2.2.2.1) 3 rfl rfl rfl rfl hl.1 (Nat.le_of_ble_eq_true rfl) dL_sums_289 ⟨Nat.zero_le _, Nat.zero_le _⟩ (fun H locs hP hS => ?_)
          have hP : va_P D vwCl ((wX h cI (zx_lag t) (zx_dead t) (zx_manner t) (zx_setting t) (zx_keptRow t) (zx_liveRow t) (zx_shiftedRow t) (zx_groups t) (zx_search t) (zx_deadUntil t) (zx_settled t) (zx_known t) (zx_tooLate t) (zx_ended t))) H := zb1n hP
          refine z_aload_n C0 dL_sums_292 rfl (lv_at hl 0 rfl) ?_
          refine z_iconst C0 dL_sums_293 ?_
          obtain ⟨r94, hc95, hf⟩ := zbind hf
          refine z_qVi (rest := [.int (zI r92)]) C0 (zc1n hP) (zd1n (zD hD rfl)) hS (zmX3_many l D cI cZ h _ (zx_lag t) (zx_dead t) (zx_manner t) (zx_setting t) (zx_keptRow t) (zx_liveRow t) (zx_shiftedRow t) (zx_groups t) (zx_search t) (zx_deadUntil t) (zx_settled t) (zx_known t) (zx_tooLate t) (zx_ended t) 5 r94 hc95) (zkL_38 ⟨by decide, by decide⟩ C0.2.2.2.2.1) 3 rfl rfl rfl rfl hl.1 (Nat.le_of_ble_eq_true rfl) dL_sums_294 ⟨Nat.zero_le _, Nat.zero_le _⟩ (fun H locs hP hS => ?_)
          have hP : va_P D vwCl ((wX h cI (zx_lag t) (zx_dead t) (zx_manner t) (zx_setting t) (zx_keptRow t) (zx_liveRow t) (zx_shiftedRow t) (zx_groups t) (zx_search t) (zx_deadUntil t) (zx_settled t) (zx_known t) (zx_tooLate t) (zx_ended t))) H := zb1n hP
          refine z_iadd C0 dL_sums_297 ?_
          refine z_aload_n C0 dL_sums_298 rfl (lv_at hl 0 rfl) ?_
          refine z_iconst C0 dL_sums_299 ?_
          obtain ⟨r96, hc97, hf⟩ := zbind hf
          refine z_qVi (rest := [.int (zI (r92 + r94))]) C0 (zc1n hP) (zd1n (zD hD rfl)) hS (zmX3_many l D cI cZ h _ (zx_lag t) (zx_dead t) (zx_manner t) (zx_setting t) (zx_keptRow t) (zx_liveRow t) (zx_shiftedRow t) (zx_groups t) (zx_search t) (zx_deadUntil t) (zx_settled t) (zx_known t) (zx_tooLate t) (zx_ended t) 3 r96 hc97) (zkL_38 ⟨by decide, by decide⟩ C0.2.2.2.2.1) 3 rfl rfl rfl rfl hl.1 (Nat.le_of_ble_eq_true rfl) dL_sums_300 ⟨Nat.zero_le _, Nat.zero_le _⟩ (fun H locs hP hS => ?_)
          have hP : va_P D vwCl ((wX h cI (zx_lag t) (zx_dead t) (zx_manner t) (zx_setting t) (zx_keptRow t) (zx_liveRow t) (zx_shiftedRow t) (zx_groups t) (zx_search t) (zx_deadUntil t) (zx_settled t) (zx_known t) (zx_tooLate t) (zx_ended t))) H := zb1n hP
          refine z_icmpne C0 339 dL_sums_303 (by decide) (fun c108 => ?_) (fun c108 => ?_)
          · have hf := zif_neg hf c108
            refine z_iconst C0 dL_sums_339 ?_
            cases hf
          · have hf := zif_pos hf c108
            refine z_aload_n C0 dL_sums_306 rfl (lv_at hl 0 rfl) ?_
            refine z_iconst C0 dL_sums_307 ?_
            obtain ⟨r98, hc99, hf⟩ := zbind hf
            refine z_qVi (rest := []) C0 (zc1n hP) (zd1n (zD hD rfl)) hS (zmX3_many l D cI cZ h _ (zx_lag t) (zx_dead t) (zx_manner t) (zx_setting t) (zx_keptRow t) (zx_liveRow t) (zx_shiftedRow t) (zx_groups t) (zx_search t) (zx_deadUntil t) (zx_settled t) (zx_known t) (zx_tooLate t) (zx_ended t) 0 r98 hc99) (zkL_38 ⟨by decide, by decide⟩ C0.2.2.2.2.1) 3 rfl rfl rfl rfl hl.1 (Nat.le_of_ble_eq_true rfl) dL_sums_308 ⟨Nat.zero_le _, Nat.zero_le _⟩ (fun H locs hP hS => ?_)
            have hP : va_P D vwCl ((wX h cI (zx_lag t) (zx_dead t) (zx_manner t) (zx_setting t) (zx_keptRow t) (zx_liveRow t) (zx_shiftedRow t) (zx_groups t) (zx_search t) (zx_deadUntil t) (zx_settled t) (zx_known t) (zx_tooLate t) (zx_ended t))) H := zb1n hP
            refine z_aload_n C0 dL_sums_311 rfl (lv_at hl 0 rfl) ?_
            refine z_iconst C0 dL_sums_312 ?_
            obtain ⟨r100, hc101, hf⟩ := zbind hf
            refine z_qVi (rest := [.int (zI r98)]) C0 (zc1n hP) (zd1n (zD hD rfl)) hS (zmX3_many l D cI cZ h _ (zx_lag t) (zx_dead t) (zx_manner t) (zx_setting t) (zx_keptRow t) (zx_liveRow t) (zx_shiftedRow t) (zx_groups t) (zx_search t) (zx_deadUntil t) (zx_settled t) (zx_known t) (zx_tooLate t) (zx_ended t) 1 r100 hc101) (zkL_38 ⟨by decide, by decide⟩ C0.2.2.2.2.1) 3 rfl rfl rfl rfl hl.1 (Nat.le_of_ble_eq_true rfl) dL_sums_313 ⟨Nat.zero_le _, Nat.zero_le _⟩ (fun H locs hP hS => ?_)
            have hP : va_P D vwCl ((wX h cI (zx_lag t) (zx_dead t) (zx_manner t) (zx_setting t) (zx_keptRow t) (zx_liveRow t) (zx_shiftedRow t) (zx_groups t) (zx_search t) (zx_deadUntil t) (zx_settled t) (zx_known t) (zx_tooLate t) (zx_ended t))) H := zb1n hP
            refine z_aload_n C0 dL_sums_316 rfl (lv_at hl 0 rfl) ?_
            refine z_iconst C0 dL_sums_317 ?_
            obtain ⟨r102, hc103, hf⟩ := zbind hf
            refine z_qVi (rest := [.int (zI r100), .int (zI r98)]) C0 (zc1n hP) (zd1n (zD hD rfl)) hS (zmX3_many l D cI cZ h _ (zx_lag t) (zx_dead t) (zx_manner t) (zx_setting t) (zx_keptRow t) (zx_liveRow t) (zx_shiftedRow t) (zx_groups t) (zx_search t) (zx_deadUntil t) (zx_settled t) (zx_known t) (zx_tooLate t) (zx_ended t) 2 r102 hc103) (zkL_38 ⟨by decide, by decide⟩ C0.2.2.2.2.1) 3 rfl rfl rfl rfl hl.1 (Nat.le_of_ble_eq_true rfl) dL_sums_318 ⟨Nat.zero_le _, Nat.zero_le _⟩ (fun H locs hP hS => ?_)
            have hP : va_P D vwCl ((wX h cI (zx_lag t) (zx_dead t) (zx_manner t) (zx_setting t) (zx_keptRow t) (zx_liveRow t) (zx_shiftedRow t) (zx_groups t) (zx_search t) (zx_deadUntil t) (zx_settled t) (zx_known t) (zx_tooLate t) (zx_ended t))) H := zb1n hP
            refine z_iadd C0 dL_sums_321 ?_
            refine z_icmpne C0 339 dL_sums_322 (by decide) (fun c107 => ?_) (fun c107 => ?_)
            · have hf := zif_neg hf c107
              refine z_iconst C0 dL_sums_339 ?_
              cases hf
            · have hf := zif_pos hf c107
              refine z_aload_n C0 dL_sums_325 rfl (lv_at hl 0 rfl) ?_
              refine z_iload_n C0 dL_sums_326 rfl (lv_at hl 1 rfl) ?_
              refine z_iconst C0 dL_sums_327 ?_
              obtain ⟨r104, hc105, hf⟩ := zbind hf
              refine z_qVi (rest := []) C0 (zc1n hP) (zd1n (zD hD rfl)) hS (zmX3_group l D cI cZ h _ (zx_lag t) (zx_dead t) (zx_manner t) (zx_setting t) (zx_keptRow t) (zx_liveRow t) (zx_shiftedRow t) (zx_groups t) (zx_search t) (zx_deadUntil t) (zx_settled t) (zx_known t) (zx_tooLate t) (zx_ended t) r1 0 r104 hc105) (zkL_28 ⟨by decide, by decide⟩ C0.2.2.2.2.1) 3 rfl rfl rfl rfl hl.1 (Nat.le_of_ble_eq_true rfl) dL_sums_328 ⟨Nat.zero_le _, Nat.zero_le _⟩ (fun H locs hP hS => ?_)
              have hP : va_P D vwCl ((wX h cI (zx_lag t) (zx_dead t) (zx_manner t) (zx_setting t) (zx_keptRow t) (zx_liveRow t) (zx_shiftedRow t) (zx_groups t) (zx_search t) (zx_deadUntil t) (zx_settled t) (zx_known t) (zx_tooLate t) (zx_ended t))) H := zb1n hP
              refine z_iconst C0 dL_sums_331 ?_
              refine z_icmpne C0 339 dL_sums_332 (by decide) (fun c106 => ?_) (fun c106 => ?_)
              · have hf := zif_neg hf c106
                refine z_iconst C0 dL_sums_339 ?_
                cases hf
              · have hf := zif_pos hf c106
                refine z_iconst C0 dL_sums_335 ?_
                refine z_goto C0 340 dL_sums_336 (by decide) ?_
                cases hf
                exact hret (Or.inr rfl) hP hS dL_sums_340
