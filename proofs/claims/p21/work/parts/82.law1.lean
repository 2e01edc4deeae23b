set_option maxHeartbeats 4000000 in
set_option maxRecDepth 100000 in
theorem zmL_sets (l : Launch) (D : va_G) (cI cZ : ClassId) (b zL0 : Nat) (zsc : Nat → Int) (h : Nat → Nat) (h2 : Nat → Nat) (sz : Nat) (t : zXT) (t2 : zXT) (p3 : Int) (p4 : Int) (o : Int × zXT × zXT) (hf : fL_sets zL0 zsc t t2 p3 p4 = some o) : Met l yL_sets (zW yL_sets cL_sets 10 (some .boolean)) rmL_sets (va_Pc [.ref (h 0), .ref (h2 0), .ref b, .int (zI p3), .int (zI p4)] (zPreX b zL0 zsc D cI cZ ((wX h cI (zx_lag t) (zx_dead t) (zx_manner t) (zx_setting t) (zx_keptRow t) (zx_liveRow t) (zx_shiftedRow t) (zx_groups t) (zx_search t) (zx_deadUntil t) (zx_settled t) (zx_known t) (zx_tooLate t) (zx_ended t)) ++ (wX h2 cI (zx_lag t2) (zx_dead t2) (zx_manner t2) (zx_setting t2) (zx_keptRow t2) (zx_liveRow t2) (zx_shiftedRow t2) (zx_groups t2) (zx_search t2) (zx_deadUntil t2) (zx_settled t2) (zx_known t2) (zx_tooLate t2) (zx_ended t2))) sz)) (va_Qi (fun r' (_ : Unit) => r' = zI o.1) (fun _ tq => va_P D vwCl ((wX h cI (zx_lag o.2.1) (zx_dead o.2.1) (zx_manner o.2.1) (zx_setting o.2.1) (zx_keptRow o.2.1) (zx_liveRow o.2.1) (zx_shiftedRow o.2.1) (zx_groups o.2.1) (zx_search o.2.1) (zx_deadUntil o.2.1) (zx_settled o.2.1) (zx_known o.2.1) (zx_tooLate o.2.1) (zx_ended o.2.1)) ++ (wX h2 cI (zx_lag o.2.2) (zx_dead o.2.2) (zx_manner o.2.2) (zx_setting o.2.2) (zx_keptRow o.2.2) (zx_liveRow o.2.2) (zx_shiftedRow o.2.2) (zx_groups o.2.2) (zx_search o.2.2) (zx_deadUntil o.2.2) (zx_settled o.2.2) (zx_known o.2.2) (zx_tooLate o.2.2) (zx_ended o.2.2))) tq.heap) (va_A ((wX h cI (zx_lag t) (zx_dead t) (zx_manner t) (zx_setting t) (zx_keptRow t) (zx_liveRow t) (zx_shiftedRow t) (zx_groups t) (zx_search t) (zx_deadUntil t) (zx_settled t) (zx_known t) (zx_tooLate t) (zx_ended t)) ++ (wX h2 cI (zx_lag t2) (zx_dead t2) (zx_manner t2) (zx_setting t2) (zx_keptRow t2) (zx_liveRow t2) (zx_shiftedRow t2) (zx_groups t2) (zx_search t2) (zx_deadUntil t2) (zx_settled t2) (zx_known t2) (zx_tooLate t2) (zx_ended t2))) sz)) 0 0 (va_A ((wX h cI (zx_lag t) (zx_dead t) (zx_manner t) (zx_setting t) (zx_keptRow t) (zx_liveRow t) (zx_shiftedRow t) (zx_groups t) (zx_search t) (zx_deadUntil t) (zx_settled t) (zx_known t) (zx_tooLate t) (zx_ended t)) ++ (wX h2 cI (zx_lag t2) (zx_dead t2) (zx_manner t2) (zx_setting t2) (zx_keptRow t2) (zx_liveRow t2) (zx_shiftedRow t2) (zx_groups t2) (zx_search t2) (zx_deadUntil t2) (zx_settled t2) (zx_known t2) (zx_tooLate t2) (zx_ended t2))) sz) := by
  unfold fL_sets at hf
  refine z_enterX_z (own := RL) (by decide +kernel) rfl (Nat.le_of_ble_eq_true rfl) ?_
  intro p e s m args below meth c A Q C0 hP hD hS hZ hX hret ls hl
  have hl : lv_has ls 10 [(0, .ref (h 0)), (1, .ref (h2 0)), (2, .ref b), (3, .int (zI p3)), (4, .int (zI p4))] := hl
  refine z_iconst C0 dL_sets_0 ?_
  refine z_istore C0 [(5, .int (zI 0)), (0, .ref (h 0)), (1, .ref (h2 0)), (2, .ref b), (3, .int (zI p3)), (4, .int (zI p4))] dL_sets_1 hl (by decide) rfl (fun ls hl => ?_)
  have L29 : ∀ (zn : Nat) (t7 : zXT) (t8 : zXT) (i6 : Int) (out : zXT × zXT), fL_sets_L3 zn zL0 zsc t7 t8 p3 p4 i6 = some out → (∀ (H : Heap) (locs : List Loc), va_P D vwCl ((wX h cI (zx_lag out.1) (zx_dead out.1) (zx_manner out.1) (zx_setting out.1) (zx_keptRow out.1) (zx_liveRow out.1) (zx_shiftedRow out.1) (zx_groups out.1) (zx_search out.1) (zx_deadUntil out.1) (zx_settled out.1) (zx_known out.1) (zx_tooLate out.1) (zx_ended out.1)) ++ (wX h2 cI (zx_lag out.2) (zx_dead out.2) (zx_manner out.2) (zx_setting out.2) (zx_keptRow out.2) (zx_liveRow out.2) (zx_shiftedRow out.2) (zx_groups out.2) (zx_search out.2) (zx_deadUntil out.2) (zx_settled out.2) (zx_known out.2) (zx_tooLate out.2) (zx_ended out.2))) H → va_S A s.heap H locs → ∀ ls : Array Slot, lv_has ls 10 [(0, .ref (h 0)), (1, .ref (h2 0)), (2, .ref b), (3, .int (zI p3)), (4, .int (zI p4))] → W p l e rmL_sets s m args below meth c H locs 0 0 Q (F0 m 115 ls [])) → ∀ (H : Heap) (locs : List Loc), va_P D vwCl ((wX h cI (zx_lag t7) (zx_dead t7) (zx_manner t7) (zx_setting t7) (zx_keptRow t7) (zx_liveRow t7) (zx_shiftedRow t7) (zx_groups t7) (zx_search t7) (zx_deadUntil t7) (zx_settled t7) (zx_known t7) (zx_tooLate t7) (zx_ended t7)) ++ (wX h2 cI (zx_lag t8) (zx_dead t8) (zx_manner t8) (zx_setting t8) (zx_keptRow t8) (zx_liveRow t8) (zx_shiftedRow t8) (zx_groups t8) (zx_search t8) (zx_deadUntil t8) (zx_settled t8) (zx_known t8) (zx_tooLate t8) (zx_ended t8))) H → va_S A s.heap H locs → ∀ ls : Array Slot, lv_has ls 10 [(0, .ref (h 0)), (1, .ref (h2 0)), (2, .ref b), (3, .int (zI p3)), (4, .int (zI p4)), (5, .int (zI i6))] → W p l e rmL_sets s m args below meth c H locs 0 0 Q (F0 m 3 ls []) := by
    intro zn
    induction zn with
    | zero =>
      intro t7 t8 i6 out hf
      rw [fL_sets_L3_z] at hf
      cases hf
    | succ zn ih =>
      intro t7 t8 i6 out hf K H locs hP hS ls hl
      rw [fL_sets_L3_s] at hf
      refine z_iload C0 dL_sets_3 (lv_at hl 5 rfl) ?_
      refine z_bipush C0 dL_sets_5 (by decide +kernel) ?_
      refine z_icmpge C0 115 dL_sets_7 (by decide) (fun c28 => ?_) (fun c28 => ?_)
      · have hf := zif_pos hf c28
        cases hf
        exact K _ _ hP hS ls (lv_sub hl [0, 1, 2, 3, 4] rfl)
      · have hf := zif_neg hf c28
        refine z_aload_n C0 dL_sets_10 rfl (lv_at hl 2 rfl) ?_
        refine z_iload_n C0 dL_sets_11 rfl (lv_at hl 3 rfl) ?_
        refine z_iload C0 dL_sets_12 (lv_at hl 5 rfl) ?_
        refine z_iadd C0 dL_sets_14 ?_
        obtain ⟨r9, hc10, hf⟩ := zbind hf
        refine z_qSiX (rest := []) C0 (zc0 hP) (zd0 (zD hD rfl)) hS hZ hX (zmL_cell l D cI cZ b zL0 zsc _ (p3 + i6) r9 hc10) (zkL_9 ⟨by decide, by decide⟩ C0.2.2.2.2.1) rfl rfl hl.1 (Nat.le_of_ble_eq_true rfl) dL_sets_15 ⟨Nat.zero_le _, Nat.zero_le _⟩ (fun H locs hP hS => ?_)
        have hP : va_P D vwCl ((wX h cI (zx_lag t7) (zx_dead t7) (zx_manner t7) (zx_setting t7) (zx_keptRow t7) (zx_liveRow t7) (zx_shiftedRow t7) (zx_groups t7) (zx_search t7) (zx_deadUntil t7) (zx_settled t7) (zx_known t7) (zx_tooLate t7) (zx_ended t7)) ++ (wX h2 cI (zx_lag t8) (zx_dead t8) (zx_manner t8) (zx_setting t8) (zx_keptRow t8) (zx_liveRow t8) (zx_shiftedRow t8) (zx_groups t8) (zx_search t8) (zx_deadUntil t8) (zx_settled t8) (zx_known t8) (zx_tooLate t8) (zx_ended t8))) H := zb0 hP
        refine z_istore C0 [(6, .int (zI r9)), (0, .ref (h 0)), (1, .ref (h2 0)), (2, .ref b), (3, .int (zI p3)), (4, .int (zI p4)), (5, .int (zI i6))] dL_sets_18 hl (by decide) rfl (fun ls hl => ?_)
        refine z_iload C0 dL_sets_20 (lv_at hl 0 rfl) ?_
        refine z_iconst C0 dL_sets_22 ?_
        refine z_iand C0 dL_sets_23 ?_
        obtain ⟨r11, hE27, hf⟩ := zbind hf
        have J12 : ∀ (H : Heap) (locs : List Loc), va_P D vwCl ((wX h cI (zx_lag t7) (zx_dead t7) (zx_manner t7) (zx_setting t7) (zx_keptRow t7) (zx_liveRow t7) (zx_shiftedRow t7) (zx_groups t7) (zx_search t7) (zx_deadUntil t7) (zx_settled t7) (zx_known t7) (zx_tooLate t7) (zx_ended t7)) ++ (wX h2 cI (zx_lag t8) (zx_dead t8) (zx_manner t8) (zx_setting t8) (zx_keptRow t8) (zx_liveRow t8) (zx_shiftedRow t8) (zx_groups t8) (zx_search t8) (zx_deadUntil t8) (zx_settled t8) (zx_known t8) (zx_tooLate t8) (zx_ended t8))) H → va_S A s.heap H locs → ∀ ls : Array Slot, lv_has ls 10 [(0, .ref (h 0)), (1, .ref (h2 0)), (2, .ref b), (3, .int (zI p3)), (4, .int (zI p4)), (5, .int (zI i6)), (6, .int (zI r9))] → W p l e rmL_sets s m args below meth c H locs 0 0 Q (F0 m 38 ls [.int (zI r11)]) := by
          intro H locs hP hS ls hl
          refine z_istore C0 [(7, .int (zI r11)), (0, .ref (h 0)), (1, .ref (h2 0)), (2, .ref b), (3, .int (zI p3)), (4, .int (zI p4)), (5, .int (zI i6)), (6, .int (zI r9))] dL_sets_38 hl (by decide) rfl (fun ls hl => ?_)
          refine z_iload C0 dL_sets_40 (lv_at hl 7 rfl) ?_
          refine z_bipush C0 dL_sets_42 (by decide +kernel) ?_
          refine z_ishr C0 dL_sets_44 ?_
          refine z_iconst C0 dL_sets_45 ?_
          refine z_iand C0 dL_sets_46 ?_
          obtain ⟨r13, hE25, hf⟩ := zbind hf
          have J14 : ∀ (H : Heap) (locs : List Loc), va_P D vwCl ((wX h cI (zx_lag t7) (zx_dead t7) (zx_manner t7) (zx_setting t7) (zx_keptRow t7) (zx_liveRow t7) (zx_shiftedRow t7) (zx_groups t7) (zx_search t7) (zx_deadUntil t7) (zx_settled t7) (zx_known t7) (zx_tooLate t7) (zx_ended t7)) ++ (wX h2 cI (zx_lag t8) (zx_dead t8) (zx_manner t8) (zx_setting t8) (zx_keptRow t8) (zx_liveRow t8) (zx_shiftedRow t8) (zx_groups t8) (zx_search t8) (zx_deadUntil t8) (zx_settled t8) (zx_known t8) (zx_tooLate t8) (zx_ended t8))) H → va_S A s.heap H locs → ∀ ls : Array Slot, lv_has ls 10 [(0, .ref (h 0)), (1, .ref (h2 0)), (2, .ref b), (3, .int (zI p3)), (4, .int (zI p4)), (5, .int (zI i6)), (6, .int (zI r9)), (7, .int (zI r11))] → W p l e rmL_sets s m args below meth c H locs 0 0 Q (F0 m 64 ls [.int (zI r13)]) := by
            intro H locs hP hS ls hl
            refine z_istore C0 [(8, .int (zI r13)), (0, .ref (h 0)), (1, .ref (h2 0)), (2, .ref b), (3, .int (zI p3)), (4, .int (zI p4)), (5, .int (zI i6)), (6, .int (zI r9)), (7, .int (zI r11))] dL_sets_64 hl (by decide) rfl (fun ls hl => ?_)
            refine z_iload C0 dL_sets_66 (lv_at hl 7 rfl) ?_
            refine z_bipush C0 dL_sets_68 (by decide +kernel) ?_
            refine z_ishr C0 dL_sets_70 ?_
            refine z_iconst C0 dL_sets_71 ?_
            refine z_iand C0 dL_sets_72 ?_
            obtain ⟨v15, hv15, hf⟩ := zl_some hf
            refine z_name hv15 ?_
            refine z_istore C0 [(9, .int (zI v15)), (8, .int (zI r13)), (0, .ref (h 0)), (1, .ref (h2 0)), (2, .ref b), (3, .int (zI p3)), (4, .int (zI p4)), (5, .int (zI i6)), (6, .int (zI r9)), (7, .int (zI r11))] dL_sets_73 hl (by decide) rfl (fun ls hl => ?_)
            refine z_aload_n C0 dL_sets_75 rfl (lv_at hl 2 rfl) ?_
            refine z_iload C0 dL_sets_76 (lv_at hl 7 rfl) ?_
            refine z_iload C0 dL_sets_78 (lv_at hl 9 rfl) ?_
            refine z_iload C0 dL_sets_80 (lv_at hl 1 rfl) ?_
            refine z_iload C0 dL_sets_82 (lv_at hl 0 rfl) ?_
            obtain ⟨r16, hc17, hf⟩ := zbind hf
            refine z_qVi (rest := []) C0 (zc20 hP) (zd20 (zD hD rfl)) hS (zmX3_plane l D cI cZ h _ (zx_lag t7) (zx_dead t7) (zx_manner t7) (zx_setting t7) (zx_keptRow t7) (zx_liveRow t7) (zx_shiftedRow t7) (zx_groups t7) (zx_search t7) (zx_deadUntil t7) (zx_settled t7) (zx_known t7) (zx_tooLate t7) (zx_ended t7) i6 r11 r13 v15 r16 hc17) (zkL_19 ⟨by decide, by decide⟩ C0.2.2.2.2.1) 3 rfl rfl rfl rfl hl.1 (Nat.le_of_ble_eq_true rfl) dL_sets_84 ⟨Nat.zero_le _, Nat.zero_le _⟩ (fun H locs hP hS => ?_)
            have hP : va_P D vwCl ((wX h cI r16.2.1 r16.2.2.1 r16.2.2.2 (zx_setting t7) (zx_keptRow t7) (zx_liveRow t7) (zx_shiftedRow t7) (zx_groups t7) (zx_search t7) (zx_deadUntil t7) (zx_settled t7) (zx_known t7) (zx_tooLate t7) (zx_ended t7)) ++ (wX h2 cI (zx_lag t8) (zx_dead t8) (zx_manner t8) (zx_setting t8) (zx_keptRow t8) (zx_liveRow t8) (zx_shiftedRow t8) (zx_groups t8) (zx_search t8) (zx_deadUntil t8) (zx_settled t8) (zx_known t8) (zx_tooLate t8) (zx_ended t8))) H := zb20 hP
            refine z_iconst C0 dL_sets_87 ?_
            refine z_icmpne C0 107 dL_sets_88 (by decide) (fun c21 => ?_) (fun c21 => ?_)
            · have hf := zif_neg hf c21
              refine z_iconst C0 dL_sets_107 ?_
              cases hf
            · have hf := zif_pos hf c21
              refine z_aload_n C0 dL_sets_91 rfl (lv_at hl 3 rfl) ?_
              refine z_iload C0 dL_sets_92 (lv_at hl 7 rfl) ?_
              refine z_iload C0 dL_sets_94 (lv_at hl 9 rfl) ?_
              refine z_iload C0 dL_sets_96 (lv_at hl 1 rfl) ?_
              refine z_iload C0 dL_sets_98 (lv_at hl 0 rfl) ?_
              obtain ⟨r18, hc19, hf⟩ := zbind hf
              refine z_qVi (rest := []) C0 (zc21 hP) (zd21 (zD hD rfl)) hS (zmX3_plane l D cI cZ h2 _ (zx_lag t8) (zx_dead t8) (zx_manner t8) (zx_setting t8) (zx_keptRow t8) (zx_liveRow t8) (zx_shiftedRow t8) (zx_groups t8) (zx_search t8) (zx_deadUntil t8) (zx_settled t8) (zx_known t8) (zx_tooLate t8) (zx_ended t8) i6 r11 r13 v15 r18 hc19) (zkL_19 ⟨by decide, by decide⟩ C0.2.2.2.2.1) 3 rfl rfl rfl rfl hl.1 (Nat.le_of_ble_eq_true rfl) dL_sets_100 ⟨Nat.zero_le _, Nat.zero_le _⟩ (fun H locs hP hS => ?_)
              have hP : va_P D vwCl ((wX h cI r16.2.1 r16.2.2.1 r16.2.2.2 (zx_setting t7) (zx_keptRow t7) (zx_liveRow t7) (zx_shiftedRow t7) (zx_groups t7) (zx_search t7) (zx_deadUntil t7) (zx_settled t7) (zx_known t7) (zx_tooLate t7) (zx_ended t7)) ++ (wX h2 cI r18.2.1 r18.2.2.1 r18.2.2.2 (zx_setting t8) (zx_keptRow t8) (zx_liveRow t8) (zx_shiftedRow t8) (zx_groups t8) (zx_search t8) (zx_deadUntil t8) (zx_settled t8) (zx_known t8) (zx_tooLate t8) (zx_ended t8))) H := zb21 hP
              refine z_iconst C0 dL_sets_103 ?_
              refine z_icmpeq C0 109 dL_sets_104 (by decide) (fun c20 => ?_) (fun c20 => ?_)
              · have hf := zif_pos hf c20
                refine z_iinc C0 [(5, .int (zI (i6 + 1))), (9, .int (zI v15)), (8, .int (zI r13)), (0, .ref (h 0)), (1, .ref (h2 0)), (2, .ref b), (3, .int (zI p3)), (4, .int (zI p4)), (6, .int (zI r9)), (7, .int (zI r11))] dL_sets_109 hl 7 rfl (by decide) rfl (fun ls hl => ?_)
                refine z_goto C0 3 dL_sets_112 (by decide) ?_
                exact ih (zk_X r16.2.1 r16.2.2.1 r16.2.2.2 (zx_setting t7) (zx_keptRow t7) (zx_liveRow t7) (zx_shiftedRow t7) (zx_groups t7) (zx_search t7) (zx_deadUntil t7) (zx_settled t7) (zx_known t7) (zx_tooLate t7) (zx_ended t7)) (zk_X r18.2.1 r18.2.2.1 r18.2.2.2 (zx_setting t8) (zx_keptRow t8) (zx_liveRow t8) (zx_shiftedRow t8) (zx_groups t8) (zx_search t8) (zx_deadUntil t8) (zx_settled t8) (zx_known t8) (zx_tooLate t8) (zx_ended t8)) (i6 + 1) out hf K _ _ hP hS ls (lv_sub hl [3, 4, 5, 6, 7, 0] rfl)
              · have hf := zif_neg hf c20
                refine z_iconst C0 dL_sets_107 ?_
                cases hf
          have hf := hE25
          refine z_ifne C0 54 dL_sets_47 (by decide) (fun c24 => ?_) (fun c24 => ?_)
          · have hf := zif_neg hf c24
            refine z_iload C0 dL_sets_54 (lv_at hl 7 rfl) ?_
            refine z_bipush C0 dL_sets_56 (by decide +kernel) ?_
            refine z_ishr C0 dL_sets_58 ?_
            refine z_bipush C0 dL_sets_59 (by decide +kernel) ?_
            obtain ⟨r22, hc23, hf⟩ := zbind hf
            refine z_qSi (rest := []) C0 (zc0 hP) (zd0 (zD hD rfl)) hS (zmL_low l D cI cZ _ (zshr r9 7) 30 r22 hc23) (zkL_15 ⟨by decide, by decide⟩ C0.2.2.2.2.1) rfl rfl hl.1 (Nat.le_of_ble_eq_true rfl) dL_sets_61 ⟨Nat.zero_le _, Nat.zero_le _⟩ (fun H locs hP hS => ?_)
            have hP : va_P D vwCl ((wX h cI (zx_lag t7) (zx_dead t7) (zx_manner t7) (zx_setting t7) (zx_keptRow t7) (zx_liveRow t7) (zx_shiftedRow t7) (zx_groups t7) (zx_search t7) (zx_deadUntil t7) (zx_settled t7) (zx_known t7) (zx_tooLate t7) (zx_ended t7)) ++ (wX h2 cI (zx_lag t8) (zx_dead t8) (zx_manner t8) (zx_setting t8) (zx_keptRow t8) (zx_liveRow t8) (zx_shiftedRow t8) (zx_groups t8) (zx_search t8) (zx_deadUntil t8) (zx_settled t8) (zx_known t8) (zx_tooLate t8) (zx_ended t8))) H := zb0 hP
            cases hf
            exact J14 _ _ hP hS ls (lv_sub hl [1, 2, 3, 4, 5, 6, 7, 0] rfl)
          · have hf := zif_pos hf c24
            refine z_iconst C0 dL_sets_50 ?_
            refine z_goto C0 64 dL_sets_51 (by decide) ?_
            cases hf
            exact J14 _ _ hP hS ls (lv_sub hl [1, 2, 3, 4, 5, 6, 7, 0] rfl)
        have hf := hE27
        refine z_ifne C0 31 dL_sets_24 (by decide) (fun c26 => ?_) (fun c26 => ?_)
        · have hf := zif_neg hf c26
          refine z_iload C0 dL_sets_31 (lv_at hl 0 rfl) ?_
          refine z_iconst C0 dL_sets_33 ?_
          refine z_ishr C0 dL_sets_34 ?_
          refine z_bipush C0 dL_sets_35 (by decide +kernel) ?_
          refine z_iand C0 dL_sets_37 ?_
          cases hf
          exact J12 _ _ hP hS ls (lv_sub hl [1, 2, 3, 4, 5, 6, 0] rfl)
        · have hf := zif_pos hf c26
          refine z_iconst C0 dL_sets_27 ?_
          refine z_goto C0 38 dL_sets_28 (by decide) ?_
          cases hf
          exact J12 _ _ hP hS ls (lv_sub hl [1, 2, 3, 4, 5, 6, 0] rfl)
  obtain ⟨r30, hE31, hf⟩ := zbind hf
  refine L29 _ t t2 0 r30 hE31 ?_ _ _ hP hS ls (lv_sub hl [1, 2, 3, 4, 5, 0] rfl)
  intro H locs hP hS ls hl
  refine z_aload_n C0 dL_sets_115 rfl (lv_at hl 2 rfl) ?_
  refine z_iload_n C0 dL_sets_116 rfl (lv_at hl 3 rfl) ?_
  refine z_bipush C0 dL_sets_117 (by decide +kernel) ?_
  refine z_iadd C0 dL_sets_119 ?_
  obtain ⟨r32, hc33, hf⟩ := zbind hf
  refine z_qSiX (rest := []) C0 (zc0 hP) (zd0 (zD hD rfl)) hS hZ hX (zmL_cell l D cI cZ b zL0 zsc _ (p3 + 6) r32 hc33) (zkL_9 ⟨by decide, by decide⟩ C0.2.2.2.2.1) rfl rfl hl.1 (Nat.le_of_ble_eq_true rfl) dL_sets_120 ⟨Nat.zero_le _, Nat.zero_le _⟩ (fun H locs hP hS => ?_)
  have hP : va_P D vwCl ((wX h cI (zx_lag r30.1) (zx_dead r30.1) (zx_manner r30.1) (zx_setting r30.1) (zx_keptRow r30.1) (zx_liveRow r30.1) (zx_shiftedRow r30.1) (zx_groups r30.1) (zx_search r30.1) (zx_deadUntil r30.1) (zx_settled r30.1) (zx_known r30.1) (zx_tooLate r30.1) (zx_ended r30.1)) ++ (wX h2 cI (zx_lag r30.2) (zx_dead r30.2) (zx_manner r30.2) (zx_setting r30.2) (zx_keptRow r30.2) (zx_liveRow r30.2) (zx_shiftedRow r30.2) (zx_groups r30.2) (zx_search r30.2) (zx_deadUntil r30.2) (zx_settled r30.2) (zx_known r30.2) (zx_tooLate r30.2) (zx_ended r30.2))) H := zb0 hP
  refine z_istore C0 [(5, .int (zI r32)), (0, .ref (h 0)), (1, .ref (h2 0)), (2, .ref b), (3, .int (zI p3)), (4, .int (zI p4))] dL_sets_123 hl (by decide) rfl (fun ls hl => ?_)
  refine z_iload C0 dL_sets_125 (lv_at hl 0 rfl) ?_
  refine z_bipush C0 dL_sets_127 (by decide +kernel) ?_
  refine z_iand C0 dL_sets_129 ?_
  obtain ⟨v34, hv34, hf⟩ := zl_some hf
  refine z_name hv34 ?_
  refine z_istore C0 [(6, .int (zI v34)), (5, .int (zI r32)), (0, .ref (h 0)), (1, .ref (h2 0)), (2, .ref b), (3, .int (zI p3)), (4, .int (zI p4))] dL_sets_130 hl (by decide) rfl (fun ls hl => ?_)
  refine z_iconst C0 dL_sets_132 ?_
  refine z_iload C0 dL_sets_133 (lv_at hl 1 rfl) ?_
  refine z_iconst C0 dL_sets_135 ?_
  refine z_ishr C0 dL_sets_136 ?_
  refine z_iconst C0 dL_sets_137 ?_
  obtain ⟨r35, hc36, hf⟩ := zbind hf
  refine z_qSi (rest := [.int (zI 2)]) C0 (zc0 hP) (zd0 (zD hD rfl)) hS (zmL_low l D cI cZ _ (zshr r32 4) 3 r35 hc36) (zkL_15 ⟨by decide, by decide⟩ C0.2.2.2.2.1) rfl rfl hl.1 (Nat.le_of_ble_eq_true rfl) dL_sets_138 ⟨Nat.zero_le _, Nat.zero_le _⟩ (fun H locs hP hS => ?_)
  have hP : va_P D vwCl ((wX h cI (zx_lag r30.1) (zx_dead r30.1) (zx_manner r30.1) (zx_setting r30.1) (zx_keptRow r30.1) (zx_liveRow r30.1) (zx_shiftedRow r30.1) (zx_groups r30.1) (zx_search r30.1) (zx_deadUntil r30.1) (zx_settled r30.1) (zx_known r30.1) (zx_tooLate r30.1) (zx_ended r30.1)) ++ (wX h2 cI (zx_lag r30.2) (zx_dead r30.2) (zx_manner r30.2) (zx_setting r30.2) (zx_keptRow r30.2) (zx_liveRow r30.2) (zx_shiftedRow r30.2) (zx_groups r30.2) (zx_search r30.2) (zx_deadUntil r30.2) (zx_settled r30.2) (zx_known r30.2) (zx_tooLate r30.2) (zx_ended r30.2))) H := zb0 hP
  refine z_iadd C0 dL_sets_141 ?_
  obtain ⟨v37, hv37, hf⟩ := zl_some hf
  refine z_name hv37 ?_
  refine z_istore C0 [(7, .int (zI v37)), (6, .int (zI v34)), (5, .int (zI r32)), (0, .ref (h 0)), (1, .ref (h2 0)), (2, .ref b), (3, .int (zI p3)), (4, .int (zI p4))] dL_sets_142 hl (by decide) rfl (fun ls hl => ?_)
  refine z_iload C0 dL_sets_144 (lv_at hl 2 rfl) ?_
  refine z_bipush C0 dL_sets_146 (by decide +kernel) ?_
  refine z_ishr C0 dL_sets_148 ?_
  refine z_iconst C0 dL_sets_149 ?_
  refine z_iand C0 dL_sets_150 ?_
  obtain ⟨v38, hv38, hf⟩ := zl_some hf
  refine z_name hv38 ?_
  refine z_istore C0 [(8, .int (zI v38)), (7, .int (zI v37)), (6, .int (zI v34)), (5, .int (zI r32)), (0, .ref (h 0)), (1, .ref (h2 0)), (2, .ref b), (3, .int (zI p3)), (4, .int (zI p4))] dL_sets_151 hl (by decide) rfl (fun ls hl => ?_)
  refine z_aload_n C0 dL_sets_153 rfl (lv_at hl 4 rfl) ?_
  refine z_iconst C0 dL_sets_154 ?_
  refine z_iload C0 dL_sets_155 (lv_at hl 8 rfl) ?_
  obtain ⟨r39, hc40, hf⟩ := zbind hf
  refine z_qViS (rest := []) C0 (zc20 hP) (zd20 (zD hD rfl)) hS hZ (zmX3_tune l D cI cZ h _ (zx_lag r30.1) (zx_dead r30.1) (zx_manner r30.1) (zx_setting r30.1) (zx_keptRow r30.1) (zx_liveRow r30.1) (zx_shiftedRow r30.1) (zx_groups r30.1) (zx_search r30.1) (zx_deadUntil r30.1) (zx_settled r30.1) (zx_known r30.1) (zx_tooLate r30.1) (zx_ended r30.1) 0 p4 r39 hc40) (zkL_25 ⟨by decide, by decide⟩ C0.2.2.2.2.1) 3 rfl rfl rfl rfl hl.1 (Nat.le_of_ble_eq_true rfl) dL_sets_157 ⟨Nat.zero_le _, Nat.zero_le _⟩ (fun H locs hP hS => ?_)
  have hP : va_P D vwCl ((wX h cI (zx_lag r30.1) (zx_dead r30.1) (zx_manner r30.1) r39.2 (zx_keptRow r30.1) (zx_liveRow r30.1) (zx_shiftedRow r30.1) (zx_groups r30.1) (zx_search r30.1) (zx_deadUntil r30.1) (zx_settled r30.1) (zx_known r30.1) (zx_tooLate r30.1) (zx_ended r30.1)) ++ (wX h2 cI (zx_lag r30.2) (zx_dead r30.2) (zx_manner r30.2) (zx_setting r30.2) (zx_keptRow r30.2) (zx_liveRow r30.2) (zx_shiftedRow r30.2) (zx_groups r30.2) (zx_search r30.2) (zx_deadUntil r30.2) (zx_settled r30.2) (zx_known r30.2) (zx_tooLate r30.2) (zx_ended r30.2))) H := zb20 hP
  refine z_iflt C0 239 dL_sets_160 (by decide) (fun c62 => ?_) (fun c62 => ?_)
  · have hf := zif_pos hf c62
    refine z_iconst C0 dL_sets_239 ?_
    cases hf
  · have hf := zif_neg hf c62
    refine z_aload_n C0 dL_sets_163 rfl (lv_at hl 5 rfl) ?_
    refine z_iconst C0 dL_sets_164 ?_
    refine z_iload C0 dL_sets_165 (lv_at hl 8 rfl) ?_
    obtain ⟨r41, hc42, hf⟩ := zbind hf
    refine z_qViS (rest := []) C0 (zc21 hP) (zd21 (zD hD rfl)) hS hZ (zmX3_tune l D cI cZ h2 _ (zx_lag r30.2) (zx_dead r30.2) (zx_manner r30.2) (zx_setting r30.2) (zx_keptRow r30.2) (zx_liveRow r30.2) (zx_shiftedRow r30.2) (zx_groups r30.2) (zx_search r30.2) (zx_deadUntil r30.2) (zx_settled r30.2) (zx_known r30.2) (zx_tooLate r30.2) (zx_ended r30.2) 0 p4 r41 hc42) (zkL_25 ⟨by decide, by decide⟩ C0.2.2.2.2.1) 3 rfl rfl rfl rfl hl.1 (Nat.le_of_ble_eq_true rfl) dL_sets_167 ⟨Nat.zero_le _, Nat.zero_le _⟩ (fun H locs hP hS => ?_)
    have hP : va_P D vwCl ((wX h cI (zx_lag r30.1) (zx_dead r30.1) (zx_manner r30.1) r39.2 (zx_keptRow r30.1) (zx_liveRow r30.1) (zx_shiftedRow r30.1) (zx_groups r30.1) (zx_search r30.1) (zx_deadUntil r30.1) (zx_settled r30.1) (zx_known r30.1) (zx_tooLate r30.1) (zx_ended r30.1)) ++ (wX h2 cI (zx_lag r30.2) (zx_dead r30.2) (zx_manner r30.2) r41.2 (zx_keptRow r30.2) (zx_liveRow r30.2) (zx_shiftedRow r30.2) (zx_groups r30.2) (zx_search r30.2) (zx_deadUntil r30.2) (zx_settled r30.2) (zx_known r30.2) (zx_tooLate r30.2) (zx_ended r30.2))) H := zb21 hP
    refine z_iflt C0 239 dL_sets_170 (by decide) (fun c61 => ?_) (fun c61 => ?_)
    · have hf := zif_pos hf c61
      refine z_iconst C0 dL_sets_239 ?_
      cases hf
    · have hf := zif_neg hf c61
      refine z_aload_n C0 dL_sets_173 rfl (lv_at hl 4 rfl) ?_
      refine z_iconst C0 dL_sets_174 ?_
      refine z_iload C0 dL_sets_175 (lv_at hl 2 rfl) ?_
      obtain ⟨r43, hc44, hf⟩ := zbind hf
      refine z_qViS (rest := []) C0 (zc20 hP) (zd20 (zD hD rfl)) hS hZ (zmX3_tune l D cI cZ h _ (zx_lag r30.1) (zx_dead r30.1) (zx_manner r30.1) r39.2 (zx_keptRow r30.1) (zx_liveRow r30.1) (zx_shiftedRow r30.1) (zx_groups r30.1) (zx_search r30.1) (zx_deadUntil r30.1) (zx_settled r30.1) (zx_known r30.1) (zx_tooLate r30.1) (zx_ended r30.1) 1 v34 r43 hc44) (zkL_25 ⟨by decide, by decide⟩ C0.2.2.2.2.1) 3 rfl rfl rfl rfl hl.1 (Nat.le_of_ble_eq_true rfl) dL_sets_177 ⟨Nat.zero_le _, Nat.zero_le _⟩ (fun H locs hP hS => ?_)
      have hP : va_P D vwCl ((wX h cI (zx_lag r30.1) (zx_dead r30.1) (zx_manner r30.1) r43.2 (zx_keptRow r30.1) (zx_liveRow r30.1) (zx_shiftedRow r30.1) (zx_groups r30.1) (zx_search r30.1) (zx_deadUntil r30.1) (zx_settled r30.1) (zx_known r30.1) (zx_tooLate r30.1) (zx_ended r30.1)) ++ (wX h2 cI (zx_lag r30.2) (zx_dead r30.2) (zx_manner r30.2) r41.2 (zx_keptRow r30.2) (zx_liveRow r30.2) (zx_shiftedRow r30.2) (zx_groups r30.2) (zx_search r30.2) (zx_deadUntil r30.2) (zx_settled r30.2) (zx_known r30.2) (zx_tooLate r30.2) (zx_ended r30.2))) H := zb20 hP
      refine z_iflt C0 239 dL_sets_180 (by decide) (fun c60 => ?_) (fun c60 => ?_)
      · have hf := zif_pos hf c60
        refine z_iconst C0 dL_sets_239 ?_
        cases hf
      · have hf := zif_neg hf c60
        refine z_aload_n C0 dL_sets_183 rfl (lv_at hl 5 rfl) ?_
        refine z_iconst C0 dL_sets_184 ?_
        refine z_iload C0 dL_sets_185 (lv_at hl 2 rfl) ?_
        obtain ⟨r45, hc46, hf⟩ := zbind hf
        refine z_qViS (rest := []) C0 (zc21 hP) (zd21 (zD hD rfl)) hS hZ (zmX3_tune l D cI cZ h2 _ (zx_lag r30.2) (zx_dead r30.2) (zx_manner r30.2) r41.2 (zx_keptRow r30.2) (zx_liveRow r30.2) (zx_shiftedRow r30.2) (zx_groups r30.2) (zx_search r30.2) (zx_deadUntil r30.2) (zx_settled r30.2) (zx_known r30.2) (zx_tooLate r30.2) (zx_ended r30.2) 1 v34 r45 hc46) (zkL_25 ⟨by decide, by decide⟩ C0.2.2.2.2.1) 3 rfl rfl rfl rfl hl.1 (Nat.le_of_ble_eq_true rfl) dL_sets_187 ⟨Nat.zero_le _, Nat.zero_le _⟩ (fun H locs hP hS => ?_)
        have hP : va_P D vwCl ((wX h cI (zx_lag r30.1) (zx_dead r30.1) (zx_manner r30.1) r43.2 (zx_keptRow r30.1) (zx_liveRow r30.1) (zx_shiftedRow r30.1) (zx_groups r30.1) (zx_search r30.1) (zx_deadUntil r30.1) (zx_settled r30.1) (zx_known r30.1) (zx_tooLate r30.1) (zx_ended r30.1)) ++ (wX h2 cI (zx_lag r30.2) (zx_dead r30.2) (zx_manner r30.2) r45.2 (zx_keptRow r30.2) (zx_liveRow r30.2) (zx_shiftedRow r30.2) (zx_groups r30.2) (zx_search r30.2) (zx_deadUntil r30.2) (zx_settled r30.2) (zx_known r30.2) (zx_tooLate r30.2) (zx_ended r30.2))) H := zb21 hP
        refine z_iflt C0 239 dL_sets_190 (by decide) (fun c59 => ?_) (fun c59 => ?_)
        · have hf := zif_pos hf c59
          refine z_iconst C0 dL_sets_239 ?_
          cases hf
        · have hf := zif_neg hf c59
          refine z_aload_n C0 dL_sets_193 rfl (lv_at hl 4 rfl) ?_
          refine z_iconst C0 dL_sets_194 ?_
          refine z_iload C0 dL_sets_195 (lv_at hl 1 rfl) ?_
          obtain ⟨r47, hc48, hf⟩ := zbind hf
          refine z_qViS (rest := []) C0 (zc20 hP) (zd20 (zD hD rfl)) hS hZ (zmX3_tune l D cI cZ h _ (zx_lag r30.1) (zx_dead r30.1) (zx_manner r30.1) r43.2 (zx_keptRow r30.1) (zx_liveRow r30.1) (zx_shiftedRow r30.1) (zx_groups r30.1) (zx_search r30.1) (zx_deadUntil r30.1) (zx_settled r30.1) (zx_known r30.1) (zx_tooLate r30.1) (zx_ended r30.1) 2 v37 r47 hc48) (zkL_25 ⟨by decide, by decide⟩ C0.2.2.2.2.1) 3 rfl rfl rfl rfl hl.1 (Nat.le_of_ble_eq_true rfl) dL_sets_197 ⟨Nat.zero_le _, Nat.zero_le _⟩ (fun H locs hP hS => ?_)
          have hP : va_P D vwCl ((wX h cI (zx_lag r30.1) (zx_dead r30.1) (zx_manner r30.1) r47.2 (zx_keptRow r30.1) (zx_liveRow r30.1) (zx_shiftedRow r30.1) (zx_groups r30.1) (zx_search r30.1) (zx_deadUntil r30.1) (zx_settled r30.1) (zx_known r30.1) (zx_tooLate r30.1) (zx_ended r30.1)) ++ (wX h2 cI (zx_lag r30.2) (zx_dead r30.2) (zx_manner r30.2) r45.2 (zx_keptRow r30.2) (zx_liveRow r30.2) (zx_shiftedRow r30.2) (zx_groups r30.2) (zx_search r30.2) (zx_deadUntil r30.2) (zx_settled r30.2) (zx_known r30.2) (zx_tooLate r30.2) (zx_ended r30.2))) H := zb20 hP
          refine z_iconst C0 dL_sets_200 ?_
          refine z_icmplt C0 239 dL_sets_201 (by decide) (fun c58 => ?_) (fun c58 => ?_)
          · have hf := zif_pos hf c58
            refine z_iconst C0 dL_sets_239 ?_
            cases hf
          · have hf := zif_neg hf c58
            refine z_aload_n C0 dL_sets_204 rfl (lv_at hl 5 rfl) ?_
            refine z_iconst C0 dL_sets_205 ?_
            refine z_iload C0 dL_sets_206 (lv_at hl 1 rfl) ?_
            obtain ⟨r49, hc50, hf⟩ := zbind hf
            refine z_qViS (rest := []) C0 (zc21 hP) (zd21 (zD hD rfl)) hS hZ (zmX3_tune l D cI cZ h2 _ (zx_lag r30.2) (zx_dead r30.2) (zx_manner r30.2) r45.2 (zx_keptRow r30.2) (zx_liveRow r30.2) (zx_shiftedRow r30.2) (zx_groups r30.2) (zx_search r30.2) (zx_deadUntil r30.2) (zx_settled r30.2) (zx_known r30.2) (zx_tooLate r30.2) (zx_ended r30.2) 2 v37 r49 hc50) (zkL_25 ⟨by decide, by decide⟩ C0.2.2.2.2.1) 3 rfl rfl rfl rfl hl.1 (Nat.le_of_ble_eq_true rfl) dL_sets_208 ⟨Nat.zero_le _, Nat.zero_le _⟩ (fun H locs hP hS => ?_)
            have hP : va_P D vwCl ((wX h cI (zx_lag r30.1) (zx_dead r30.1) (zx_manner r30.1) r47.2 (zx_keptRow r30.1) (zx_liveRow r30.1) (zx_shiftedRow r30.1) (zx_groups r30.1) (zx_search r30.1) (zx_deadUntil r30.1) (zx_settled r30.1) (zx_known r30.1) (zx_tooLate r30.1) (zx_ended r30.1)) ++ (wX h2 cI (zx_lag r30.2) (zx_dead r30.2) (zx_manner r30.2) r49.2 (zx_keptRow r30.2) (zx_liveRow r30.2) (zx_shiftedRow r30.2) (zx_groups r30.2) (zx_search r30.2) (zx_deadUntil r30.2) (zx_settled r30.2) (zx_known r30.2) (zx_tooLate r30.2) (zx_ended r30.2))) H := zb21 hP
            refine z_iconst C0 dL_sets_211 ?_
            refine z_icmplt C0 239 dL_sets_212 (by decide) (fun c57 => ?_) (fun c57 => ?_)
            · have hf := zif_pos hf c57
              refine z_iconst C0 dL_sets_239 ?_
              cases hf
            · have hf := zif_neg hf c57
              refine z_aload_n C0 dL_sets_215 rfl (lv_at hl 4 rfl) ?_
              refine z_iconst C0 dL_sets_216 ?_
              refine z_iload C0 dL_sets_217 (lv_at hl 0 rfl) ?_
              obtain ⟨r51, hc52, hf⟩ := zbind hf
              refine z_qViS (rest := []) C0 (zc20 hP) (zd20 (zD hD rfl)) hS hZ (zmX3_tune l D cI cZ h _ (zx_lag r30.1) (zx_dead r30.1) (zx_manner r30.1) r47.2 (zx_keptRow r30.1) (zx_liveRow r30.1) (zx_shiftedRow r30.1) (zx_groups r30.1) (zx_search r30.1) (zx_deadUntil r30.1) (zx_settled r30.1) (zx_known r30.1) (zx_tooLate r30.1) (zx_ended r30.1) 3 v38 r51 hc52) (zkL_25 ⟨by decide, by decide⟩ C0.2.2.2.2.1) 3 rfl rfl rfl rfl hl.1 (Nat.le_of_ble_eq_true rfl) dL_sets_219 ⟨Nat.zero_le _, Nat.zero_le _⟩ (fun H locs hP hS => ?_)
              have hP : va_P D vwCl ((wX h cI (zx_lag r30.1) (zx_dead r30.1) (zx_manner r30.1) r51.2 (zx_keptRow r30.1) (zx_liveRow r30.1) (zx_shiftedRow r30.1) (zx_groups r30.1) (zx_search r30.1) (zx_deadUntil r30.1) (zx_settled r30.1) (zx_known r30.1) (zx_tooLate r30.1) (zx_ended r30.1)) ++ (wX h2 cI (zx_lag r30.2) (zx_dead r30.2) (zx_manner r30.2) r49.2 (zx_keptRow r30.2) (zx_liveRow r30.2) (zx_shiftedRow r30.2) (zx_groups r30.2) (zx_search r30.2) (zx_deadUntil r30.2) (zx_settled r30.2) (zx_known r30.2) (zx_tooLate r30.2) (zx_ended r30.2))) H := zb20 hP
              refine z_iflt C0 239 dL_sets_222 (by decide) (fun c56 => ?_) (fun c56 => ?_)
              · have hf := zif_pos hf c56
                refine z_iconst C0 dL_sets_239 ?_
                cases hf
              · have hf := zif_neg hf c56
                refine z_aload_n C0 dL_sets_225 rfl (lv_at hl 5 rfl) ?_
                refine z_iconst C0 dL_sets_226 ?_
                refine z_iload C0 dL_sets_227 (lv_at hl 0 rfl) ?_
                obtain ⟨r53, hc54, hf⟩ := zbind hf
                refine z_qViS (rest := []) C0 (zc21 hP) (zd21 (zD hD rfl)) hS hZ (zmX3_tune l D cI cZ h2 _ (zx_lag r30.2) (zx_dead r30.2) (zx_manner r30.2) r49.2 (zx_keptRow r30.2) (zx_liveRow r30.2) (zx_shiftedRow r30.2) (zx_groups r30.2) (zx_search r30.2) (zx_deadUntil r30.2) (zx_settled r30.2) (zx_known r30.2) (zx_tooLate r30.2) (zx_ended r30.2) 3 v38 r53 hc54) (zkL_25 ⟨by decide, by decide⟩ C0.2.2.2.2.1) 3 rfl rfl rfl rfl hl.1 (Nat.le_of_ble_eq_true rfl) dL_sets_229 ⟨Nat.zero_le _, Nat.zero_le _⟩ (fun H locs hP hS => ?_)
                have hP : va_P D vwCl ((wX h cI (zx_lag r30.1) (zx_dead r30.1) (zx_manner r30.1) r51.2 (zx_keptRow r30.1) (zx_liveRow r30.1) (zx_shiftedRow r30.1) (zx_groups r30.1) (zx_search r30.1) (zx_deadUntil r30.1) (zx_settled r30.1) (zx_known r30.1) (zx_tooLate r30.1) (zx_ended r30.1)) ++ (wX h2 cI (zx_lag r30.2) (zx_dead r30.2) (zx_manner r30.2) r53.2 (zx_keptRow r30.2) (zx_liveRow r30.2) (zx_shiftedRow r30.2) (zx_groups r30.2) (zx_search r30.2) (zx_deadUntil r30.2) (zx_settled r30.2) (zx_known r30.2) (zx_tooLate r30.2) (zx_ended r30.2))) H := zb21 hP
                refine z_iflt C0 239 dL_sets_232 (by decide) (fun c55 => ?_) (fun c55 => ?_)
                · have hf := zif_pos hf c55
                  refine z_iconst C0 dL_sets_239 ?_
                  cases hf
                · have hf := zif_neg hf c55
                  refine z_iconst C0 dL_sets_235 ?_
                  refine z_goto C0 240 dL_sets_236 (by decide) ?_
                  cases hf
                  exact hret (Or.inr rfl) hP hS dL_sets_240
