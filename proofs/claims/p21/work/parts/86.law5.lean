set_option maxHeartbeats 16000000 in
set_option maxRecDepth 100000 in
theorem law_walk {p : Program} {l : Launch} {e : Env} {s : State} {m : MethodId} {below : List Frame} {meth : Method} {c : Code} {D : va_G} {cI cZ : ClassId} {A : Nat → Prop} {b zL0 : Nat} {zsc : Nat → Int} {h h2 : Nat → Nat} {b3 b4 b5 b6 : Nat} {Q : State → Prop} (C0 : zC p s m #[Value.ref b] c D cI cZ A cL_law 16 RL) (hX : zScr b zL0 zsc A s s.heap) (hZ : zSt A s s.heap)
    (hret : ∀ {pc : Nat} {H : Heap} {locs : List Loc} {ls : Array Slot}, va_S A s.heap H locs → decode cL_law pc = .ok (.ireturn, 1) → W p l e room_1 s m #[Value.ref b] below meth c H locs 600000 7302250 Q (F0 m pc ls [.int (zI 1)]))
    (t t2 : zXT) (a3 a4 a5 a6 : Nat → Int) (hf : fL_law zL0 zsc t t2 a3 a4 a5 a6 = some 1) (H : Heap) (locs : List Loc) (hP : va_P D vwCl ((wX h cI (zx_lag t) (zx_dead t) (zx_manner t) (zx_setting t) (zx_keptRow t) (zx_liveRow t) (zx_shiftedRow t) (zx_groups t) (zx_search t) (zx_deadUntil t) (zx_settled t) (zx_known t) (zx_tooLate t) (zx_ended t)) ++ (wX h2 cI (zx_lag t2) (zx_dead t2) (zx_manner t2) (zx_setting t2) (zx_keptRow t2) (zx_liveRow t2) (zx_shiftedRow t2) (zx_groups t2) (zx_search t2) (zx_deadUntil t2) (zx_settled t2) (zx_known t2) (zx_tooLate t2) (zx_ended t2)) ++ ([(b3, .inl (cI, 48, .inl (za a3))), (b4, .inl (cI, 48, .inl (za a4))), (b5, .inl (cI, 48, .inl (za a5))), (b6, .inl (cI, 48, .inl (za a6)))] : va_W)) H) (hD : va_D A ((wX h cI (zx_lag t) (zx_dead t) (zx_manner t) (zx_setting t) (zx_keptRow t) (zx_liveRow t) (zx_shiftedRow t) (zx_groups t) (zx_search t) (zx_deadUntil t) (zx_settled t) (zx_known t) (zx_tooLate t) (zx_ended t)) ++ (wX h2 cI (zx_lag t2) (zx_dead t2) (zx_manner t2) (zx_setting t2) (zx_keptRow t2) (zx_liveRow t2) (zx_shiftedRow t2) (zx_groups t2) (zx_search t2) (zx_deadUntil t2) (zx_settled t2) (zx_known t2) (zx_tooLate t2) (zx_ended t2)) ++ ([(b3, .inl (cI, 48, .inl (za a3))), (b4, .inl (cI, 48, .inl (za a4))), (b5, .inl (cI, 48, .inl (za a5))), (b6, .inl (cI, 48, .inl (za a6)))] : va_W))) (hS : va_S A s.heap H locs) (ls : Array Slot) (hl : lv_has ls 16 [(0, .ref b), (1, .ref (h 0)), (2, .ref (h2 0)), (3, .ref b3), (4, .ref b4), (5, .ref b5), (6, .ref b6), (7, .int (zI 0))]) : W p l e room_1 s m #[Value.ref b] below meth c H locs 600000 7302250 Q (F0 m 42 ls []) := by
  unfold fL_law at hf
  have L268 : ∀ (zn : Nat) (t9 : zXT) (t10 : zXT) (a11 : (Nat → Int)) (a12 : (Nat → Int)) (a13 : (Nat → Int)) (a14 : (Nat → Int)) (i8 : Int) (out : zXT × zXT × (Nat → Int) × (Nat → Int) × (Nat → Int) × (Nat → Int)), fL_law_L42 zn zL0 zsc t9 t10 a11 a12 a13 a14 i8 = some out → (∀ (H : Heap) (locs : List Loc), va_P D vwCl ((wX h cI (zx_lag out.1) (zx_dead out.1) (zx_manner out.1) (zx_setting out.1) (zx_keptRow out.1) (zx_liveRow out.1) (zx_shiftedRow out.1) (zx_groups out.1) (zx_search out.1) (zx_deadUntil out.1) (zx_settled out.1) (zx_known out.1) (zx_tooLate out.1) (zx_ended out.1)) ++ (wX h2 cI (zx_lag out.2.1) (zx_dead out.2.1) (zx_manner out.2.1) (zx_setting out.2.1) (zx_keptRow out.2.1) (zx_liveRow out.2.1) (zx_shiftedRow out.2.1) (zx_groups out.2.1) (zx_search out.2.1) (zx_deadUntil out.2.1) (zx_settled out.2.1) (zx_known out.2.1) (zx_tooLate out.2.1) (zx_ended out.2.1)) ++ ([(b3, .inl (cI, 48, .inl (za out.2.2.1))), (b4, .inl (cI, 48, .inl (za out.2.2.2.1))), (b5, .inl (cI, 48, .inl (za out.2.2.2.2.1))), (b6, .inl (cI, 48, .inl (za out.2.2.2.2.2)))] : va_W)) H → va_S A s.heap H locs → ∀ ls : Array Slot, lv_has ls 16 [(1, .ref (h 0))] → W p l e room_1 s m #[Value.ref b] below meth c H locs 600000 7302250 Q (F0 m 723 ls [])) → ∀ (H : Heap) (locs : List Loc), va_P D vwCl ((wX h cI (zx_lag t9) (zx_dead t9) (zx_manner t9) (zx_setting t9) (zx_keptRow t9) (zx_liveRow t9) (zx_shiftedRow t9) (zx_groups t9) (zx_search t9) (zx_deadUntil t9) (zx_settled t9) (zx_known t9) (zx_tooLate t9) (zx_ended t9)) ++ (wX h2 cI (zx_lag t10) (zx_dead t10) (zx_manner t10) (zx_setting t10) (zx_keptRow t10) (zx_liveRow t10) (zx_shiftedRow t10) (zx_groups t10) (zx_search t10) (zx_deadUntil t10) (zx_settled t10) (zx_known t10) (zx_tooLate t10) (zx_ended t10)) ++ ([(b3, .inl (cI, 48, .inl (za a11))), (b4, .inl (cI, 48, .inl (za a12))), (b5, .inl (cI, 48, .inl (za a13))), (b6, .inl (cI, 48, .inl (za a14)))] : va_W)) H → va_S A s.heap H locs → ∀ ls : Array Slot, lv_has ls 16 [(0, .ref b), (1, .ref (h 0)), (2, .ref (h2 0)), (3, .ref b3), (4, .ref b4), (5, .ref b5), (6, .ref b6), (7, .int (zI i8))] → W p l e room_1 s m #[Value.ref b] below meth c H locs 600000 7302250 Q (F0 m 42 ls []) := by
    intro zn
    induction zn with
    | zero =>
      intro t9 t10 a11 a12 a13 a14 i8 out hf
      rw [fL_law_L42_z] at hf
      cases hf
    | succ zn ih =>
      intro t9 t10 a11 a12 a13 a14 i8 out hf K H locs hP hS ls hl
      rw [fL_law_L42_s] at hf
      refine z_iload C0 dL_law_42 (lv_at hl 7 rfl) ?_
      refine z_iconst C0 dL_law_44 ?_
      refine z_icmpge C0 723 dL_law_45 (by decide) (fun c267 => ?_) (fun c267 => ?_)
      · have hf := zif_pos hf c267
        cases hf
        exact K _ _ hP hS ls (lv_sub hl [1] rfl)
      · have hf := zif_neg hf c267
        refine z_aload_n C0 dL_law_48 rfl (lv_at hl 0 rfl) ?_
        refine z_bipush C0 dL_law_49 (by decide +kernel) ?_
        refine z_iload C0 dL_law_51 (lv_at hl 7 rfl) ?_
        refine z_imul C0 dL_law_53 ?_
        obtain ⟨r15, hc16, hf⟩ := zbind hf
        refine z_qSiX (rest := []) C0 (zc0 hP) (zd0 (zD hD rfl)) hS hZ hX (zmL_cell l D cI cZ b zL0 zsc _ (60 * i8) r15 hc16) (zkL_9 ⟨by decide, by decide⟩ C0.2.2.2.2.1) rfl rfl hl.1 (Nat.le_of_ble_eq_true rfl) dL_law_54 ⟨Nat.le_refl _, Nat.le_refl _⟩ (fun H locs hP hS => ?_)
        have hP : va_P D vwCl ((wX h cI (zx_lag t9) (zx_dead t9) (zx_manner t9) (zx_setting t9) (zx_keptRow t9) (zx_liveRow t9) (zx_shiftedRow t9) (zx_groups t9) (zx_search t9) (zx_deadUntil t9) (zx_settled t9) (zx_known t9) (zx_tooLate t9) (zx_ended t9)) ++ (wX h2 cI (zx_lag t10) (zx_dead t10) (zx_manner t10) (zx_setting t10) (zx_keptRow t10) (zx_liveRow t10) (zx_shiftedRow t10) (zx_groups t10) (zx_search t10) (zx_deadUntil t10) (zx_settled t10) (zx_known t10) (zx_tooLate t10) (zx_ended t10)) ++ ([(b3, .inl (cI, 48, .inl (za a11))), (b4, .inl (cI, 48, .inl (za a12))), (b5, .inl (cI, 48, .inl (za a13))), (b6, .inl (cI, 48, .inl (za a14)))] : va_W)) H := zb0 hP
        refine z_bipush C0 dL_law_57 (by decide +kernel) ?_
        obtain ⟨r17, hc18, hf⟩ := zbind hf
        refine z_qSi (rest := []) C0 (zc0 hP) (zd0 (zD hD rfl)) hS (zmL_low l D cI cZ _ r15 60 r17 hc18) (zkL_15 ⟨by decide, by decide⟩ C0.2.2.2.2.1) rfl rfl hl.1 (Nat.le_of_ble_eq_true rfl) dL_law_59 ⟨Nat.le_refl _, Nat.le_refl _⟩ (fun H locs hP hS => ?_)
        have hP : va_P D vwCl ((wX h cI (zx_lag t9) (zx_dead t9) (zx_manner t9) (zx_setting t9) (zx_keptRow t9) (zx_liveRow t9) (zx_shiftedRow t9) (zx_groups t9) (zx_search t9) (zx_deadUntil t9) (zx_settled t9) (zx_known t9) (zx_tooLate t9) (zx_ended t9)) ++ (wX h2 cI (zx_lag t10) (zx_dead t10) (zx_manner t10) (zx_setting t10) (zx_keptRow t10) (zx_liveRow t10) (zx_shiftedRow t10) (zx_groups t10) (zx_search t10) (zx_deadUntil t10) (zx_settled t10) (zx_known t10) (zx_tooLate t10) (zx_ended t10)) ++ ([(b3, .inl (cI, 48, .inl (za a11))), (b4, .inl (cI, 48, .inl (za a12))), (b5, .inl (cI, 48, .inl (za a13))), (b6, .inl (cI, 48, .inl (za a14)))] : va_W)) H := zb0 hP
        refine z_istore C0 [(8, .int (zI r17)), (0, .ref b), (1, .ref (h 0)), (2, .ref (h2 0)), (3, .ref b3), (4, .ref b4), (5, .ref b5), (6, .ref b6), (7, .int (zI i8))] dL_law_62 hl (by decide) rfl (fun ls hl => ?_)
        refine z_aload_n C0 dL_law_64 rfl (lv_at hl 2 rfl) ?_
        obtain ⟨r19, hc20, hf⟩ := zbind hf
        refine z_qVi (rest := []) C0 (zc30 hP) (zd30 (zD hD rfl)) hS (zmX3_anew l D cI cZ h _ (zx_lag t9) (zx_dead t9) (zx_manner t9) (zx_setting t9) (zx_keptRow t9) (zx_liveRow t9) (zx_shiftedRow t9) (zx_groups t9) (zx_search t9) (zx_deadUntil t9) (zx_settled t9) (zx_known t9) (zx_tooLate t9) (zx_ended t9) r19 hc20) (zkL_76 ⟨by decide, by decide⟩ C0.2.2.2.2.1) 3 rfl rfl rfl rfl hl.1 (Nat.le_of_ble_eq_true rfl) dL_law_65 ⟨Nat.le_refl _, Nat.le_refl _⟩ (fun H locs hP hS => ?_)
        have hP : va_P D vwCl ((wX h cI (zx_lag t9) (zx_dead t9) (zx_manner t9) (zx_setting t9) r19.2.1 r19.2.2.1 (zx_shiftedRow t9) r19.2.2.2.1 (zx_search t9) r19.2.2.2.2.1 r19.2.2.2.2.2.1 r19.2.2.2.2.2.2.1 r19.2.2.2.2.2.2.2.1 r19.2.2.2.2.2.2.2.2) ++ (wX h2 cI (zx_lag t10) (zx_dead t10) (zx_manner t10) (zx_setting t10) (zx_keptRow t10) (zx_liveRow t10) (zx_shiftedRow t10) (zx_groups t10) (zx_search t10) (zx_deadUntil t10) (zx_settled t10) (zx_known t10) (zx_tooLate t10) (zx_ended t10)) ++ ([(b3, .inl (cI, 48, .inl (za a11))), (b4, .inl (cI, 48, .inl (za a12))), (b5, .inl (cI, 48, .inl (za a13))), (b6, .inl (cI, 48, .inl (za a14)))] : va_W)) H := zb30 hP
        refine z_iflt C0 142 dL_law_68 (by decide) (fun c266 => ?_) (fun c266 => ?_)
        · have hf := zif_pos hf c266
          refine z_iconst C0 dL_law_142 ?_
          cases hf
        · have hf := zif_neg hf c266
          refine z_aload_n C0 dL_law_71 rfl (lv_at hl 3 rfl) ?_
          obtain ⟨r21, hc22, hf⟩ := zbind hf
          refine z_qVi (rest := []) C0 (zc31 hP) (zd31 (zD hD rfl)) hS (zmX3_anew l D cI cZ h2 _ (zx_lag t10) (zx_dead t10) (zx_manner t10) (zx_setting t10) (zx_keptRow t10) (zx_liveRow t10) (zx_shiftedRow t10) (zx_groups t10) (zx_search t10) (zx_deadUntil t10) (zx_settled t10) (zx_known t10) (zx_tooLate t10) (zx_ended t10) r21 hc22) (zkL_76 ⟨by decide, by decide⟩ C0.2.2.2.2.1) 3 rfl rfl rfl rfl hl.1 (Nat.le_of_ble_eq_true rfl) dL_law_72 ⟨Nat.le_refl _, Nat.le_refl _⟩ (fun H locs hP hS => ?_)
          have hP : va_P D vwCl ((wX h cI (zx_lag t9) (zx_dead t9) (zx_manner t9) (zx_setting t9) r19.2.1 r19.2.2.1 (zx_shiftedRow t9) r19.2.2.2.1 (zx_search t9) r19.2.2.2.2.1 r19.2.2.2.2.2.1 r19.2.2.2.2.2.2.1 r19.2.2.2.2.2.2.2.1 r19.2.2.2.2.2.2.2.2) ++ (wX h2 cI (zx_lag t10) (zx_dead t10) (zx_manner t10) (zx_setting t10) r21.2.1 r21.2.2.1 (zx_shiftedRow t10) r21.2.2.2.1 (zx_search t10) r21.2.2.2.2.1 r21.2.2.2.2.2.1 r21.2.2.2.2.2.2.1 r21.2.2.2.2.2.2.2.1 r21.2.2.2.2.2.2.2.2) ++ ([(b3, .inl (cI, 48, .inl (za a11))), (b4, .inl (cI, 48, .inl (za a12))), (b5, .inl (cI, 48, .inl (za a13))), (b6, .inl (cI, 48, .inl (za a14)))] : va_W)) H := zb31 hP
          refine z_iflt C0 142 dL_law_75 (by decide) (fun c265 => ?_) (fun c265 => ?_)
          · have hf := zif_pos hf c265
            refine z_iconst C0 dL_law_142 ?_
            cases hf
          · have hf := zif_neg hf c265
            refine z_aload_n C0 dL_law_78 rfl (lv_at hl 2 rfl) ?_
            refine z_aload_n C0 dL_law_79 rfl (lv_at hl 3 rfl) ?_
            refine z_aload_n C0 dL_law_80 rfl (lv_at hl 1 rfl) ?_
            refine z_bipush C0 dL_law_81 (by decide +kernel) ?_
            refine z_iload C0 dL_law_83 (lv_at hl 8 rfl) ?_
            refine z_imul C0 dL_law_85 ?_
            refine z_iconst C0 dL_law_86 ?_
            refine z_iadd C0 dL_law_87 ?_
            refine z_iload C0 dL_law_88 (lv_at hl 0 rfl) ?_
            obtain ⟨r23, hc24, hf⟩ := zbind hf
            refine z_qSiX (rest := []) C0 (zc3b hP) (zd3b (zD hD rfl)) hS hZ hX (zmL_sets l D cI cZ b zL0 zsc h h2 _ (zk_X (zx_lag t9) (zx_dead t9) (zx_manner t9) (zx_setting t9) r19.2.1 r19.2.2.1 (zx_shiftedRow t9) r19.2.2.2.1 (zx_search t9) r19.2.2.2.2.1 r19.2.2.2.2.2.1 r19.2.2.2.2.2.2.1 r19.2.2.2.2.2.2.2.1 r19.2.2.2.2.2.2.2.2) (zk_X (zx_lag t10) (zx_dead t10) (zx_manner t10) (zx_setting t10) r21.2.1 r21.2.2.1 (zx_shiftedRow t10) r21.2.2.2.1 (zx_search t10) r21.2.2.2.2.1 r21.2.2.2.2.2.1 r21.2.2.2.2.2.2.1 r21.2.2.2.2.2.2.2.1 r21.2.2.2.2.2.2.2.2) ((60 * i8) + 1) r17 r23 hc24) (zkL_80 ⟨by decide, by decide⟩ C0.2.2.2.2.1) rfl rfl hl.1 (Nat.le_of_ble_eq_true rfl) dL_law_90 ⟨Nat.le_refl _, Nat.le_refl _⟩ (fun H locs hP hS => ?_)
            have hP : va_P D vwCl ((wX h cI (zx_lag r23.2.1) (zx_dead r23.2.1) (zx_manner r23.2.1) (zx_setting r23.2.1) (zx_keptRow r23.2.1) (zx_liveRow r23.2.1) (zx_shiftedRow r23.2.1) (zx_groups r23.2.1) (zx_search r23.2.1) (zx_deadUntil r23.2.1) (zx_settled r23.2.1) (zx_known r23.2.1) (zx_tooLate r23.2.1) (zx_ended r23.2.1)) ++ (wX h2 cI (zx_lag r23.2.2) (zx_dead r23.2.2) (zx_manner r23.2.2) (zx_setting r23.2.2) (zx_keptRow r23.2.2) (zx_liveRow r23.2.2) (zx_shiftedRow r23.2.2) (zx_groups r23.2.2) (zx_search r23.2.2) (zx_deadUntil r23.2.2) (zx_settled r23.2.2) (zx_known r23.2.2) (zx_tooLate r23.2.2) (zx_ended r23.2.2)) ++ ([(b3, .inl (cI, 48, .inl (za a11))), (b4, .inl (cI, 48, .inl (za a12))), (b5, .inl (cI, 48, .inl (za a13))), (b6, .inl (cI, 48, .inl (za a14)))] : va_W)) H := zb3b hP
            refine z_ifeq C0 142 dL_law_93 (by decide) (fun c264 => ?_) (fun c264 => ?_)
            · have hf := zif_pos hf c264
              refine z_iconst C0 dL_law_142 ?_
              cases hf
            · have hf := zif_neg hf c264
              refine z_aload_n C0 dL_law_96 rfl (lv_at hl 2 rfl) ?_
              refine z_bipush C0 dL_law_97 (by decide +kernel) ?_
              obtain ⟨r25, hc26, hf⟩ := zbind hf
              refine z_qVi (rest := []) C0 (zc30 hP) (zd30 (zD hD rfl)) hS (zmX3_many l D cI cZ h _ (zx_lag r23.2.1) (zx_dead r23.2.1) (zx_manner r23.2.1) (zx_setting r23.2.1) (zx_keptRow r23.2.1) (zx_liveRow r23.2.1) (zx_shiftedRow r23.2.1) (zx_groups r23.2.1) (zx_search r23.2.1) (zx_deadUntil r23.2.1) (zx_settled r23.2.1) (zx_known r23.2.1) (zx_tooLate r23.2.1) (zx_ended r23.2.1) 11 r25 hc26) (zkL_38 ⟨by decide, by decide⟩ C0.2.2.2.2.1) 3 rfl rfl rfl rfl hl.1 (Nat.le_of_ble_eq_true rfl) dL_law_99 ⟨Nat.le_refl _, Nat.le_refl _⟩ (fun H locs hP hS => ?_)
              have hP : va_P D vwCl ((wX h cI (zx_lag r23.2.1) (zx_dead r23.2.1) (zx_manner r23.2.1) (zx_setting r23.2.1) (zx_keptRow r23.2.1) (zx_liveRow r23.2.1) (zx_shiftedRow r23.2.1) (zx_groups r23.2.1) (zx_search r23.2.1) (zx_deadUntil r23.2.1) (zx_settled r23.2.1) (zx_known r23.2.1) (zx_tooLate r23.2.1) (zx_ended r23.2.1)) ++ (wX h2 cI (zx_lag r23.2.2) (zx_dead r23.2.2) (zx_manner r23.2.2) (zx_setting r23.2.2) (zx_keptRow r23.2.2) (zx_liveRow r23.2.2) (zx_shiftedRow r23.2.2) (zx_groups r23.2.2) (zx_search r23.2.2) (zx_deadUntil r23.2.2) (zx_settled r23.2.2) (zx_known r23.2.2) (zx_tooLate r23.2.2) (zx_ended r23.2.2)) ++ ([(b3, .inl (cI, 48, .inl (za a11))), (b4, .inl (cI, 48, .inl (za a12))), (b5, .inl (cI, 48, .inl (za a13))), (b6, .inl (cI, 48, .inl (za a14)))] : va_W)) H := zb30 hP
              refine z_sipush C0 dL_law_102 (by decide +kernel) ?_
              refine z_icmpne C0 142 dL_law_105 (by decide) (fun c263 => ?_) (fun c263 => ?_)
              · have hf := zif_neg hf c263
                refine z_iconst C0 dL_law_142 ?_
                cases hf
              · have hf := zif_pos hf c263
                refine z_aload_n C0 dL_law_108 rfl (lv_at hl 2 rfl) ?_
                refine z_iconst C0 dL_law_109 ?_
                refine z_iconst C0 dL_law_110 ?_
                obtain ⟨r27, hc28, hf⟩ := zbind hf
                refine z_qVl (rest := []) C0 (zc30 hP) (zd30 (zD hD rfl)) hS (zmX3_rate l D cI cZ h _ (zx_lag r23.2.1) (zx_dead r23.2.1) (zx_manner r23.2.1) (zx_setting r23.2.1) (zx_keptRow r23.2.1) (zx_liveRow r23.2.1) (zx_shiftedRow r23.2.1) (zx_groups r23.2.1) (zx_search r23.2.1) (zx_deadUntil r23.2.1) (zx_settled r23.2.1) (zx_known r23.2.1) (zx_tooLate r23.2.1) (zx_ended r23.2.1) 0 0 r27 hc28) (zkL_52 ⟨by decide, by decide⟩ C0.2.2.2.2.1) 3 rfl rfl rfl rfl hl.1 (Nat.le_of_ble_eq_true rfl) dL_law_111 ⟨Nat.le_refl _, Nat.le_refl _⟩ (fun H locs hP hS => ?_)
                have hP : va_P D vwCl ((wX h cI (zx_lag r23.2.1) (zx_dead r23.2.1) (zx_manner r23.2.1) (zx_setting r23.2.1) (zx_keptRow r23.2.1) (zx_liveRow r23.2.1) (zx_shiftedRow r23.2.1) (zx_groups r23.2.1) (zx_search r23.2.1) (zx_deadUntil r23.2.1) (zx_settled r23.2.1) (zx_known r23.2.1) (zx_tooLate r23.2.1) (zx_ended r23.2.1)) ++ (wX h2 cI (zx_lag r23.2.2) (zx_dead r23.2.2) (zx_manner r23.2.2) (zx_setting r23.2.2) (zx_keptRow r23.2.2) (zx_liveRow r23.2.2) (zx_shiftedRow r23.2.2) (zx_groups r23.2.2) (zx_search r23.2.2) (zx_deadUntil r23.2.2) (zx_settled r23.2.2) (zx_known r23.2.2) (zx_tooLate r23.2.2) (zx_ended r23.2.2)) ++ ([(b3, .inl (cI, 48, .inl (za a11))), (b4, .inl (cI, 48, .inl (za a12))), (b5, .inl (cI, 48, .inl (za a13))), (b6, .inl (cI, 48, .inl (za a14)))] : va_W)) H := zb30 hP
                refine z_ldc2 C0 zw347 dL_law_114 ?_
                refine z_lcmp C0 dL_law_117 ?_
                refine z_ifne C0 142 dL_law_118 (by decide) (fun c262 => ?_) (fun c262 => ?_)
                · have hf := zif_neg hf c262
                  refine z_iconst C0 dL_law_142 ?_
                  cases hf
                · have hf := zif_pos hf c262
                  refine z_aload_n C0 dL_law_121 rfl (lv_at hl 2 rfl) ?_
                  refine z_iconst C0 dL_law_122 ?_
                  obtain ⟨r29, hc30, hf⟩ := zbind hf
                  refine z_qVi (rest := []) C0 (zc30 hP) (zd30 (zD hD rfl)) hS (zmX3_live l D cI cZ h _ (zx_lag r23.2.1) (zx_dead r23.2.1) (zx_manner r23.2.1) (zx_setting r23.2.1) (zx_keptRow r23.2.1) (zx_liveRow r23.2.1) (zx_shiftedRow r23.2.1) (zx_groups r23.2.1) (zx_search r23.2.1) (zx_deadUntil r23.2.1) (zx_settled r23.2.1) (zx_known r23.2.1) (zx_tooLate r23.2.1) (zx_ended r23.2.1) 0 r29 hc30) (zkL_49 ⟨by decide, by decide⟩ C0.2.2.2.2.1) 3 rfl rfl rfl rfl hl.1 (Nat.le_of_ble_eq_true rfl) dL_law_123 ⟨Nat.le_refl _, Nat.le_refl _⟩ (fun H locs hP hS => ?_)
                  have hP : va_P D vwCl ((wX h cI (zx_lag r23.2.1) (zx_dead r23.2.1) (zx_manner r23.2.1) (zx_setting r23.2.1) (zx_keptRow r23.2.1) (zx_liveRow r23.2.1) (zx_shiftedRow r23.2.1) (zx_groups r23.2.1) (zx_search r23.2.1) (zx_deadUntil r23.2.1) (zx_settled r23.2.1) (zx_known r23.2.1) (zx_tooLate r23.2.1) (zx_ended r23.2.1)) ++ (wX h2 cI (zx_lag r23.2.2) (zx_dead r23.2.2) (zx_manner r23.2.2) (zx_setting r23.2.2) (zx_keptRow r23.2.2) (zx_liveRow r23.2.2) (zx_shiftedRow r23.2.2) (zx_groups r23.2.2) (zx_search r23.2.2) (zx_deadUntil r23.2.2) (zx_settled r23.2.2) (zx_known r23.2.2) (zx_tooLate r23.2.2) (zx_ended r23.2.2)) ++ ([(b3, .inl (cI, 48, .inl (za a11))), (b4, .inl (cI, 48, .inl (za a12))), (b5, .inl (cI, 48, .inl (za a13))), (b6, .inl (cI, 48, .inl (za a14)))] : va_W)) H := zb30 hP
                  refine z_bipush C0 dL_law_126 (by decide +kernel) ?_
                  refine z_icmpne C0 142 dL_law_128 (by decide) (fun c261 => ?_) (fun c261 => ?_)
                  · have hf := zif_neg hf c261
                    refine z_iconst C0 dL_law_142 ?_
                    cases hf
                  · have hf := zif_pos hf c261
                    refine z_aload_n C0 dL_law_131 rfl (lv_at hl 2 rfl) ?_
                    refine z_iconst C0 dL_law_132 ?_
                    refine z_iconst C0 dL_law_133 ?_
                    obtain ⟨r31, hc32, hf⟩ := zbind hf
                    refine z_qVi (rest := []) C0 (zc30 hP) (zd30 (zD hD rfl)) hS (zmX3_shifted l D cI cZ h _ (zx_lag r23.2.1) (zx_dead r23.2.1) (zx_manner r23.2.1) (zx_setting r23.2.1) (zx_keptRow r23.2.1) (zx_liveRow r23.2.1) (zx_shiftedRow r23.2.1) (zx_groups r23.2.1) (zx_search r23.2.1) (zx_deadUntil r23.2.1) (zx_settled r23.2.1) (zx_known r23.2.1) (zx_tooLate r23.2.1) (zx_ended r23.2.1) 0 0 r31 hc32) (zkL_63 ⟨by decide, by decide⟩ C0.2.2.2.2.1) 3 rfl rfl rfl rfl hl.1 (Nat.le_of_ble_eq_true rfl) dL_law_134 ⟨Nat.le_refl _, Nat.le_refl _⟩ (fun H locs hP hS => ?_)
                    have hP : va_P D vwCl ((wX h cI (zx_lag r23.2.1) (zx_dead r23.2.1) (zx_manner r23.2.1) (zx_setting r23.2.1) (zx_keptRow r23.2.1) (zx_liveRow r23.2.1) r31.2 (zx_groups r23.2.1) (zx_search r23.2.1) (zx_deadUntil r23.2.1) (zx_settled r23.2.1) (zx_known r23.2.1) (zx_tooLate r23.2.1) (zx_ended r23.2.1)) ++ (wX h2 cI (zx_lag r23.2.2) (zx_dead r23.2.2) (zx_manner r23.2.2) (zx_setting r23.2.2) (zx_keptRow r23.2.2) (zx_liveRow r23.2.2) (zx_shiftedRow r23.2.2) (zx_groups r23.2.2) (zx_search r23.2.2) (zx_deadUntil r23.2.2) (zx_settled r23.2.2) (zx_known r23.2.2) (zx_tooLate r23.2.2) (zx_ended r23.2.2)) ++ ([(b3, .inl (cI, 48, .inl (za a11))), (b4, .inl (cI, 48, .inl (za a12))), (b5, .inl (cI, 48, .inl (za a13))), (b6, .inl (cI, 48, .inl (za a14)))] : va_W)) H := zb30 hP
                    refine z_bipush C0 dL_law_137 (by decide +kernel) ?_
                    refine z_icmpeq C0 144 dL_law_139 (by decide) (fun c260 => ?_) (fun c260 => ?_)
                    · have hf := zif_pos hf c260
                      refine z_bipush C0 dL_law_144 (by decide +kernel) ?_
                      refine z_aload_n C0 dL_law_146 rfl (lv_at hl 1 rfl) ?_
                      refine z_bipush C0 dL_law_147 (by decide +kernel) ?_
                      refine z_iload C0 dL_law_149 (lv_at hl 8 rfl) ?_
                      refine z_imul C0 dL_law_151 ?_
                      refine z_bipush C0 dL_law_152 (by decide +kernel) ?_
                      refine z_iadd C0 dL_law_154 ?_
                      obtain ⟨r33, hc34, hf⟩ := zbind hf
                      refine z_qSiX (rest := [.int (zI 20)]) C0 (zc0 hP) (zd0 (zD hD rfl)) hS hZ hX (zmL_cell l D cI cZ b zL0 zsc _ ((60 * i8) + 8) r33 hc34) (zkL_9 ⟨by decide, by decide⟩ C0.2.2.2.2.1) rfl rfl hl.1 (Nat.le_of_ble_eq_true rfl) dL_law_155 ⟨Nat.le_refl _, Nat.le_refl _⟩ (fun H locs hP hS => ?_)
                      have hP : va_P D vwCl ((wX h cI (zx_lag r23.2.1) (zx_dead r23.2.1) (zx_manner r23.2.1) (zx_setting r23.2.1) (zx_keptRow r23.2.1) (zx_liveRow r23.2.1) r31.2 (zx_groups r23.2.1) (zx_search r23.2.1) (zx_deadUntil r23.2.1) (zx_settled r23.2.1) (zx_known r23.2.1) (zx_tooLate r23.2.1) (zx_ended r23.2.1)) ++ (wX h2 cI (zx_lag r23.2.2) (zx_dead r23.2.2) (zx_manner r23.2.2) (zx_setting r23.2.2) (zx_keptRow r23.2.2) (zx_liveRow r23.2.2) (zx_shiftedRow r23.2.2) (zx_groups r23.2.2) (zx_search r23.2.2) (zx_deadUntil r23.2.2) (zx_settled r23.2.2) (zx_known r23.2.2) (zx_tooLate r23.2.2) (zx_ended r23.2.2)) ++ ([(b3, .inl (cI, 48, .inl (za a11))), (b4, .inl (cI, 48, .inl (za a12))), (b5, .inl (cI, 48, .inl (za a13))), (b6, .inl (cI, 48, .inl (za a14)))] : va_W)) H := zb0 hP
                      refine z_bipush C0 dL_law_158 (by decide +kernel) ?_
                      obtain ⟨r35, hc36, hf⟩ := zbind hf
                      refine z_qSi (rest := [.int (zI 20)]) C0 (zc0 hP) (zd0 (zD hD rfl)) hS (zmL_low l D cI cZ _ r33 28 r35 hc36) (zkL_15 ⟨by decide, by decide⟩ C0.2.2.2.2.1) rfl rfl hl.1 (Nat.le_of_ble_eq_true rfl) dL_law_160 ⟨Nat.le_refl _, Nat.le_refl _⟩ (fun H locs hP hS => ?_)
                      have hP : va_P D vwCl ((wX h cI (zx_lag r23.2.1) (zx_dead r23.2.1) (zx_manner r23.2.1) (zx_setting r23.2.1) (zx_keptRow r23.2.1) (zx_liveRow r23.2.1) r31.2 (zx_groups r23.2.1) (zx_search r23.2.1) (zx_deadUntil r23.2.1) (zx_settled r23.2.1) (zx_known r23.2.1) (zx_tooLate r23.2.1) (zx_ended r23.2.1)) ++ (wX h2 cI (zx_lag r23.2.2) (zx_dead r23.2.2) (zx_manner r23.2.2) (zx_setting r23.2.2) (zx_keptRow r23.2.2) (zx_liveRow r23.2.2) (zx_shiftedRow r23.2.2) (zx_groups r23.2.2) (zx_search r23.2.2) (zx_deadUntil r23.2.2) (zx_settled r23.2.2) (zx_known r23.2.2) (zx_tooLate r23.2.2) (zx_ended r23.2.2)) ++ ([(b3, .inl (cI, 48, .inl (za a11))), (b4, .inl (cI, 48, .inl (za a12))), (b5, .inl (cI, 48, .inl (za a13))), (b6, .inl (cI, 48, .inl (za a14)))] : va_W)) H := zb0 hP
                      refine z_iadd C0 dL_law_163 ?_
                      obtain ⟨v37, hv37, hf⟩ := zl_some hf
                      refine z_name hv37 ?_
                      refine z_istore C0 [(9, .int (zI v37)), (8, .int (zI r17)), (0, .ref b), (1, .ref (h 0)), (2, .ref (h2 0)), (3, .ref b3), (4, .ref b4), (5, .ref b5), (6, .ref b6), (7, .int (zI i8))] dL_law_164 hl (by decide) rfl (fun ls hl => ?_)
                      refine z_iconst C0 dL_law_166 ?_
                      refine z_istore C0 [(10, .int (zI 0)), (9, .int (zI v37)), (8, .int (zI r17)), (0, .ref b), (1, .ref (h 0)), (2, .ref (h2 0)), (3, .ref b3), (4, .ref b4), (5, .ref b5), (6, .ref b6), (7, .int (zI i8))] dL_law_167 hl (by decide) rfl (fun ls hl => ?_)
                      refine z_iconst C0 dL_law_169 ?_
                      refine z_istore C0 [(11, .int (zI 0)), (10, .int (zI 0)), (9, .int (zI v37)), (8, .int (zI r17)), (0, .ref b), (1, .ref (h 0)), (2, .ref (h2 0)), (3, .ref b3), (4, .ref b4), (5, .ref b5), (6, .ref b6), (7, .int (zI i8))] dL_law_170 hl (by decide) rfl (fun ls hl => ?_)
                      have L77 : ∀ (zn : Nat) (t50 : zXT) (a52 : (Nat → Int)) (a53 : (Nat → Int)) (a54 : (Nat → Int)) (a55 : (Nat → Int)) (i48 : Int) (i49 : Int) (out : zXT × (Nat → Int) × (Nat → Int) × (Nat → Int) × (Nat → Int)), fL_law_L172 zn zL0 zsc t50 r23.2.2 a52 a53 a54 a55 i8 r17 v37 i48 i49 = some out → (∀ (H : Heap) (locs : List Loc), va_P D vwCl ((wX h cI (zx_lag out.1) (zx_dead out.1) (zx_manner out.1) (zx_setting out.1) (zx_keptRow out.1) (zx_liveRow out.1) (zx_shiftedRow out.1) (zx_groups out.1) (zx_search out.1) (zx_deadUntil out.1) (zx_settled out.1) (zx_known out.1) (zx_tooLate out.1) (zx_ended out.1)) ++ (wX h2 cI (zx_lag r23.2.2) (zx_dead r23.2.2) (zx_manner r23.2.2) (zx_setting r23.2.2) (zx_keptRow r23.2.2) (zx_liveRow r23.2.2) (zx_shiftedRow r23.2.2) (zx_groups r23.2.2) (zx_search r23.2.2) (zx_deadUntil r23.2.2) (zx_settled r23.2.2) (zx_known r23.2.2) (zx_tooLate r23.2.2) (zx_ended r23.2.2)) ++ ([(b3, .inl (cI, 48, .inl (za out.2.1))), (b4, .inl (cI, 48, .inl (za out.2.2.1))), (b5, .inl (cI, 48, .inl (za out.2.2.2.1))), (b6, .inl (cI, 48, .inl (za out.2.2.2.2)))] : va_W)) H → va_S A s.heap H locs → ∀ ls : Array Slot, lv_has ls 16 [(0, .ref b), (1, .ref (h 0)), (2, .ref (h2 0)), (3, .ref b3), (4, .ref b4), (5, .ref b5), (6, .ref b6), (7, .int (zI i8)), (9, .int (zI v37))] → W p l e room_1 s m #[Value.ref b] below meth c H locs 600000 7302250 Q (F0 m 305 ls [])) → ∀ (H : Heap) (locs : List Loc), va_P D vwCl ((wX h cI (zx_lag t50) (zx_dead t50) (zx_manner t50) (zx_setting t50) (zx_keptRow t50) (zx_liveRow t50) (zx_shiftedRow t50) (zx_groups t50) (zx_search t50) (zx_deadUntil t50) (zx_settled t50) (zx_known t50) (zx_tooLate t50) (zx_ended t50)) ++ (wX h2 cI (zx_lag r23.2.2) (zx_dead r23.2.2) (zx_manner r23.2.2) (zx_setting r23.2.2) (zx_keptRow r23.2.2) (zx_liveRow r23.2.2) (zx_shiftedRow r23.2.2) (zx_groups r23.2.2) (zx_search r23.2.2) (zx_deadUntil r23.2.2) (zx_settled r23.2.2) (zx_known r23.2.2) (zx_tooLate r23.2.2) (zx_ended r23.2.2)) ++ ([(b3, .inl (cI, 48, .inl (za a52))), (b4, .inl (cI, 48, .inl (za a53))), (b5, .inl (cI, 48, .inl (za a54))), (b6, .inl (cI, 48, .inl (za a55)))] : va_W)) H → va_S A s.heap H locs → ∀ ls : Array Slot, lv_has ls 16 [(0, .ref b), (1, .ref (h 0)), (2, .ref (h2 0)), (3, .ref b3), (4, .ref b4), (5, .ref b5), (6, .ref b6), (7, .int (zI i8)), (8, .int (zI r17)), (9, .int (zI v37)), (10, .int (zI i48)), (11, .int (zI i49))] → W p l e room_1 s m #[Value.ref b] below meth c H locs 600000 7302250 Q (F0 m 172 ls []) := by
                        intro zn
                        induction zn with
                        | zero =>
                          intro t50 a52 a53 a54 a55 i48 i49 out hf
                          rw [fL_law_L172_z] at hf
                          cases hf
                        | succ zn ih =>
                          intro t50 a52 a53 a54 a55 i48 i49 out hf K H locs hP hS ls hl
                          rw [fL_law_L172_s] at hf
                          refine z_iload C0 dL_law_172 (lv_at hl 11 rfl) ?_
                          refine z_iload C0 dL_law_174 (lv_at hl 9 rfl) ?_
                          refine z_icmpge C0 305 dL_law_176 (by decide) (fun c76 => ?_) (fun c76 => ?_)
                          · have hf := zif_pos hf c76
                            cases hf
                            exact K _ _ hP hS ls (lv_sub hl [0, 1, 2, 3, 4, 5, 6, 7, 9] rfl)
                          · have hf := zif_neg hf c76
                            refine z_aload_n C0 dL_law_179 rfl (lv_at hl 0 rfl) ?_
                            refine z_bipush C0 dL_law_180 (by decide +kernel) ?_
                            refine z_iload C0 dL_law_182 (lv_at hl 7 rfl) ?_
                            refine z_imul C0 dL_law_184 ?_
                            refine z_bipush C0 dL_law_185 (by decide +kernel) ?_
                            refine z_iadd C0 dL_law_187 ?_
                            refine z_iload C0 dL_law_188 (lv_at hl 11 rfl) ?_
                            refine z_iadd C0 dL_law_190 ?_
                            obtain ⟨r56, hc57, hf⟩ := zbind hf
                            refine z_qSiX (rest := []) C0 (zc0 hP) (zd0 (zD hD rfl)) hS hZ hX (zmL_cell l D cI cZ b zL0 zsc _ (((60 * i8) + 10) + i49) r56 hc57) (zkL_9 ⟨by decide, by decide⟩ C0.2.2.2.2.1) rfl rfl hl.1 (Nat.le_of_ble_eq_true rfl) dL_law_191 ⟨Nat.le_refl _, Nat.le_refl _⟩ (fun H locs hP hS => ?_)
                            have hP : va_P D vwCl ((wX h cI (zx_lag t50) (zx_dead t50) (zx_manner t50) (zx_setting t50) (zx_keptRow t50) (zx_liveRow t50) (zx_shiftedRow t50) (zx_groups t50) (zx_search t50) (zx_deadUntil t50) (zx_settled t50) (zx_known t50) (zx_tooLate t50) (zx_ended t50)) ++ (wX h2 cI (zx_lag r23.2.2) (zx_dead r23.2.2) (zx_manner r23.2.2) (zx_setting r23.2.2) (zx_keptRow r23.2.2) (zx_liveRow r23.2.2) (zx_shiftedRow r23.2.2) (zx_groups r23.2.2) (zx_search r23.2.2) (zx_deadUntil r23.2.2) (zx_settled r23.2.2) (zx_known r23.2.2) (zx_tooLate r23.2.2) (zx_ended r23.2.2)) ++ ([(b3, .inl (cI, 48, .inl (za a52))), (b4, .inl (cI, 48, .inl (za a53))), (b5, .inl (cI, 48, .inl (za a54))), (b6, .inl (cI, 48, .inl (za a55)))] : va_W)) H := zb0 hP
                            refine z_istore C0 [(12, .int (zI r56)), (0, .ref b), (1, .ref (h 0)), (2, .ref (h2 0)), (3, .ref b3), (4, .ref b4), (5, .ref b5), (6, .ref b6), (7, .int (zI i8)), (8, .int (zI r17)), (9, .int (zI v37)), (10, .int (zI i48)), (11, .int (zI i49))] dL_law_194 hl (by decide) rfl (fun ls hl => ?_)
                            refine z_iload C0 dL_law_196 (lv_at hl 11 rfl) ?_
                            refine z_iload C0 dL_law_198 (lv_at hl 0 rfl) ?_
                            refine z_iconst C0 dL_law_200 ?_
                            refine z_iand C0 dL_law_201 ?_
                            obtain ⟨r58, hE75, hf⟩ := zbind hf
                            have J59 : ∀ (H : Heap) (locs : List Loc), va_P D vwCl ((wX h cI (zx_lag t50) (zx_dead t50) (zx_manner t50) (zx_setting t50) (zx_keptRow t50) (zx_liveRow t50) (zx_shiftedRow t50) (zx_groups t50) (zx_search t50) (zx_deadUntil t50) (zx_settled t50) (zx_known t50) (zx_tooLate t50) (zx_ended t50)) ++ (wX h2 cI (zx_lag r23.2.2) (zx_dead r23.2.2) (zx_manner r23.2.2) (zx_setting r23.2.2) (zx_keptRow r23.2.2) (zx_liveRow r23.2.2) (zx_shiftedRow r23.2.2) (zx_groups r23.2.2) (zx_search r23.2.2) (zx_deadUntil r23.2.2) (zx_settled r23.2.2) (zx_known r23.2.2) (zx_tooLate r23.2.2) (zx_ended r23.2.2)) ++ ([(b3, .inl (cI, 48, .inl (za a52))), (b4, .inl (cI, 48, .inl (za a53))), (b5, .inl (cI, 48, .inl (za a54))), (b6, .inl (cI, 48, .inl (za a55)))] : va_W)) H → va_S A s.heap H locs → ∀ ls : Array Slot, lv_has ls 16 [(0, .ref b), (1, .ref (h 0)), (2, .ref (h2 0)), (3, .ref b3), (4, .ref b4), (5, .ref b5), (6, .ref b6), (7, .int (zI i8)), (8, .int (zI r17)), (9, .int (zI v37)), (11, .int (zI i49)), (12, .int (zI r56))] → W p l e room_1 s m #[Value.ref b] below meth c H locs 600000 7302250 Q (F0 m 221 ls [.int (zI r58), .int (zI i48)]) := by
                              intro H locs hP hS ls hl
                              refine z_iadd C0 dL_law_221 ?_
                              obtain ⟨v60, hv60, hf⟩ := zl_some hf
                              refine z_name hv60 ?_
                              refine z_istore C0 [(10, .int (zI v60)), (0, .ref b), (1, .ref (h 0)), (2, .ref (h2 0)), (3, .ref b3), (4, .ref b4), (5, .ref b5), (6, .ref b6), (7, .int (zI i8)), (8, .int (zI r17)), (9, .int (zI v37)), (11, .int (zI i49)), (12, .int (zI r56))] dL_law_222 hl (by decide) rfl (fun ls hl => ?_)
                              refine z_aload_n C0 dL_law_224 rfl (lv_at hl 4 rfl) ?_
                              refine z_iload C0 dL_law_225 (lv_at hl 11 rfl) ?_
                              refine z_iload C0 dL_law_227 (lv_at hl 12 rfl) ?_
                              refine z_bipush C0 dL_law_229 (by decide +kernel) ?_
                              refine z_ishr C0 dL_law_231 ?_
                              refine z_bipush C0 dL_law_232 (by decide +kernel) ?_
                              obtain ⟨r61, hc62, hf⟩ := zbind hf
                              refine z_qSi (rest := [.int (zI i49), .ref b3]) C0 (zc0 hP) (zd0 (zD hD rfl)) hS (zmL_low l D cI cZ _ (zshr r56 7) 6 r61 hc62) (zkL_15 ⟨by decide, by decide⟩ C0.2.2.2.2.1) rfl rfl hl.1 (Nat.le_of_ble_eq_true rfl) dL_law_234 ⟨Nat.le_refl _, Nat.le_refl _⟩ (fun H locs hP hS => ?_)
                              have hP : va_P D vwCl ((wX h cI (zx_lag t50) (zx_dead t50) (zx_manner t50) (zx_setting t50) (zx_keptRow t50) (zx_liveRow t50) (zx_shiftedRow t50) (zx_groups t50) (zx_search t50) (zx_deadUntil t50) (zx_settled t50) (zx_known t50) (zx_tooLate t50) (zx_ended t50)) ++ (wX h2 cI (zx_lag r23.2.2) (zx_dead r23.2.2) (zx_manner r23.2.2) (zx_setting r23.2.2) (zx_keptRow r23.2.2) (zx_liveRow r23.2.2) (zx_shiftedRow r23.2.2) (zx_groups r23.2.2) (zx_search r23.2.2) (zx_deadUntil r23.2.2) (zx_settled r23.2.2) (zx_known r23.2.2) (zx_tooLate r23.2.2) (zx_ended r23.2.2)) ++ ([(b3, .inl (cI, 48, .inl (za a52))), (b4, .inl (cI, 48, .inl (za a53))), (b5, .inl (cI, 48, .inl (za a54))), (b6, .inl (cI, 48, .inl (za a55)))] : va_W)) H := zb0 hP
                              obtain ⟨g63, hf⟩ := zg_some hf
                              refine z_iast C0 hP (zD hD rfl) hS 54 rfl (Nat.le_of_ble_eq_true rfl) g63 dL_law_237 (fun H locs hP hS => ?_)
                              have hP : va_P D vwCl ((wX h cI (zx_lag t50) (zx_dead t50) (zx_manner t50) (zx_setting t50) (zx_keptRow t50) (zx_liveRow t50) (zx_shiftedRow t50) (zx_groups t50) (zx_search t50) (zx_deadUntil t50) (zx_settled t50) (zx_known t50) (zx_tooLate t50) (zx_ended t50)) ++ (wX h2 cI (zx_lag r23.2.2) (zx_dead r23.2.2) (zx_manner r23.2.2) (zx_setting r23.2.2) (zx_keptRow r23.2.2) (zx_liveRow r23.2.2) (zx_shiftedRow r23.2.2) (zx_groups r23.2.2) (zx_search r23.2.2) (zx_deadUntil r23.2.2) (zx_settled r23.2.2) (zx_known r23.2.2) (zx_tooLate r23.2.2) (zx_ended r23.2.2)) ++ ([(b3, .inl (cI, 48, .inl (za (zu a52 i49 r61)))), (b4, .inl (cI, 48, .inl (za a53))), (b5, .inl (cI, 48, .inl (za a54))), (b6, .inl (cI, 48, .inl (za a55)))] : va_W)) H := hP
                              refine z_aload C0 dL_law_238 (lv_at hl 5 rfl) ?_
                              refine z_iload C0 dL_law_240 (lv_at hl 11 rfl) ?_
                              refine z_iload C0 dL_law_242 (lv_at hl 0 rfl) ?_
                              obtain ⟨g64, hf⟩ := zg_some hf
                              refine z_iast C0 hP (zD hD rfl) hS 55 rfl (Nat.le_of_ble_eq_true rfl) g64 dL_law_244 (fun H locs hP hS => ?_)
                              have hP : va_P D vwCl ((wX h cI (zx_lag t50) (zx_dead t50) (zx_manner t50) (zx_setting t50) (zx_keptRow t50) (zx_liveRow t50) (zx_shiftedRow t50) (zx_groups t50) (zx_search t50) (zx_deadUntil t50) (zx_settled t50) (zx_known t50) (zx_tooLate t50) (zx_ended t50)) ++ (wX h2 cI (zx_lag r23.2.2) (zx_dead r23.2.2) (zx_manner r23.2.2) (zx_setting r23.2.2) (zx_keptRow r23.2.2) (zx_liveRow r23.2.2) (zx_shiftedRow r23.2.2) (zx_groups r23.2.2) (zx_search r23.2.2) (zx_deadUntil r23.2.2) (zx_settled r23.2.2) (zx_known r23.2.2) (zx_tooLate r23.2.2) (zx_ended r23.2.2)) ++ ([(b3, .inl (cI, 48, .inl (za (zu a52 i49 r61)))), (b4, .inl (cI, 48, .inl (za (zu a53 i49 v60)))), (b5, .inl (cI, 48, .inl (za a54))), (b6, .inl (cI, 48, .inl (za a55)))] : va_W)) H := hP
                              refine z_aload C0 dL_law_245 (lv_at hl 6 rfl) ?_
                              refine z_iload C0 dL_law_247 (lv_at hl 11 rfl) ?_
                              refine z_iload C0 dL_law_249 (lv_at hl 12 rfl) ?_
                              refine z_bipush C0 dL_law_251 (by decide +kernel) ?_
                              refine z_ishr C0 dL_law_253 ?_
                              refine z_bipush C0 dL_law_254 (by decide +kernel) ?_
                              refine z_iand C0 dL_law_256 ?_
                              obtain ⟨g65, hf⟩ := zg_some hf
                              refine z_iast C0 hP (zD hD rfl) hS 56 rfl (Nat.le_of_ble_eq_true rfl) g65 dL_law_257 (fun H locs hP hS => ?_)
                              have hP : va_P D vwCl ((wX h cI (zx_lag t50) (zx_dead t50) (zx_manner t50) (zx_setting t50) (zx_keptRow t50) (zx_liveRow t50) (zx_shiftedRow t50) (zx_groups t50) (zx_search t50) (zx_deadUntil t50) (zx_settled t50) (zx_known t50) (zx_tooLate t50) (zx_ended t50)) ++ (wX h2 cI (zx_lag r23.2.2) (zx_dead r23.2.2) (zx_manner r23.2.2) (zx_setting r23.2.2) (zx_keptRow r23.2.2) (zx_liveRow r23.2.2) (zx_shiftedRow r23.2.2) (zx_groups r23.2.2) (zx_search r23.2.2) (zx_deadUntil r23.2.2) (zx_settled r23.2.2) (zx_known r23.2.2) (zx_tooLate r23.2.2) (zx_ended r23.2.2)) ++ ([(b3, .inl (cI, 48, .inl (za (zu a52 i49 r61)))), (b4, .inl (cI, 48, .inl (za (zu a53 i49 v60)))), (b5, .inl (cI, 48, .inl (za (zu a54 i49 (zand (zshr r56 12) 15))))), (b6, .inl (cI, 48, .inl (za a55)))] : va_W)) H := hP
                              refine z_aload C0 dL_law_258 (lv_at hl 7 rfl) ?_
                              refine z_iload C0 dL_law_260 (lv_at hl 11 rfl) ?_
                              refine z_iload C0 dL_law_262 (lv_at hl 0 rfl) ?_
                              refine z_iload C0 dL_law_264 (lv_at hl 12 rfl) ?_
                              refine z_bipush C0 dL_law_266 (by decide +kernel) ?_
                              refine z_ishr C0 dL_law_268 ?_
                              refine z_iload C0 dL_law_269 (lv_at hl 9 rfl) ?_
                              refine z_iconst C0 dL_law_271 ?_
                              refine z_iadd C0 dL_law_272 ?_
                              obtain ⟨r66, hc67, hf⟩ := zbind hf
                              refine z_qSi (rest := [.int (zI v60), .int (zI i49), .ref b6]) C0 (zc0 hP) (zd0 (zD hD rfl)) hS (zmL_low l D cI cZ _ (zshr r56 16) (r17 + 1) r66 hc67) (zkL_15 ⟨by decide, by decide⟩ C0.2.2.2.2.1) rfl rfl hl.1 (Nat.le_of_ble_eq_true rfl) dL_law_273 ⟨Nat.le_refl _, Nat.le_refl _⟩ (fun H locs hP hS => ?_)
                              have hP : va_P D vwCl ((wX h cI (zx_lag t50) (zx_dead t50) (zx_manner t50) (zx_setting t50) (zx_keptRow t50) (zx_liveRow t50) (zx_shiftedRow t50) (zx_groups t50) (zx_search t50) (zx_deadUntil t50) (zx_settled t50) (zx_known t50) (zx_tooLate t50) (zx_ended t50)) ++ (wX h2 cI (zx_lag r23.2.2) (zx_dead r23.2.2) (zx_manner r23.2.2) (zx_setting r23.2.2) (zx_keptRow r23.2.2) (zx_liveRow r23.2.2) (zx_shiftedRow r23.2.2) (zx_groups r23.2.2) (zx_search r23.2.2) (zx_deadUntil r23.2.2) (zx_settled r23.2.2) (zx_known r23.2.2) (zx_tooLate r23.2.2) (zx_ended r23.2.2)) ++ ([(b3, .inl (cI, 48, .inl (za (zu a52 i49 r61)))), (b4, .inl (cI, 48, .inl (za (zu a53 i49 v60)))), (b5, .inl (cI, 48, .inl (za (zu a54 i49 (zand (zshr r56 12) 15))))), (b6, .inl (cI, 48, .inl (za a55)))] : va_W)) H := zb0 hP
                              refine z_iadd C0 dL_law_276 ?_
                              obtain ⟨g68, hf⟩ := zg_some hf
                              refine z_iast C0 hP (zD hD rfl) hS 57 rfl (Nat.le_of_ble_eq_true rfl) g68 dL_law_277 (fun H locs hP hS => ?_)
                              have hP : va_P D vwCl ((wX h cI (zx_lag t50) (zx_dead t50) (zx_manner t50) (zx_setting t50) (zx_keptRow t50) (zx_liveRow t50) (zx_shiftedRow t50) (zx_groups t50) (zx_search t50) (zx_deadUntil t50) (zx_settled t50) (zx_known t50) (zx_tooLate t50) (zx_ended t50)) ++ (wX h2 cI (zx_lag r23.2.2) (zx_dead r23.2.2) (zx_manner r23.2.2) (zx_setting r23.2.2) (zx_keptRow r23.2.2) (zx_liveRow r23.2.2) (zx_shiftedRow r23.2.2) (zx_groups r23.2.2) (zx_search r23.2.2) (zx_deadUntil r23.2.2) (zx_settled r23.2.2) (zx_known r23.2.2) (zx_tooLate r23.2.2) (zx_ended r23.2.2)) ++ ([(b3, .inl (cI, 48, .inl (za (zu a52 i49 r61)))), (b4, .inl (cI, 48, .inl (za (zu a53 i49 v60)))), (b5, .inl (cI, 48, .inl (za (zu a54 i49 (zand (zshr r56 12) 15))))), (b6, .inl (cI, 48, .inl (za (zu a55 i49 (v60 + r66)))))] : va_W)) H := hP
                              refine z_aload_n C0 dL_law_278 rfl (lv_at hl 2 rfl) ?_
                              refine z_aload_n C0 dL_law_279 rfl (lv_at hl 4 rfl) ?_
                              refine z_iload C0 dL_law_280 (lv_at hl 11 rfl) ?_
                              obtain ⟨g69, hf⟩ := zg_some hf
                              refine z_iald C0 hP 54 rfl (Nat.le_of_ble_eq_true rfl) g69 dL_law_282 ?_
                              refine z_iload C0 dL_law_283 (lv_at hl 0 rfl) ?_
                              refine z_aload C0 dL_law_285 (lv_at hl 6 rfl) ?_
                              refine z_iload C0 dL_law_287 (lv_at hl 11 rfl) ?_
                              obtain ⟨g70, hf⟩ := zg_some hf
                              refine z_iald C0 hP 56 rfl (Nat.le_of_ble_eq_true rfl) g70 dL_law_289 ?_
                              obtain ⟨r71, hc72, hf⟩ := zbind hf
                              refine z_qViS (rest := []) C0 (zc30 hP) (zd30 (zD hD rfl)) hS hZ (zmX3_pulse l D cI cZ h _ (zx_lag t50) (zx_dead t50) (zx_manner t50) (zx_setting t50) (zx_keptRow t50) (zx_liveRow t50) (zx_shiftedRow t50) (zx_groups t50) (zx_search t50) (zx_deadUntil t50) (zx_settled t50) (zx_known t50) (zx_tooLate t50) (zx_ended t50) ((zu a52 i49 r61) (Int.toNat i49)) v60 ((zu a54 i49 (zand (zshr r56 12) 15)) (Int.toNat i49)) r71 hc72) (zkL_86 ⟨by decide, by decide⟩ C0.2.2.2.2.1) 3 rfl rfl rfl rfl hl.1 (Nat.le_of_ble_eq_true rfl) dL_law_290 ⟨Nat.le_refl _, Nat.le_refl _⟩ (fun H locs hP hS => ?_)
                              have hP : va_P D vwCl ((wX h cI (zx_lag t50) (zx_dead t50) (zx_manner t50) (zx_setting t50) r71.2.1 r71.2.2.1 (zx_shiftedRow t50) r71.2.2.2.1 r71.2.2.2.2.1 r71.2.2.2.2.2.1 r71.2.2.2.2.2.2.1 r71.2.2.2.2.2.2.2.1 r71.2.2.2.2.2.2.2.2 (zx_ended t50)) ++ (wX h2 cI (zx_lag r23.2.2) (zx_dead r23.2.2) (zx_manner r23.2.2) (zx_setting r23.2.2) (zx_keptRow r23.2.2) (zx_liveRow r23.2.2) (zx_shiftedRow r23.2.2) (zx_groups r23.2.2) (zx_search r23.2.2) (zx_deadUntil r23.2.2) (zx_settled r23.2.2) (zx_known r23.2.2) (zx_tooLate r23.2.2) (zx_ended r23.2.2)) ++ ([(b3, .inl (cI, 48, .inl (za (zu a52 i49 r61)))), (b4, .inl (cI, 48, .inl (za (zu a53 i49 v60)))), (b5, .inl (cI, 48, .inl (za (zu a54 i49 (zand (zshr r56 12) 15))))), (b6, .inl (cI, 48, .inl (za (zu a55 i49 (v60 + r66)))))] : va_W)) H := zb30 hP
                              refine z_iconst C0 dL_law_293 ?_
                              refine z_icmpeq C0 299 dL_law_294 (by decide) (fun c73 => ?_) (fun c73 => ?_)
                              · have hf := zif_pos hf c73
                                refine z_iinc C0 [(11, .int (zI (i49 + 1))), (10, .int (zI v60)), (0, .ref b), (1, .ref (h 0)), (2, .ref (h2 0)), (3, .ref b3), (4, .ref b4), (5, .ref b5), (6, .ref b6), (7, .int (zI i8)), (8, .int (zI r17)), (9, .int (zI v37)), (12, .int (zI r56))] dL_law_299 hl 11 rfl (by decide) rfl (fun ls hl => ?_)
                                refine z_goto C0 172 dL_law_302 (by decide) ?_
                                exact ih (zk_X (zx_lag t50) (zx_dead t50) (zx_manner t50) (zx_setting t50) r71.2.1 r71.2.2.1 (zx_shiftedRow t50) r71.2.2.2.1 r71.2.2.2.2.1 r71.2.2.2.2.2.1 r71.2.2.2.2.2.2.1 r71.2.2.2.2.2.2.2.1 r71.2.2.2.2.2.2.2.2 (zx_ended t50)) (zu a52 i49 r61) (zu a53 i49 v60) (zu a54 i49 (zand (zshr r56 12) 15)) (zu a55 i49 (v60 + r66)) v60 (i49 + 1) out hf K _ _ hP hS ls (lv_sub hl [2, 3, 4, 5, 6, 7, 8, 9, 10, 11, 1, 0] rfl)
                              · have hf := zif_neg hf c73
                                refine z_iconst C0 dL_law_297 ?_
                                cases hf
                            have hf := hE75
                            refine z_ifne C0 215 dL_law_202 (by decide) (fun c74 => ?_) (fun c74 => ?_)
                            · have hf := zif_neg hf c74
                              refine z_iload C0 dL_law_215 (lv_at hl 0 rfl) ?_
                              refine z_iconst C0 dL_law_217 ?_
                              refine z_ishr C0 dL_law_218 ?_
                              refine z_iconst C0 dL_law_219 ?_
                              refine z_iand C0 dL_law_220 ?_
                              cases hf
                              exact J59 _ _ hP hS ls (lv_sub hl [1, 2, 3, 4, 5, 6, 7, 8, 9, 10, 12, 0] rfl)
                            · have hf := zif_pos hf c74
                              refine z_iload C0 dL_law_205 (lv_at hl 0 rfl) ?_
                              refine z_iconst C0 dL_law_207 ?_
                              refine z_ishr C0 dL_law_208 ?_
                              refine z_bipush C0 dL_law_209 (by decide +kernel) ?_
                              refine z_iand C0 dL_law_211 ?_
                              refine z_goto C0 221 dL_law_212 (by decide) ?_
                              cases hf
                              exact J59 _ _ hP hS ls (lv_sub hl [1, 2, 3, 4, 5, 6, 7, 8, 9, 10, 12, 0] rfl)
                      obtain ⟨r78, hE79, hf⟩ := zbind hf
                      refine L77 _ (zk_X (zx_lag r23.2.1) (zx_dead r23.2.1) (zx_manner r23.2.1) (zx_setting r23.2.1) (zx_keptRow r23.2.1) (zx_liveRow r23.2.1) r31.2 (zx_groups r23.2.1) (zx_search r23.2.1) (zx_deadUntil r23.2.1) (zx_settled r23.2.1) (zx_known r23.2.1) (zx_tooLate r23.2.1) (zx_ended r23.2.1)) a11 a12 a13 a14 0 0 r78 hE79 ?_ _ _ hP hS ls (lv_sub hl [4, 5, 6, 7, 8, 9, 10, 11, 3, 2, 1, 0] rfl)
                      intro H locs hP hS ls hl
                      refine z_aload_n C0 dL_law_305 rfl (lv_at hl 1 rfl) ?_
                      obtain ⟨r80, hc81, hf⟩ := zbind hf
                      refine z_qViS (rest := []) C0 (zc30 hP) (zd30 (zD hD rfl)) hS hZ (zmX3_end l D cI cZ h _ (zx_lag r78.1) (zx_dead r78.1) (zx_manner r78.1) (zx_setting r78.1) (zx_keptRow r78.1) (zx_liveRow r78.1) (zx_shiftedRow r78.1) (zx_groups r78.1) (zx_search r78.1) (zx_deadUntil r78.1) (zx_settled r78.1) (zx_known r78.1) (zx_tooLate r78.1) (zx_ended r78.1) r80 hc81) (zkL_89 ⟨by decide, by decide⟩ C0.2.2.2.2.1) 3 rfl rfl rfl rfl hl.1 (Nat.le_of_ble_eq_true rfl) dL_law_306 ⟨Nat.le_refl _, Nat.le_refl _⟩ (fun H locs hP hS => ?_)
                      have hP : va_P D vwCl ((wX h cI (zx_lag r78.1) (zx_dead r78.1) (zx_manner r78.1) (zx_setting r78.1) (zx_keptRow r78.1) r80.2.1 (zx_shiftedRow r78.1) r80.2.2.1 r80.2.2.2.1 r80.2.2.2.2.1 r80.2.2.2.2.2.1 r80.2.2.2.2.2.2.1 (zx_tooLate r78.1) r80.2.2.2.2.2.2.2) ++ (wX h2 cI (zx_lag r23.2.2) (zx_dead r23.2.2) (zx_manner r23.2.2) (zx_setting r23.2.2) (zx_keptRow r23.2.2) (zx_liveRow r23.2.2) (zx_shiftedRow r23.2.2) (zx_groups r23.2.2) (zx_search r23.2.2) (zx_deadUntil r23.2.2) (zx_settled r23.2.2) (zx_known r23.2.2) (zx_tooLate r23.2.2) (zx_ended r23.2.2)) ++ ([(b3, .inl (cI, 48, .inl (za r78.2.1))), (b4, .inl (cI, 48, .inl (za r78.2.2.1))), (b5, .inl (cI, 48, .inl (za r78.2.2.2.1))), (b6, .inl (cI, 48, .inl (za r78.2.2.2.2)))] : va_W)) H := zb30 hP
                      refine z_iflt C0 342 dL_law_309 (by decide) (fun c259 => ?_) (fun c259 => ?_)
                      · have hf := zif_pos hf c259
                        refine z_iconst C0 dL_law_342 ?_
                        cases hf
                      · have hf := zif_neg hf c259
                        refine z_aload_n C0 dL_law_312 rfl (lv_at hl 1 rfl) ?_
                        obtain ⟨r82, hc83, hf⟩ := zbind hf
                        refine z_qViS (rest := []) C0 (zc30 hP) (zd30 (zD hD rfl)) hS hZ (zmX3_end l D cI cZ h _ (zx_lag r78.1) (zx_dead r78.1) (zx_manner r78.1) (zx_setting r78.1) (zx_keptRow r78.1) r80.2.1 (zx_shiftedRow r78.1) r80.2.2.1 r80.2.2.2.1 r80.2.2.2.2.1 r80.2.2.2.2.2.1 r80.2.2.2.2.2.2.1 (zx_tooLate r78.1) r80.2.2.2.2.2.2.2 r82 hc83) (zkL_89 ⟨by decide, by decide⟩ C0.2.2.2.2.1) 3 rfl rfl rfl rfl hl.1 (Nat.le_of_ble_eq_true rfl) dL_law_313 ⟨Nat.le_refl _, Nat.le_refl _⟩ (fun H locs hP hS => ?_)
                        have hP : va_P D vwCl ((wX h cI (zx_lag r78.1) (zx_dead r78.1) (zx_manner r78.1) (zx_setting r78.1) (zx_keptRow r78.1) r82.2.1 (zx_shiftedRow r78.1) r82.2.2.1 r82.2.2.2.1 r82.2.2.2.2.1 r82.2.2.2.2.2.1 r82.2.2.2.2.2.2.1 (zx_tooLate r78.1) r82.2.2.2.2.2.2.2) ++ (wX h2 cI (zx_lag r23.2.2) (zx_dead r23.2.2) (zx_manner r23.2.2) (zx_setting r23.2.2) (zx_keptRow r23.2.2) (zx_liveRow r23.2.2) (zx_shiftedRow r23.2.2) (zx_groups r23.2.2) (zx_search r23.2.2) (zx_deadUntil r23.2.2) (zx_settled r23.2.2) (zx_known r23.2.2) (zx_tooLate r23.2.2) (zx_ended r23.2.2)) ++ ([(b3, .inl (cI, 48, .inl (za r78.2.1))), (b4, .inl (cI, 48, .inl (za r78.2.2.1))), (b5, .inl (cI, 48, .inl (za r78.2.2.2.1))), (b6, .inl (cI, 48, .inl (za r78.2.2.2.2)))] : va_W)) H := zb30 hP
                        refine z_bipush C0 dL_law_316 (by decide +kernel) ?_
                        refine z_icmpne C0 342 dL_law_318 (by decide) (fun c258 => ?_) (fun c258 => ?_)
                        · have hf := zif_neg hf c258
                          refine z_iconst C0 dL_law_342 ?_
                          cases hf
                        · have hf := zif_pos hf c258
                          refine z_aload_n C0 dL_law_321 rfl (lv_at hl 1 rfl) ?_
                          refine z_iconst C0 dL_law_322 ?_
                          refine z_sipush C0 dL_law_323 (by decide +kernel) ?_
                          refine z_iconst C0 dL_law_326 ?_
                          obtain ⟨r84, hc85, hf⟩ := zbind hf
                          refine z_qViS (rest := []) C0 (zc30 hP) (zd30 (zD hD rfl)) hS hZ (zmX3_pulse l D cI cZ h _ (zx_lag r78.1) (zx_dead r78.1) (zx_manner r78.1) (zx_setting r78.1) (zx_keptRow r78.1) r82.2.1 (zx_shiftedRow r78.1) r82.2.2.1 r82.2.2.2.1 r82.2.2.2.2.1 r82.2.2.2.2.2.1 r82.2.2.2.2.2.2.1 (zx_tooLate r78.1) r82.2.2.2.2.2.2.2 0 9999 0 r84 hc85) (zkL_86 ⟨by decide, by decide⟩ C0.2.2.2.2.1) 3 rfl rfl rfl rfl hl.1 (Nat.le_of_ble_eq_true rfl) dL_law_327 ⟨Nat.le_refl _, Nat.le_refl _⟩ (fun H locs hP hS => ?_)
                          have hP : va_P D vwCl ((wX h cI (zx_lag r78.1) (zx_dead r78.1) (zx_manner r78.1) (zx_setting r78.1) r84.2.1 r84.2.2.1 (zx_shiftedRow r78.1) r84.2.2.2.1 r84.2.2.2.2.1 r84.2.2.2.2.2.1 r84.2.2.2.2.2.2.1 r84.2.2.2.2.2.2.2.1 r84.2.2.2.2.2.2.2.2 r82.2.2.2.2.2.2.2) ++ (wX h2 cI (zx_lag r23.2.2) (zx_dead r23.2.2) (zx_manner r23.2.2) (zx_setting r23.2.2) (zx_keptRow r23.2.2) (zx_liveRow r23.2.2) (zx_shiftedRow r23.2.2) (zx_groups r23.2.2) (zx_search r23.2.2) (zx_deadUntil r23.2.2) (zx_settled r23.2.2) (zx_known r23.2.2) (zx_tooLate r23.2.2) (zx_ended r23.2.2)) ++ ([(b3, .inl (cI, 48, .inl (za r78.2.1))), (b4, .inl (cI, 48, .inl (za r78.2.2.1))), (b5, .inl (cI, 48, .inl (za r78.2.2.2.1))), (b6, .inl (cI, 48, .inl (za r78.2.2.2.2)))] : va_W)) H := zb30 hP
                          refine z_bipush C0 dL_law_330 (by decide +kernel) ?_
                          refine z_icmpne C0 342 dL_law_332 (by decide) (fun c257 => ?_) (fun c257 => ?_)
                          · have hf := zif_neg hf c257
                            refine z_iconst C0 dL_law_342 ?_
                            cases hf
                          · have hf := zif_pos hf c257
                            refine z_aload_n C0 dL_law_335 rfl (lv_at hl 1 rfl) ?_
                            obtain ⟨r86, hc87, hf⟩ := zbind hf
                            refine z_qSi (rest := []) C0 (zc30 hP) (zd30 (zD hD rfl)) hS (zmL_sums l D cI cZ h _ (zk_X (zx_lag r78.1) (zx_dead r78.1) (zx_manner r78.1) (zx_setting r78.1) r84.2.1 r84.2.2.1 (zx_shiftedRow r78.1) r84.2.2.2.1 r84.2.2.2.2.1 r84.2.2.2.2.2.1 r84.2.2.2.2.2.2.1 r84.2.2.2.2.2.2.2.1 r84.2.2.2.2.2.2.2.2 r82.2.2.2.2.2.2.2) r86 hc87) (zkL_92 ⟨by decide, by decide⟩ C0.2.2.2.2.1) rfl rfl hl.1 (Nat.le_of_ble_eq_true rfl) dL_law_336 ⟨Nat.le_refl _, Nat.le_refl _⟩ (fun H locs hP hS => ?_)
                            have hP : va_P D vwCl ((wX h cI (zx_lag r78.1) (zx_dead r78.1) (zx_manner r78.1) (zx_setting r78.1) r84.2.1 r84.2.2.1 (zx_shiftedRow r78.1) r84.2.2.2.1 r84.2.2.2.2.1 r84.2.2.2.2.2.1 r84.2.2.2.2.2.2.1 r84.2.2.2.2.2.2.2.1 r84.2.2.2.2.2.2.2.2 r82.2.2.2.2.2.2.2) ++ (wX h2 cI (zx_lag r23.2.2) (zx_dead r23.2.2) (zx_manner r23.2.2) (zx_setting r23.2.2) (zx_keptRow r23.2.2) (zx_liveRow r23.2.2) (zx_shiftedRow r23.2.2) (zx_groups r23.2.2) (zx_search r23.2.2) (zx_deadUntil r23.2.2) (zx_settled r23.2.2) (zx_known r23.2.2) (zx_tooLate r23.2.2) (zx_ended r23.2.2)) ++ ([(b3, .inl (cI, 48, .inl (za r78.2.1))), (b4, .inl (cI, 48, .inl (za r78.2.2.1))), (b5, .inl (cI, 48, .inl (za r78.2.2.2.1))), (b6, .inl (cI, 48, .inl (za r78.2.2.2.2)))] : va_W)) H := zb30 hP
                            refine z_ifne C0 344 dL_law_339 (by decide) (fun c256 => ?_) (fun c256 => ?_)
                            · have hf := zif_neg hf c256
                              refine z_iconst C0 dL_law_344 ?_
                              refine z_istore C0 [(11, .int (zI 0)), (0, .ref b), (1, .ref (h 0)), (2, .ref (h2 0)), (3, .ref b3), (4, .ref b4), (5, .ref b5), (6, .ref b6), (7, .int (zI i8)), (9, .int (zI v37))] dL_law_345 hl (by decide) rfl (fun ls hl => ?_)
                              refine z_iconst C0 dL_law_347 ?_
                              refine z_istore C0 [(12, .int (zI 0)), (11, .int (zI 0)), (0, .ref b), (1, .ref (h 0)), (2, .ref (h2 0)), (3, .ref b3), (4, .ref b4), (5, .ref b5), (6, .ref b6), (7, .int (zI i8)), (9, .int (zI v37))] dL_law_348 hl (by decide) rfl (fun ls hl => ?_)
                              have L173 : ∀ (zn : Nat) (t100 : zXT) (a104 : (Nat → Int)) (i97 : Int) (i98 : Int) (out : zXT × (Nat → Int)), fL_law_L350 zn zL0 zsc (zk_X (zx_lag r78.1) (zx_dead r78.1) (zx_manner r78.1) (zx_setting r78.1) r84.2.1 r84.2.2.1 (zx_shiftedRow r78.1) r84.2.2.2.1 r84.2.2.2.2.1 r84.2.2.2.2.2.1 r84.2.2.2.2.2.2.1 r84.2.2.2.2.2.2.2.1 r84.2.2.2.2.2.2.2.2 r82.2.2.2.2.2.2.2) t100 r78.2.1 r78.2.2.1 r78.2.2.2.1 a104 i8 v37 i97 i98 = some out → (∀ (H : Heap) (locs : List Loc), va_P D vwCl ((wX h cI (zx_lag r78.1) (zx_dead r78.1) (zx_manner r78.1) (zx_setting r78.1) r84.2.1 r84.2.2.1 (zx_shiftedRow r78.1) r84.2.2.2.1 r84.2.2.2.2.1 r84.2.2.2.2.2.1 r84.2.2.2.2.2.2.1 r84.2.2.2.2.2.2.2.1 r84.2.2.2.2.2.2.2.2 r82.2.2.2.2.2.2.2) ++ (wX h2 cI (zx_lag out.1) (zx_dead out.1) (zx_manner out.1) (zx_setting out.1) (zx_keptRow out.1) (zx_liveRow out.1) (zx_shiftedRow out.1) (zx_groups out.1) (zx_search out.1) (zx_deadUntil out.1) (zx_settled out.1) (zx_known out.1) (zx_tooLate out.1) (zx_ended out.1)) ++ ([(b3, .inl (cI, 48, .inl (za r78.2.1))), (b4, .inl (cI, 48, .inl (za r78.2.2.1))), (b5, .inl (cI, 48, .inl (za r78.2.2.2.1))), (b6, .inl (cI, 48, .inl (za out.2)))] : va_W)) H → va_S A s.heap H locs → ∀ ls : Array Slot, lv_has ls 16 [(0, .ref b), (1, .ref (h 0)), (2, .ref (h2 0)), (3, .ref b3), (4, .ref b4), (5, .ref b5), (6, .ref b6), (7, .int (zI i8)), (9, .int (zI v37))] → W p l e room_1 s m #[Value.ref b] below meth c H locs 600000 7302250 Q (F0 m 500 ls [])) → ∀ (H : Heap) (locs : List Loc), va_P D vwCl ((wX h cI (zx_lag r78.1) (zx_dead r78.1) (zx_manner r78.1) (zx_setting r78.1) r84.2.1 r84.2.2.1 (zx_shiftedRow r78.1) r84.2.2.2.1 r84.2.2.2.2.1 r84.2.2.2.2.2.1 r84.2.2.2.2.2.2.1 r84.2.2.2.2.2.2.2.1 r84.2.2.2.2.2.2.2.2 r82.2.2.2.2.2.2.2) ++ (wX h2 cI (zx_lag t100) (zx_dead t100) (zx_manner t100) (zx_setting t100) (zx_keptRow t100) (zx_liveRow t100) (zx_shiftedRow t100) (zx_groups t100) (zx_search t100) (zx_deadUntil t100) (zx_settled t100) (zx_known t100) (zx_tooLate t100) (zx_ended t100)) ++ ([(b3, .inl (cI, 48, .inl (za r78.2.1))), (b4, .inl (cI, 48, .inl (za r78.2.2.1))), (b5, .inl (cI, 48, .inl (za r78.2.2.2.1))), (b6, .inl (cI, 48, .inl (za a104)))] : va_W)) H → va_S A s.heap H locs → ∀ ls : Array Slot, lv_has ls 16 [(0, .ref b), (1, .ref (h 0)), (2, .ref (h2 0)), (3, .ref b3), (4, .ref b4), (5, .ref b5), (6, .ref b6), (7, .int (zI i8)), (9, .int (zI v37)), (11, .int (zI i97)), (12, .int (zI i98))] → W p l e room_1 s m #[Value.ref b] below meth c H locs 600000 7302250 Q (F0 m 350 ls []) := by
                                intro zn
                                induction zn with
                                | zero =>
                                  intro t100 a104 i97 i98 out hf
                                  rw [fL_law_L350_z] at hf
                                  cases hf
                                | succ zn ih =>
                                  intro t100 a104 i97 i98 out hf K H locs hP hS ls hl
                                  rw [fL_law_L350_s] at hf
                                  refine z_iload C0 dL_law_350 (lv_at hl 9 rfl) ?_
                                  refine z_iload C0 dL_law_352 (lv_at hl 8 rfl) ?_
                                  refine z_icmpge C0 500 dL_law_354 (by decide) (fun c172 => ?_) (fun c172 => ?_)
                                  · have hf := zif_pos hf c172
                                    cases hf
                                    exact K _ _ hP hS ls (lv_sub hl [0, 1, 2, 3, 4, 5, 6, 7, 8] rfl)
                                  · have hf := zif_neg hf c172
                                    refine z_iconst C0 dL_law_357 ?_
                                    refine z_istore C0 [(13, .int (zI (-1))), (0, .ref b), (1, .ref (h 0)), (2, .ref (h2 0)), (3, .ref b3), (4, .ref b4), (5, .ref b5), (6, .ref b6), (7, .int (zI i8)), (9, .int (zI v37)), (11, .int (zI i97)), (12, .int (zI i98))] dL_law_358 hl (by decide) rfl (fun ls hl => ?_)
                                    refine z_iconst C0 dL_law_360 ?_
                                    refine z_istore C0 [(14, .int (zI 0)), (13, .int (zI (-1))), (0, .ref b), (1, .ref (h 0)), (2, .ref (h2 0)), (3, .ref b3), (4, .ref b4), (5, .ref b5), (6, .ref b6), (7, .int (zI i8)), (9, .int (zI v37)), (11, .int (zI i97)), (12, .int (zI i98))] dL_law_361 hl (by decide) rfl (fun ls hl => ?_)
                                    have L134 : ∀ (zn : Nat) (i116 : Int) (i117 : Int) (out : Int), fL_law_L363 zn zL0 zsc (zk_X (zx_lag r78.1) (zx_dead r78.1) (zx_manner r78.1) (zx_setting r78.1) r84.2.1 r84.2.2.1 (zx_shiftedRow r78.1) r84.2.2.2.1 r84.2.2.2.2.1 r84.2.2.2.2.2.1 r84.2.2.2.2.2.2.1 r84.2.2.2.2.2.2.2.1 r84.2.2.2.2.2.2.2.2 r82.2.2.2.2.2.2.2) t100 r78.2.1 r78.2.2.1 r78.2.2.2.1 a104 i8 v37 i97 i98 i116 i117 = some out → (∀ (H : Heap) (locs : List Loc), va_P D vwCl ((wX h cI (zx_lag r78.1) (zx_dead r78.1) (zx_manner r78.1) (zx_setting r78.1) r84.2.1 r84.2.2.1 (zx_shiftedRow r78.1) r84.2.2.2.1 r84.2.2.2.2.1 r84.2.2.2.2.2.1 r84.2.2.2.2.2.2.1 r84.2.2.2.2.2.2.2.1 r84.2.2.2.2.2.2.2.2 r82.2.2.2.2.2.2.2) ++ (wX h2 cI (zx_lag t100) (zx_dead t100) (zx_manner t100) (zx_setting t100) (zx_keptRow t100) (zx_liveRow t100) (zx_shiftedRow t100) (zx_groups t100) (zx_search t100) (zx_deadUntil t100) (zx_settled t100) (zx_known t100) (zx_tooLate t100) (zx_ended t100)) ++ ([(b3, .inl (cI, 48, .inl (za r78.2.1))), (b4, .inl (cI, 48, .inl (za r78.2.2.1))), (b5, .inl (cI, 48, .inl (za r78.2.2.2.1))), (b6, .inl (cI, 48, .inl (za a104)))] : va_W)) H → va_S A s.heap H locs → ∀ ls : Array Slot, lv_has ls 16 [(0, .ref b), (1, .ref (h 0)), (2, .ref (h2 0)), (3, .ref b3), (4, .ref b4), (5, .ref b5), (6, .ref b6), (7, .int (zI i8)), (9, .int (zI v37)), (11, .int (zI i97)), (12, .int (zI i98)), (13, .int (zI out))] → W p l e room_1 s m #[Value.ref b] below meth c H locs 600000 7302250 Q (F0 m 413 ls [])) → ∀ (H : Heap) (locs : List Loc), va_P D vwCl ((wX h cI (zx_lag r78.1) (zx_dead r78.1) (zx_manner r78.1) (zx_setting r78.1) r84.2.1 r84.2.2.1 (zx_shiftedRow r78.1) r84.2.2.2.1 r84.2.2.2.2.1 r84.2.2.2.2.2.1 r84.2.2.2.2.2.2.1 r84.2.2.2.2.2.2.2.1 r84.2.2.2.2.2.2.2.2 r82.2.2.2.2.2.2.2) ++ (wX h2 cI (zx_lag t100) (zx_dead t100) (zx_manner t100) (zx_setting t100) (zx_keptRow t100) (zx_liveRow t100) (zx_shiftedRow t100) (zx_groups t100) (zx_search t100) (zx_deadUntil t100) (zx_settled t100) (zx_known t100) (zx_tooLate t100) (zx_ended t100)) ++ ([(b3, .inl (cI, 48, .inl (za r78.2.1))), (b4, .inl (cI, 48, .inl (za r78.2.2.1))), (b5, .inl (cI, 48, .inl (za r78.2.2.2.1))), (b6, .inl (cI, 48, .inl (za a104)))] : va_W)) H → va_S A s.heap H locs → ∀ ls : Array Slot, lv_has ls 16 [(0, .ref b), (1, .ref (h 0)), (2, .ref (h2 0)), (3, .ref b3), (4, .ref b4), (5, .ref b5), (6, .ref b6), (7, .int (zI i8)), (9, .int (zI v37)), (11, .int (zI i97)), (12, .int (zI i98)), (13, .int (zI i116)), (14, .int (zI i117))] → W p l e room_1 s m #[Value.ref b] below meth c H locs 600000 7302250 Q (F0 m 363 ls []) := by
                                      intro zn
                                      induction zn with
                                      | zero =>
                                        intro i116 i117 out hf
                                        rw [fL_law_L363_z] at hf
                                        cases hf
                                      | succ zn ih =>
                                        intro i116 i117 out hf K H locs hP hS ls hl
                                        rw [fL_law_L363_s] at hf
                                        refine z_iload C0 dL_law_363 (lv_at hl 12 rfl) ?_
                                        refine z_iload C0 dL_law_365 (lv_at hl 8 rfl) ?_
                                        refine z_icmpge C0 413 dL_law_367 (by decide) (fun c133 => ?_) (fun c133 => ?_)
                                        · have hf := zif_pos hf c133
                                          cases hf
                                          exact K _ _ hP hS ls (lv_sub hl [0, 1, 2, 3, 4, 5, 6, 7, 8, 9, 10, 11] rfl)
                                        · have hf := zif_neg hf c133
                                          refine z_aload C0 dL_law_370 (lv_at hl 6 rfl) ?_
                                          refine z_iload C0 dL_law_372 (lv_at hl 12 rfl) ?_
                                          obtain ⟨g124, hf⟩ := zg_some hf
                                          refine z_iald C0 hP 57 rfl (Nat.le_of_ble_eq_true rfl) g124 dL_law_374 ?_
                                          refine z_ldc C0 zw359 dL_law_375 ?_
                                          obtain ⟨r125, hE132, hf⟩ := zbind hf
                                          have J126 : ∀ (H : Heap) (locs : List Loc), va_P D vwCl ((wX h cI (zx_lag r78.1) (zx_dead r78.1) (zx_manner r78.1) (zx_setting r78.1) r84.2.1 r84.2.2.1 (zx_shiftedRow r78.1) r84.2.2.2.1 r84.2.2.2.2.1 r84.2.2.2.2.2.1 r84.2.2.2.2.2.2.1 r84.2.2.2.2.2.2.2.1 r84.2.2.2.2.2.2.2.2 r82.2.2.2.2.2.2.2) ++ (wX h2 cI (zx_lag t100) (zx_dead t100) (zx_manner t100) (zx_setting t100) (zx_keptRow t100) (zx_liveRow t100) (zx_shiftedRow t100) (zx_groups t100) (zx_search t100) (zx_deadUntil t100) (zx_settled t100) (zx_known t100) (zx_tooLate t100) (zx_ended t100)) ++ ([(b3, .inl (cI, 48, .inl (za r78.2.1))), (b4, .inl (cI, 48, .inl (za r78.2.2.1))), (b5, .inl (cI, 48, .inl (za r78.2.2.2.1))), (b6, .inl (cI, 48, .inl (za a104)))] : va_W)) H → va_S A s.heap H locs → ∀ ls : Array Slot, lv_has ls 16 [(0, .ref b), (1, .ref (h 0)), (2, .ref (h2 0)), (3, .ref b3), (4, .ref b4), (5, .ref b5), (6, .ref b6), (7, .int (zI i8)), (9, .int (zI v37)), (11, .int (zI i97)), (12, .int (zI i98)), (14, .int (zI i117))] → W p l e room_1 s m #[Value.ref b] below meth c H locs 600000 7302250 Q (F0 m 405 ls [.int (zI r125)]) := by
                                            intro H locs hP hS ls hl
                                            refine z_istore C0 [(13, .int (zI r125)), (0, .ref b), (1, .ref (h 0)), (2, .ref (h2 0)), (3, .ref b3), (4, .ref b4), (5, .ref b5), (6, .ref b6), (7, .int (zI i8)), (9, .int (zI v37)), (11, .int (zI i97)), (12, .int (zI i98)), (14, .int (zI i117))] dL_law_405 hl (by decide) rfl (fun ls hl => ?_)
                                            refine z_iinc C0 [(14, .int (zI (i117 + 1))), (13, .int (zI r125)), (0, .ref b), (1, .ref (h 0)), (2, .ref (h2 0)), (3, .ref b3), (4, .ref b4), (5, .ref b5), (6, .ref b6), (7, .int (zI i8)), (9, .int (zI v37)), (11, .int (zI i97)), (12, .int (zI i98))] dL_law_407 hl 12 rfl (by decide) rfl (fun ls hl => ?_)
                                            refine z_goto C0 363 dL_law_410 (by decide) ?_
                                            exact ih r125 (i117 + 1) out hf K _ _ hP hS ls (lv_sub hl [2, 3, 4, 5, 6, 7, 8, 9, 10, 11, 12, 1, 0] rfl)
                                          have hf := hE132
                                          refine z_icmpge C0 403 dL_law_377 (by decide) (fun c131 => ?_) (fun c131 => ?_)
                                          · have hf := zif_pos hf c131
                                            refine z_iload C0 dL_law_403 (lv_at hl 11 rfl) ?_
                                            cases hf
                                            exact J126 _ _ hP hS ls (lv_sub hl [0, 1, 2, 3, 4, 5, 6, 7, 8, 9, 10, 12] rfl)
                                          · have hf := zif_neg hf c131
                                            refine z_iload C0 dL_law_380 (lv_at hl 11 rfl) ?_
                                            refine z_iflt C0 398 dL_law_382 (by decide) (fun c130 => ?_) (fun c130 => ?_)
                                            · have hf := zif_pos hf c130
                                              refine z_iload C0 dL_law_398 (lv_at hl 12 rfl) ?_
                                              refine z_goto C0 405 dL_law_400 (by decide) ?_
                                              cases hf
                                              exact J126 _ _ hP hS ls (lv_sub hl [0, 1, 2, 3, 4, 5, 6, 7, 8, 9, 10, 12] rfl)
                                            · have hf := zif_neg hf c130
                                              refine z_aload C0 dL_law_385 (lv_at hl 6 rfl) ?_
                                              refine z_iload C0 dL_law_387 (lv_at hl 12 rfl) ?_
                                              obtain ⟨g127, hf⟩ := zg_some hf
                                              refine z_iald C0 hP 57 rfl (Nat.le_of_ble_eq_true rfl) g127 dL_law_389 ?_
                                              refine z_aload C0 dL_law_390 (lv_at hl 6 rfl) ?_
                                              refine z_iload C0 dL_law_392 (lv_at hl 11 rfl) ?_
                                              obtain ⟨g128, hf⟩ := zg_some hf
                                              refine z_iald C0 hP 57 rfl (Nat.le_of_ble_eq_true rfl) g128 dL_law_394 ?_
                                              refine z_icmpge C0 403 dL_law_395 (by decide) (fun c129 => ?_) (fun c129 => ?_)
                                              · have hf := zif_pos hf c129
                                                refine z_iload C0 dL_law_403 (lv_at hl 11 rfl) ?_
                                                cases hf
                                                exact J126 _ _ hP hS ls (lv_sub hl [0, 1, 2, 3, 4, 5, 6, 7, 8, 9, 10, 12] rfl)
                                              · have hf := zif_neg hf c129
                                                refine z_iload C0 dL_law_398 (lv_at hl 12 rfl) ?_
                                                refine z_goto C0 405 dL_law_400 (by decide) ?_
                                                cases hf
                                                exact J126 _ _ hP hS ls (lv_sub hl [0, 1, 2, 3, 4, 5, 6, 7, 8, 9, 10, 12] rfl)
                                    obtain ⟨r135, hE136, hf⟩ := zbind hf
                                    refine L134 _ (-1) 0 r135 hE136 ?_ _ _ hP hS ls (lv_sub hl [2, 3, 4, 5, 6, 7, 8, 9, 10, 11, 12, 1, 0] rfl)
                                    intro H locs hP hS ls hl
                                    refine z_aload C0 dL_law_413 (lv_at hl 6 rfl) ?_
                                    refine z_iload C0 dL_law_415 (lv_at hl 11 rfl) ?_
                                    refine z_ldc C0 zw359 dL_law_417 ?_
                                    obtain ⟨g137, hf⟩ := zg_some hf
                                    refine z_iast C0 hP (zD hD rfl) hS 57 rfl (Nat.le_of_ble_eq_true rfl) g137 dL_law_419 (fun H locs hP hS => ?_)
                                    have hP : va_P D vwCl ((wX h cI (zx_lag r78.1) (zx_dead r78.1) (zx_manner r78.1) (zx_setting r78.1) r84.2.1 r84.2.2.1 (zx_shiftedRow r78.1) r84.2.2.2.1 r84.2.2.2.2.1 r84.2.2.2.2.2.1 r84.2.2.2.2.2.2.1 r84.2.2.2.2.2.2.2.1 r84.2.2.2.2.2.2.2.2 r82.2.2.2.2.2.2.2) ++ (wX h2 cI (zx_lag t100) (zx_dead t100) (zx_manner t100) (zx_setting t100) (zx_keptRow t100) (zx_liveRow t100) (zx_shiftedRow t100) (zx_groups t100) (zx_search t100) (zx_deadUntil t100) (zx_settled t100) (zx_known t100) (zx_tooLate t100) (zx_ended t100)) ++ ([(b3, .inl (cI, 48, .inl (za r78.2.1))), (b4, .inl (cI, 48, .inl (za r78.2.2.1))), (b5, .inl (cI, 48, .inl (za r78.2.2.2.1))), (b6, .inl (cI, 48, .inl (za (zu a104 r135 99999))))] : va_W)) H := hP
                                    refine z_aload_n C0 dL_law_420 rfl (lv_at hl 2 rfl) ?_
                                    refine z_aload_n C0 dL_law_421 rfl (lv_at hl 3 rfl) ?_
                                    refine z_iload C0 dL_law_422 (lv_at hl 11 rfl) ?_
                                    obtain ⟨g138, hf⟩ := zg_some hf
                                    refine z_iald C0 hP 54 rfl (Nat.le_of_ble_eq_true rfl) g138 dL_law_424 ?_
                                    refine z_aload C0 dL_law_425 (lv_at hl 4 rfl) ?_
                                    refine z_iload C0 dL_law_427 (lv_at hl 11 rfl) ?_
                                    obtain ⟨g139, hf⟩ := zg_some hf
                                    refine z_iald C0 hP 55 rfl (Nat.le_of_ble_eq_true rfl) g139 dL_law_429 ?_
                                    refine z_aload C0 dL_law_430 (lv_at hl 5 rfl) ?_
                                    refine z_iload C0 dL_law_432 (lv_at hl 11 rfl) ?_
                                    obtain ⟨g140, hf⟩ := zg_some hf
                                    refine z_iald C0 hP 56 rfl (Nat.le_of_ble_eq_true rfl) g140 dL_law_434 ?_
                                    obtain ⟨r141, hc142, hf⟩ := zbind hf
                                    refine z_qViS (rest := []) C0 (zc31 hP) (zd31 (zD hD rfl)) hS hZ (zmX3_pulse l D cI cZ h2 _ (zx_lag t100) (zx_dead t100) (zx_manner t100) (zx_setting t100) (zx_keptRow t100) (zx_liveRow t100) (zx_shiftedRow t100) (zx_groups t100) (zx_search t100) (zx_deadUntil t100) (zx_settled t100) (zx_known t100) (zx_tooLate t100) (zx_ended t100) (r78.2.1 (Int.toNat r135)) (r78.2.2.1 (Int.toNat r135)) (r78.2.2.2.1 (Int.toNat r135)) r141 hc142) (zkL_86 ⟨by decide, by decide⟩ C0.2.2.2.2.1) 3 rfl rfl rfl rfl hl.1 (Nat.le_of_ble_eq_true rfl) dL_law_435 ⟨Nat.le_refl _, Nat.le_refl _⟩ (fun H locs hP hS => ?_)
                                    have hP : va_P D vwCl ((wX h cI (zx_lag r78.1) (zx_dead r78.1) (zx_manner r78.1) (zx_setting r78.1) r84.2.1 r84.2.2.1 (zx_shiftedRow r78.1) r84.2.2.2.1 r84.2.2.2.2.1 r84.2.2.2.2.2.1 r84.2.2.2.2.2.2.1 r84.2.2.2.2.2.2.2.1 r84.2.2.2.2.2.2.2.2 r82.2.2.2.2.2.2.2) ++ (wX h2 cI (zx_lag t100) (zx_dead t100) (zx_manner t100) (zx_setting t100) r141.2.1 r141.2.2.1 (zx_shiftedRow t100) r141.2.2.2.1 r141.2.2.2.2.1 r141.2.2.2.2.2.1 r141.2.2.2.2.2.2.1 r141.2.2.2.2.2.2.2.1 r141.2.2.2.2.2.2.2.2 (zx_ended t100)) ++ ([(b3, .inl (cI, 48, .inl (za r78.2.1))), (b4, .inl (cI, 48, .inl (za r78.2.2.1))), (b5, .inl (cI, 48, .inl (za r78.2.2.2.1))), (b6, .inl (cI, 48, .inl (za (zu a104 r135 99999))))] : va_W)) H := zb31 hP
                                    refine z_iconst C0 dL_law_438 ?_
                                    refine z_icmpeq C0 444 dL_law_439 (by decide) (fun c171 => ?_) (fun c171 => ?_)
                                    · have hf := zif_pos hf c171
                                      refine z_iinc C0 [(11, .int (zI (i97 + 1))), (0, .ref b), (1, .ref (h 0)), (2, .ref (h2 0)), (3, .ref b3), (4, .ref b4), (5, .ref b5), (6, .ref b6), (7, .int (zI i8)), (9, .int (zI v37)), (12, .int (zI i98)), (13, .int (zI r135))] dL_law_444 hl 9 rfl (by decide) rfl (fun ls hl => ?_)
                                      refine z_aload_n C0 dL_law_447 rfl (lv_at hl 3 rfl) ?_
                                      refine z_bipush C0 dL_law_448 (by decide +kernel) ?_
                                      obtain ⟨r143, hc144, hf⟩ := zbind hf
                                      refine z_qVi (rest := []) C0 (zc31 hP) (zd31 (zD hD rfl)) hS (zmX3_many l D cI cZ h2 _ (zx_lag t100) (zx_dead t100) (zx_manner t100) (zx_setting t100) r141.2.1 r141.2.2.1 (zx_shiftedRow t100) r141.2.2.2.1 r141.2.2.2.2.1 r141.2.2.2.2.2.1 r141.2.2.2.2.2.2.1 r141.2.2.2.2.2.2.2.1 r141.2.2.2.2.2.2.2.2 (zx_ended t100) 7 r143 hc144) (zkL_38 ⟨by decide, by decide⟩ C0.2.2.2.2.1) 3 rfl rfl rfl rfl hl.1 (Nat.le_of_ble_eq_true rfl) dL_law_450 ⟨Nat.le_refl _, Nat.le_refl _⟩ (fun H locs hP hS => ?_)
                                      have hP : va_P D vwCl ((wX h cI (zx_lag r78.1) (zx_dead r78.1) (zx_manner r78.1) (zx_setting r78.1) r84.2.1 r84.2.2.1 (zx_shiftedRow r78.1) r84.2.2.2.1 r84.2.2.2.2.1 r84.2.2.2.2.2.1 r84.2.2.2.2.2.2.1 r84.2.2.2.2.2.2.2.1 r84.2.2.2.2.2.2.2.2 r82.2.2.2.2.2.2.2) ++ (wX h2 cI (zx_lag t100) (zx_dead t100) (zx_manner t100) (zx_setting t100) r141.2.1 r141.2.2.1 (zx_shiftedRow t100) r141.2.2.2.1 r141.2.2.2.2.1 r141.2.2.2.2.2.1 r141.2.2.2.2.2.2.1 r141.2.2.2.2.2.2.2.1 r141.2.2.2.2.2.2.2.2 (zx_ended t100)) ++ ([(b3, .inl (cI, 48, .inl (za r78.2.1))), (b4, .inl (cI, 48, .inl (za r78.2.2.1))), (b5, .inl (cI, 48, .inl (za r78.2.2.2.1))), (b6, .inl (cI, 48, .inl (za (zu a104 r135 99999))))] : va_W)) H := zb31 hP
                                      refine z_istore C0 [(14, .int (zI r143)), (11, .int (zI (i97 + 1))), (0, .ref b), (1, .ref (h 0)), (2, .ref (h2 0)), (3, .ref b3), (4, .ref b4), (5, .ref b5), (6, .ref b6), (7, .int (zI i8)), (9, .int (zI v37)), (12, .int (zI i98)), (13, .int (zI r135))] dL_law_453 hl (by decide) rfl (fun ls hl => ?_)
                                      refine z_iload C0 dL_law_455 (lv_at hl 0 rfl) ?_
                                      refine z_iload C0 dL_law_457 (lv_at hl 11 rfl) ?_
                                      refine z_icmpge C0 464 dL_law_459 (by decide) (fun c170 => ?_) (fun c170 => ?_)
                                      · have hf := zif_pos hf c170
                                        refine z_iload C0 dL_law_464 (lv_at hl 11 rfl) ?_
                                        refine z_istore C0 [(15, .int (zI i98)), (14, .int (zI r143)), (11, .int (zI (i97 + 1))), (0, .ref b), (1, .ref (h 0)), (2, .ref (h2 0)), (3, .ref b3), (4, .ref b4), (5, .ref b5), (6, .ref b6), (7, .int (zI i8)), (9, .int (zI v37)), (12, .int (zI i98)), (13, .int (zI r135))] dL_law_466 hl (by decide) rfl (fun ls hl => ?_)
                                        have L167 : ∀ (zn : Nat) (i156 : Int) (out : Unit), fL_law_L468 zn zL0 zsc (zk_X (zx_lag r78.1) (zx_dead r78.1) (zx_manner r78.1) (zx_setting r78.1) r84.2.1 r84.2.2.1 (zx_shiftedRow r78.1) r84.2.2.2.1 r84.2.2.2.2.1 r84.2.2.2.2.2.1 r84.2.2.2.2.2.2.1 r84.2.2.2.2.2.2.2.1 r84.2.2.2.2.2.2.2.2 r82.2.2.2.2.2.2.2) (zk_X (zx_lag t100) (zx_dead t100) (zx_manner t100) (zx_setting t100) r141.2.1 r141.2.2.1 (zx_shiftedRow t100) r141.2.2.2.1 r141.2.2.2.2.1 r141.2.2.2.2.2.1 r141.2.2.2.2.2.2.1 r141.2.2.2.2.2.2.2.1 r141.2.2.2.2.2.2.2.2 (zx_ended t100)) r78.2.1 r78.2.2.1 r78.2.2.2.1 (zu a104 r135 99999) i8 v37 (i97 + 1) r143 i156 = some out → (∀ (H : Heap) (locs : List Loc), va_P D vwCl ((wX h cI (zx_lag r78.1) (zx_dead r78.1) (zx_manner r78.1) (zx_setting r78.1) r84.2.1 r84.2.2.1 (zx_shiftedRow r78.1) r84.2.2.2.1 r84.2.2.2.2.1 r84.2.2.2.2.2.1 r84.2.2.2.2.2.2.1 r84.2.2.2.2.2.2.2.1 r84.2.2.2.2.2.2.2.2 r82.2.2.2.2.2.2.2) ++ (wX h2 cI (zx_lag t100) (zx_dead t100) (zx_manner t100) (zx_setting t100) r141.2.1 r141.2.2.1 (zx_shiftedRow t100) r141.2.2.2.1 r141.2.2.2.2.1 r141.2.2.2.2.2.1 r141.2.2.2.2.2.2.1 r141.2.2.2.2.2.2.2.1 r141.2.2.2.2.2.2.2.2 (zx_ended t100)) ++ ([(b3, .inl (cI, 48, .inl (za r78.2.1))), (b4, .inl (cI, 48, .inl (za r78.2.2.1))), (b5, .inl (cI, 48, .inl (za r78.2.2.2.1))), (b6, .inl (cI, 48, .inl (za (zu a104 r135 99999))))] : va_W)) H → va_S A s.heap H locs → ∀ ls : Array Slot, lv_has ls 16 [(0, .ref b), (1, .ref (h 0)), (2, .ref (h2 0)), (3, .ref b3), (4, .ref b4), (5, .ref b5), (6, .ref b6), (7, .int (zI i8)), (9, .int (zI v37)), (11, .int (zI (i97 + 1))), (14, .int (zI r143))] → W p l e room_1 s m #[Value.ref b] below meth c H locs 600000 7302250 Q (F0 m 493 ls [])) → ∀ (H : Heap) (locs : List Loc), va_P D vwCl ((wX h cI (zx_lag r78.1) (zx_dead r78.1) (zx_manner r78.1) (zx_setting r78.1) r84.2.1 r84.2.2.1 (zx_shiftedRow r78.1) r84.2.2.2.1 r84.2.2.2.2.1 r84.2.2.2.2.2.1 r84.2.2.2.2.2.2.1 r84.2.2.2.2.2.2.2.1 r84.2.2.2.2.2.2.2.2 r82.2.2.2.2.2.2.2) ++ (wX h2 cI (zx_lag t100) (zx_dead t100) (zx_manner t100) (zx_setting t100) r141.2.1 r141.2.2.1 (zx_shiftedRow t100) r141.2.2.2.1 r141.2.2.2.2.1 r141.2.2.2.2.2.1 r141.2.2.2.2.2.2.1 r141.2.2.2.2.2.2.2.1 r141.2.2.2.2.2.2.2.2 (zx_ended t100)) ++ ([(b3, .inl (cI, 48, .inl (za r78.2.1))), (b4, .inl (cI, 48, .inl (za r78.2.2.1))), (b5, .inl (cI, 48, .inl (za r78.2.2.2.1))), (b6, .inl (cI, 48, .inl (za (zu a104 r135 99999))))] : va_W)) H → va_S A s.heap H locs → ∀ ls : Array Slot, lv_has ls 16 [(0, .ref b), (1, .ref (h 0)), (2, .ref (h2 0)), (3, .ref b3), (4, .ref b4), (5, .ref b5), (6, .ref b6), (7, .int (zI i8)), (9, .int (zI v37)), (11, .int (zI (i97 + 1))), (14, .int (zI r143)), (15, .int (zI i156))] → W p l e room_1 s m #[Value.ref b] below meth c H locs 600000 7302250 Q (F0 m 468 ls []) := by
                                          intro zn
                                          induction zn with
                                          | zero =>
                                            intro i156 out hf
                                            rw [fL_law_L468_z] at hf
                                            cases hf
                                          | succ zn ih =>
                                            intro i156 out hf K H locs hP hS ls hl
                                            rw [fL_law_L468_s] at hf
                                            refine z_iload C0 dL_law_468 (lv_at hl 11 rfl) ?_
                                            refine z_iload C0 dL_law_470 (lv_at hl 10 rfl) ?_
                                            refine z_icmpge C0 493 dL_law_472 (by decide) (fun c166 => ?_) (fun c166 => ?_)
                                            · have hf := zif_pos hf c166
                                              cases hf
                                              exact K _ _ hP hS ls (lv_sub hl [0, 1, 2, 3, 4, 5, 6, 7, 8, 9, 10] rfl)
                                            · have hf := zif_neg hf c166
                                              refine z_aload_n C0 dL_law_475 rfl (lv_at hl 2 rfl) ?_
                                              refine z_aload_n C0 dL_law_476 rfl (lv_at hl 1 rfl) ?_
                                              refine z_iload C0 dL_law_477 (lv_at hl 11 rfl) ?_
                                              obtain ⟨r163, hc164, hf⟩ := zbind hf
                                              refine z_qSi (rest := []) C0 (zc3ba hP) (zd3ba (zD hD rfl)) hS (zmL_sameGroup l D cI cZ h2 h _ (zk_X (zx_lag t100) (zx_dead t100) (zx_manner t100) (zx_setting t100) r141.2.1 r141.2.2.1 (zx_shiftedRow t100) r141.2.2.2.1 r141.2.2.2.2.1 r141.2.2.2.2.2.1 r141.2.2.2.2.2.2.1 r141.2.2.2.2.2.2.2.1 r141.2.2.2.2.2.2.2.2 (zx_ended t100)) (zk_X (zx_lag r78.1) (zx_dead r78.1) (zx_manner r78.1) (zx_setting r78.1) r84.2.1 r84.2.2.1 (zx_shiftedRow r78.1) r84.2.2.2.1 r84.2.2.2.2.1 r84.2.2.2.2.2.1 r84.2.2.2.2.2.2.1 r84.2.2.2.2.2.2.2.1 r84.2.2.2.2.2.2.2.2 r82.2.2.2.2.2.2.2) i156 r163 hc164) (zkL_42 ⟨by decide, by decide⟩ C0.2.2.2.2.1) rfl rfl hl.1 (Nat.le_of_ble_eq_true rfl) dL_law_479 ⟨Nat.le_refl _, Nat.le_refl _⟩ (fun H locs hP hS => ?_)
                                              have hP : va_P D vwCl ((wX h cI (zx_lag r78.1) (zx_dead r78.1) (zx_manner r78.1) (zx_setting r78.1) r84.2.1 r84.2.2.1 (zx_shiftedRow r78.1) r84.2.2.2.1 r84.2.2.2.2.1 r84.2.2.2.2.2.1 r84.2.2.2.2.2.2.1 r84.2.2.2.2.2.2.2.1 r84.2.2.2.2.2.2.2.2 r82.2.2.2.2.2.2.2) ++ (wX h2 cI (zx_lag t100) (zx_dead t100) (zx_manner t100) (zx_setting t100) r141.2.1 r141.2.2.1 (zx_shiftedRow t100) r141.2.2.2.1 r141.2.2.2.2.1 r141.2.2.2.2.2.1 r141.2.2.2.2.2.2.1 r141.2.2.2.2.2.2.2.1 r141.2.2.2.2.2.2.2.2 (zx_ended t100)) ++ ([(b3, .inl (cI, 48, .inl (za r78.2.1))), (b4, .inl (cI, 48, .inl (za r78.2.2.1))), (b5, .inl (cI, 48, .inl (za r78.2.2.2.1))), (b6, .inl (cI, 48, .inl (za (zu a104 r135 99999))))] : va_W)) H := zb3ba hP
                                              refine z_ifne C0 487 dL_law_482 (by decide) (fun c165 => ?_) (fun c165 => ?_)
                                              · have hf := zif_neg hf c165
                                                refine z_iinc C0 [(15, .int (zI (i156 + 1))), (0, .ref b), (1, .ref (h 0)), (2, .ref (h2 0)), (3, .ref b3), (4, .ref b4), (5, .ref b5), (6, .ref b6), (7, .int (zI i8)), (9, .int (zI v37)), (11, .int (zI (i97 + 1))), (14, .int (zI r143))] dL_law_487 hl 11 rfl (by decide) rfl (fun ls hl => ?_)
                                                refine z_goto C0 468 dL_law_490 (by decide) ?_
                                                exact ih (i156 + 1) out hf K _ _ hP hS ls (lv_sub hl [1, 2, 3, 4, 5, 6, 7, 8, 9, 10, 11, 0] rfl)
                                              · have hf := zif_pos hf c165
                                                refine z_iconst C0 dL_law_485 ?_
                                                cases hf
                                        obtain ⟨r168, hE169, hf⟩ := zbind hf
                                        refine L167 _ i98 r168 hE169 ?_ _ _ hP hS ls (lv_sub hl [3, 4, 5, 6, 7, 8, 9, 10, 11, 2, 1, 0] rfl)
                                        intro H locs hP hS ls hl
                                        refine z_iload C0 dL_law_493 (lv_at hl 10 rfl) ?_
                                        refine z_istore C0 [(12, .int (zI r143)), (0, .ref b), (1, .ref (h 0)), (2, .ref (h2 0)), (3, .ref b3), (4, .ref b4), (5, .ref b5), (6, .ref b6), (7, .int (zI i8)), (9, .int (zI v37)), (11, .int (zI (i97 + 1))), (14, .int (zI r143))] dL_law_495 hl (by decide) rfl (fun ls hl => ?_)
                                        refine z_goto C0 350 dL_law_497 (by decide) ?_
                                        exact ih (zk_X (zx_lag t100) (zx_dead t100) (zx_manner t100) (zx_setting t100) r141.2.1 r141.2.2.1 (zx_shiftedRow t100) r141.2.2.2.1 r141.2.2.2.2.1 r141.2.2.2.2.2.1 r141.2.2.2.2.2.2.1 r141.2.2.2.2.2.2.2.1 r141.2.2.2.2.2.2.2.2 (zx_ended t100)) (zu a104 r135 99999) (i97 + 1) r143 out hf K _ _ hP hS ls (lv_sub hl [1, 2, 3, 4, 5, 6, 7, 8, 9, 10, 0] rfl)
                                      · have hf := zif_neg hf c170
                                        refine z_iconst C0 dL_law_462 ?_
                                        cases hf
                                    · have hf := zif_neg hf c171
                                      refine z_iconst C0 dL_law_442 ?_
                                      cases hf
                              obtain ⟨r174, hE175, hf⟩ := zbind hf
                              refine L173 _ r23.2.2 r78.2.2.2.2 0 0 r174 hE175 ?_ _ _ hP hS ls (lv_sub hl [2, 3, 4, 5, 6, 7, 8, 9, 10, 1, 0] rfl)
                              intro H locs hP hS ls hl
                              refine z_aload_n C0 dL_law_500 rfl (lv_at hl 2 rfl) ?_
                              refine z_bipush C0 dL_law_501 (by decide +kernel) ?_
                              obtain ⟨r176, hc177, hf⟩ := zbind hf
                              refine z_qVi (rest := []) C0 (zc31 hP) (zd31 (zD hD rfl)) hS (zmX3_many l D cI cZ h2 _ (zx_lag r174.1) (zx_dead r174.1) (zx_manner r174.1) (zx_setting r174.1) (zx_keptRow r174.1) (zx_liveRow r174.1) (zx_shiftedRow r174.1) (zx_groups r174.1) (zx_search r174.1) (zx_deadUntil r174.1) (zx_settled r174.1) (zx_known r174.1) (zx_tooLate r174.1) (zx_ended r174.1) 11 r176 hc177) (zkL_38 ⟨by decide, by decide⟩ C0.2.2.2.2.1) 3 rfl rfl rfl rfl hl.1 (Nat.le_of_ble_eq_true rfl) dL_law_503 ⟨Nat.le_refl _, Nat.le_refl _⟩ (fun H locs hP hS => ?_)
                              have hP : va_P D vwCl ((wX h cI (zx_lag r78.1) (zx_dead r78.1) (zx_manner r78.1) (zx_setting r78.1) r84.2.1 r84.2.2.1 (zx_shiftedRow r78.1) r84.2.2.2.1 r84.2.2.2.2.1 r84.2.2.2.2.2.1 r84.2.2.2.2.2.2.1 r84.2.2.2.2.2.2.2.1 r84.2.2.2.2.2.2.2.2 r82.2.2.2.2.2.2.2) ++ (wX h2 cI (zx_lag r174.1) (zx_dead r174.1) (zx_manner r174.1) (zx_setting r174.1) (zx_keptRow r174.1) (zx_liveRow r174.1) (zx_shiftedRow r174.1) (zx_groups r174.1) (zx_search r174.1) (zx_deadUntil r174.1) (zx_settled r174.1) (zx_known r174.1) (zx_tooLate r174.1) (zx_ended r174.1)) ++ ([(b3, .inl (cI, 48, .inl (za r78.2.1))), (b4, .inl (cI, 48, .inl (za r78.2.2.1))), (b5, .inl (cI, 48, .inl (za r78.2.2.2.1))), (b6, .inl (cI, 48, .inl (za r174.2)))] : va_W)) H := zb31 hP
                              refine z_sipush C0 dL_law_506 (by decide +kernel) ?_
                              refine z_isub C0 dL_law_509 ?_
                              refine z_iconst C0 dL_law_510 ?_
                              refine z_isub C0 dL_law_511 ?_
                              obtain ⟨v178, hv178, hf⟩ := zl_some hf
                              refine z_name hv178 ?_
                              refine z_istore C0 [(13, .int (zI v178)), (0, .ref b), (1, .ref (h 0)), (2, .ref (h2 0)), (3, .ref b3), (4, .ref b4), (5, .ref b5), (6, .ref b6), (7, .int (zI i8)), (9, .int (zI v37))] dL_law_512 hl (by decide) rfl (fun ls hl => ?_)
                              refine z_aload_n C0 dL_law_514 rfl (lv_at hl 3 rfl) ?_
                              refine z_bipush C0 dL_law_515 (by decide +kernel) ?_
                              obtain ⟨r179, hc180, hf⟩ := zbind hf
                              refine z_qVi (rest := []) C0 (zc31 hP) (zd31 (zD hD rfl)) hS (zmX3_many l D cI cZ h2 _ (zx_lag r174.1) (zx_dead r174.1) (zx_manner r174.1) (zx_setting r174.1) (zx_keptRow r174.1) (zx_liveRow r174.1) (zx_shiftedRow r174.1) (zx_groups r174.1) (zx_search r174.1) (zx_deadUntil r174.1) (zx_settled r174.1) (zx_known r174.1) (zx_tooLate r174.1) (zx_ended r174.1) 7 r179 hc180) (zkL_38 ⟨by decide, by decide⟩ C0.2.2.2.2.1) 3 rfl rfl rfl rfl hl.1 (Nat.le_of_ble_eq_true rfl) dL_law_517 ⟨Nat.le_refl _, Nat.le_refl _⟩ (fun H locs hP hS => ?_)
                              have hP : va_P D vwCl ((wX h cI (zx_lag r78.1) (zx_dead r78.1) (zx_manner r78.1) (zx_setting r78.1) r84.2.1 r84.2.2.1 (zx_shiftedRow r78.1) r84.2.2.2.1 r84.2.2.2.2.1 r84.2.2.2.2.2.1 r84.2.2.2.2.2.2.1 r84.2.2.2.2.2.2.2.1 r84.2.2.2.2.2.2.2.2 r82.2.2.2.2.2.2.2) ++ (wX h2 cI (zx_lag r174.1) (zx_dead r174.1) (zx_manner r174.1) (zx_setting r174.1) (zx_keptRow r174.1) (zx_liveRow r174.1) (zx_shiftedRow r174.1) (zx_groups r174.1) (zx_search r174.1) (zx_deadUntil r174.1) (zx_settled r174.1) (zx_known r174.1) (zx_tooLate r174.1) (zx_ended r174.1)) ++ ([(b3, .inl (cI, 48, .inl (za r78.2.1))), (b4, .inl (cI, 48, .inl (za r78.2.2.1))), (b5, .inl (cI, 48, .inl (za r78.2.2.2.1))), (b6, .inl (cI, 48, .inl (za r174.2)))] : va_W)) H := zb31 hP
                              refine z_istore C0 [(14, .int (zI r179)), (13, .int (zI v178)), (0, .ref b), (1, .ref (h 0)), (2, .ref (h2 0)), (3, .ref b3), (4, .ref b4), (5, .ref b5), (6, .ref b6), (7, .int (zI i8)), (9, .int (zI v37))] dL_law_520 hl (by decide) rfl (fun ls hl => ?_)
                              refine z_iload C0 dL_law_522 (lv_at hl 1 rfl) ?_
                              obtain ⟨r181, hE255, hf⟩ := zbind hf
                              have J182 : ∀ (H : Heap) (locs : List Loc), va_P D vwCl ((wX h cI (zx_lag r181.1) (zx_dead r181.1) (zx_manner r181.1) (zx_setting r181.1) (zx_keptRow r181.1) (zx_liveRow r181.1) (zx_shiftedRow r181.1) (zx_groups r181.1) (zx_search r181.1) (zx_deadUntil r181.1) (zx_settled r181.1) (zx_known r181.1) (zx_tooLate r181.1) (zx_ended r181.1)) ++ (wX h2 cI (zx_lag r181.2) (zx_dead r181.2) (zx_manner r181.2) (zx_setting r181.2) (zx_keptRow r181.2) (zx_liveRow r181.2) (zx_shiftedRow r181.2) (zx_groups r181.2) (zx_search r181.2) (zx_deadUntil r181.2) (zx_settled r181.2) (zx_known r181.2) (zx_tooLate r181.2) (zx_ended r181.2)) ++ ([(b3, .inl (cI, 48, .inl (za r78.2.1))), (b4, .inl (cI, 48, .inl (za r78.2.2.1))), (b5, .inl (cI, 48, .inl (za r78.2.2.2.1))), (b6, .inl (cI, 48, .inl (za r174.2)))] : va_W)) H → va_S A s.heap H locs → ∀ ls : Array Slot, lv_has ls 16 [(0, .ref b), (1, .ref (h 0)), (2, .ref (h2 0)), (3, .ref b3), (4, .ref b4), (5, .ref b5), (6, .ref b6), (7, .int (zI i8)), (9, .int (zI v37)), (13, .int (zI v178))] → W p l e room_1 s m #[Value.ref b] below meth c H locs 600000 7302250 Q (F0 m 579 ls []) := by
                                intro H locs hP hS ls hl
                                refine z_iload C0 dL_law_579 (lv_at hl 9 rfl) ?_
                                obtain ⟨r183, hE238, hf⟩ := zbind hf
                                have J184 : ∀ (H : Heap) (locs : List Loc), va_P D vwCl ((wX h cI (zx_lag r183) (zx_dead r183) (zx_manner r183) (zx_setting r183) (zx_keptRow r183) (zx_liveRow r183) (zx_shiftedRow r183) (zx_groups r183) (zx_search r183) (zx_deadUntil r183) (zx_settled r183) (zx_known r183) (zx_tooLate r183) (zx_ended r183)) ++ (wX h2 cI (zx_lag r181.2) (zx_dead r181.2) (zx_manner r181.2) (zx_setting r181.2) (zx_keptRow r181.2) (zx_liveRow r181.2) (zx_shiftedRow r181.2) (zx_groups r181.2) (zx_search r181.2) (zx_deadUntil r181.2) (zx_settled r181.2) (zx_known r181.2) (zx_tooLate r181.2) (zx_ended r181.2)) ++ ([(b3, .inl (cI, 48, .inl (za r78.2.1))), (b4, .inl (cI, 48, .inl (za r78.2.2.1))), (b5, .inl (cI, 48, .inl (za r78.2.2.2.1))), (b6, .inl (cI, 48, .inl (za r174.2)))] : va_W)) H → va_S A s.heap H locs → ∀ ls : Array Slot, lv_has ls 16 [(0, .ref b), (1, .ref (h 0)), (2, .ref (h2 0)), (3, .ref b3), (4, .ref b4), (5, .ref b5), (6, .ref b6), (7, .int (zI i8)), (9, .int (zI v37))] → W p l e room_1 s m #[Value.ref b] below meth c H locs 600000 7302250 Q (F0 m 645 ls []) := by
                                  intro H locs hP hS ls hl
                                  refine z_aload_n C0 dL_law_645 rfl (lv_at hl 2 rfl) ?_
                                  refine z_iconst C0 dL_law_646 ?_
                                  obtain ⟨r185, hc186, hf⟩ := zbind hf
                                  refine z_qVi (rest := []) C0 (zc31 hP) (zd31 (zD hD rfl)) hS (zmX3_many l D cI cZ h2 _ (zx_lag r181.2) (zx_dead r181.2) (zx_manner r181.2) (zx_setting r181.2) (zx_keptRow r181.2) (zx_liveRow r181.2) (zx_shiftedRow r181.2) (zx_groups r181.2) (zx_search r181.2) (zx_deadUntil r181.2) (zx_settled r181.2) (zx_known r181.2) (zx_tooLate r181.2) (zx_ended r181.2) 3 r185 hc186) (zkL_38 ⟨by decide, by decide⟩ C0.2.2.2.2.1) 3 rfl rfl rfl rfl hl.1 (Nat.le_of_ble_eq_true rfl) dL_law_647 ⟨Nat.le_refl _, Nat.le_refl _⟩ (fun H locs hP hS => ?_)
                                  have hP : va_P D vwCl ((wX h cI (zx_lag r183) (zx_dead r183) (zx_manner r183) (zx_setting r183) (zx_keptRow r183) (zx_liveRow r183) (zx_shiftedRow r183) (zx_groups r183) (zx_search r183) (zx_deadUntil r183) (zx_settled r183) (zx_known r183) (zx_tooLate r183) (zx_ended r183)) ++ (wX h2 cI (zx_lag r181.2) (zx_dead r181.2) (zx_manner r181.2) (zx_setting r181.2) (zx_keptRow r181.2) (zx_liveRow r181.2) (zx_shiftedRow r181.2) (zx_groups r181.2) (zx_search r181.2) (zx_deadUntil r181.2) (zx_settled r181.2) (zx_known r181.2) (zx_tooLate r181.2) (zx_ended r181.2)) ++ ([(b3, .inl (cI, 48, .inl (za r78.2.1))), (b4, .inl (cI, 48, .inl (za r78.2.2.1))), (b5, .inl (cI, 48, .inl (za r78.2.2.2.1))), (b6, .inl (cI, 48, .inl (za r174.2)))] : va_W)) H := zb31 hP
                                  refine z_istore C0 [(15, .int (zI r185)), (0, .ref b), (1, .ref (h 0)), (2, .ref (h2 0)), (3, .ref b3), (4, .ref b4), (5, .ref b5), (6, .ref b6), (7, .int (zI i8)), (9, .int (zI v37))] dL_law_650 hl (by decide) rfl (fun ls hl => ?_)
                                  refine z_aload_n C0 dL_law_652 rfl (lv_at hl 3 rfl) ?_
                                  obtain ⟨r187, hc188, hf⟩ := zbind hf
                                  refine z_qViS (rest := []) C0 (zc31 hP) (zd31 (zD hD rfl)) hS hZ (zmX3_end l D cI cZ h2 _ (zx_lag r181.2) (zx_dead r181.2) (zx_manner r181.2) (zx_setting r181.2) (zx_keptRow r181.2) (zx_liveRow r181.2) (zx_shiftedRow r181.2) (zx_groups r181.2) (zx_search r181.2) (zx_deadUntil r181.2) (zx_settled r181.2) (zx_known r181.2) (zx_tooLate r181.2) (zx_ended r181.2) r187 hc188) (zkL_89 ⟨by decide, by decide⟩ C0.2.2.2.2.1) 3 rfl rfl rfl rfl hl.1 (Nat.le_of_ble_eq_true rfl) dL_law_653 ⟨Nat.le_refl _, Nat.le_refl _⟩ (fun H locs hP hS => ?_)
                                  have hP : va_P D vwCl ((wX h cI (zx_lag r183) (zx_dead r183) (zx_manner r183) (zx_setting r183) (zx_keptRow r183) (zx_liveRow r183) (zx_shiftedRow r183) (zx_groups r183) (zx_search r183) (zx_deadUntil r183) (zx_settled r183) (zx_known r183) (zx_tooLate r183) (zx_ended r183)) ++ (wX h2 cI (zx_lag r181.2) (zx_dead r181.2) (zx_manner r181.2) (zx_setting r181.2) (zx_keptRow r181.2) r187.2.1 (zx_shiftedRow r181.2) r187.2.2.1 r187.2.2.2.1 r187.2.2.2.2.1 r187.2.2.2.2.2.1 r187.2.2.2.2.2.2.1 (zx_tooLate r181.2) r187.2.2.2.2.2.2.2) ++ ([(b3, .inl (cI, 48, .inl (za r78.2.1))), (b4, .inl (cI, 48, .inl (za r78.2.2.1))), (b5, .inl (cI, 48, .inl (za r78.2.2.2.1))), (b6, .inl (cI, 48, .inl (za r174.2)))] : va_W)) H := zb31 hP
                                  refine z_iload C0 dL_law_656 (lv_at hl 9 rfl) ?_
                                  refine z_iload C0 dL_law_658 (lv_at hl 0 rfl) ?_
                                  refine z_isub C0 dL_law_660 ?_
                                  refine z_icmpne C0 715 dL_law_661 (by decide) (fun c203 => ?_) (fun c203 => ?_)
                                  · have hf := zif_neg hf c203
                                    refine z_iconst C0 dL_law_715 ?_
                                    cases hf
                                  · have hf := zif_pos hf c203
                                    refine z_aload_n C0 dL_law_664 rfl (lv_at hl 2 rfl) ?_
                                    refine z_aload_n C0 dL_law_665 rfl (lv_at hl 3 rfl) ?_
                                    refine z_aload_n C0 dL_law_666 rfl (lv_at hl 1 rfl) ?_
                                    refine z_bipush C0 dL_law_667 (by decide +kernel) ?_
                                    refine z_iload C0 dL_law_669 (lv_at hl 8 rfl) ?_
                                    refine z_imul C0 dL_law_671 ?_
                                    refine z_bipush C0 dL_law_672 (by decide +kernel) ?_
                                    refine z_iadd C0 dL_law_674 ?_
                                    obtain ⟨r189, hc190, hf⟩ := zbind hf
                                    refine z_qSiX (rest := [.ref (h2 0), .ref (h 0)]) C0 (zc0 hP) (zd0 (zD hD rfl)) hS hZ hX (zmL_cell l D cI cZ b zL0 zsc _ ((60 * i8) + 9) r189 hc190) (zkL_9 ⟨by decide, by decide⟩ C0.2.2.2.2.1) rfl rfl hl.1 (Nat.le_of_ble_eq_true rfl) dL_law_675 ⟨Nat.le_refl _, Nat.le_refl _⟩ (fun H locs hP hS => ?_)
                                    have hP : va_P D vwCl ((wX h cI (zx_lag r183) (zx_dead r183) (zx_manner r183) (zx_setting r183) (zx_keptRow r183) (zx_liveRow r183) (zx_shiftedRow r183) (zx_groups r183) (zx_search r183) (zx_deadUntil r183) (zx_settled r183) (zx_known r183) (zx_tooLate r183) (zx_ended r183)) ++ (wX h2 cI (zx_lag r181.2) (zx_dead r181.2) (zx_manner r181.2) (zx_setting r181.2) (zx_keptRow r181.2) r187.2.1 (zx_shiftedRow r181.2) r187.2.2.1 r187.2.2.2.1 r187.2.2.2.2.1 r187.2.2.2.2.2.1 r187.2.2.2.2.2.2.1 (zx_tooLate r181.2) r187.2.2.2.2.2.2.2) ++ ([(b3, .inl (cI, 48, .inl (za r78.2.1))), (b4, .inl (cI, 48, .inl (za r78.2.2.1))), (b5, .inl (cI, 48, .inl (za r78.2.2.2.1))), (b6, .inl (cI, 48, .inl (za r174.2)))] : va_W)) H := zb0 hP
                                    obtain ⟨r191, hc192, hf⟩ := zbind hf
                                    refine z_qSi (rest := []) C0 (zc3b hP) (zd3b (zD hD rfl)) hS (zmL_same l D cI cZ h h2 _ r183 (zk_X (zx_lag r181.2) (zx_dead r181.2) (zx_manner r181.2) (zx_setting r181.2) (zx_keptRow r181.2) r187.2.1 (zx_shiftedRow r181.2) r187.2.2.1 r187.2.2.2.1 r187.2.2.2.2.1 r187.2.2.2.2.2.1 r187.2.2.2.2.2.2.1 (zx_tooLate r181.2) r187.2.2.2.2.2.2.2) r189 r191 hc192) (zkL_97 ⟨by decide, by decide⟩ C0.2.2.2.2.1) rfl rfl hl.1 (Nat.le_of_ble_eq_true rfl) dL_law_678 ⟨Nat.le_refl _, Nat.le_refl _⟩ (fun H locs hP hS => ?_)
                                    have hP : va_P D vwCl ((wX h cI (zx_lag r191.2.1) (zx_dead r191.2.1) (zx_manner r191.2.1) (zx_setting r191.2.1) (zx_keptRow r191.2.1) (zx_liveRow r191.2.1) (zx_shiftedRow r191.2.1) (zx_groups r191.2.1) (zx_search r191.2.1) (zx_deadUntil r191.2.1) (zx_settled r191.2.1) (zx_known r191.2.1) (zx_tooLate r191.2.1) (zx_ended r191.2.1)) ++ (wX h2 cI (zx_lag r191.2.2) (zx_dead r191.2.2) (zx_manner r191.2.2) (zx_setting r191.2.2) (zx_keptRow r191.2.2) (zx_liveRow r191.2.2) (zx_shiftedRow r191.2.2) (zx_groups r191.2.2) (zx_search r191.2.2) (zx_deadUntil r191.2.2) (zx_settled r191.2.2) (zx_known r191.2.2) (zx_tooLate r191.2.2) (zx_ended r191.2.2)) ++ ([(b3, .inl (cI, 48, .inl (za r78.2.1))), (b4, .inl (cI, 48, .inl (za r78.2.2.1))), (b5, .inl (cI, 48, .inl (za r78.2.2.2.1))), (b6, .inl (cI, 48, .inl (za r174.2)))] : va_W)) H := zb3b hP
                                    refine z_ifeq C0 715 dL_law_681 (by decide) (fun c202 => ?_) (fun c202 => ?_)
                                    · have hf := zif_pos hf c202
                                      refine z_iconst C0 dL_law_715 ?_
                                      cases hf
                                    · have hf := zif_neg hf c202
                                      refine z_aload_n C0 dL_law_684 rfl (lv_at hl 3 rfl) ?_
                                      obtain ⟨r193, hc194, hf⟩ := zbind hf
                                      refine z_qSi (rest := []) C0 (zc31 hP) (zd31 (zD hD rfl)) hS (zmL_sums l D cI cZ h2 _ r191.2.2 r193 hc194) (zkL_92 ⟨by decide, by decide⟩ C0.2.2.2.2.1) rfl rfl hl.1 (Nat.le_of_ble_eq_true rfl) dL_law_685 ⟨Nat.le_refl _, Nat.le_refl _⟩ (fun H locs hP hS => ?_)
                                      have hP : va_P D vwCl ((wX h cI (zx_lag r191.2.1) (zx_dead r191.2.1) (zx_manner r191.2.1) (zx_setting r191.2.1) (zx_keptRow r191.2.1) (zx_liveRow r191.2.1) (zx_shiftedRow r191.2.1) (zx_groups r191.2.1) (zx_search r191.2.1) (zx_deadUntil r191.2.1) (zx_settled r191.2.1) (zx_known r191.2.1) (zx_tooLate r191.2.1) (zx_ended r191.2.1)) ++ (wX h2 cI (zx_lag r191.2.2) (zx_dead r191.2.2) (zx_manner r191.2.2) (zx_setting r191.2.2) (zx_keptRow r191.2.2) (zx_liveRow r191.2.2) (zx_shiftedRow r191.2.2) (zx_groups r191.2.2) (zx_search r191.2.2) (zx_deadUntil r191.2.2) (zx_settled r191.2.2) (zx_known r191.2.2) (zx_tooLate r191.2.2) (zx_ended r191.2.2)) ++ ([(b3, .inl (cI, 48, .inl (za r78.2.1))), (b4, .inl (cI, 48, .inl (za r78.2.2.1))), (b5, .inl (cI, 48, .inl (za r78.2.2.2.1))), (b6, .inl (cI, 48, .inl (za r174.2)))] : va_W)) H := zb31 hP
                                      refine z_ifeq C0 715 dL_law_688 (by decide) (fun c201 => ?_) (fun c201 => ?_)
                                      · have hf := zif_pos hf c201
                                        refine z_iconst C0 dL_law_715 ?_
                                        cases hf
                                      · have hf := zif_neg hf c201
                                        refine z_aload_n C0 dL_law_691 rfl (lv_at hl 3 rfl) ?_
                                        refine z_iconst C0 dL_law_692 ?_
                                        refine z_iconst C0 dL_law_693 ?_
                                        refine z_iconst C0 dL_law_694 ?_
                                        refine z_iconst C0 dL_law_695 ?_
                                        obtain ⟨r195, hc196, hf⟩ := zbind hf
                                        refine z_qVi (rest := []) C0 (zc31 hP) (zd31 (zD hD rfl)) hS (zmX3_plane l D cI cZ h2 _ (zx_lag r191.2.2) (zx_dead r191.2.2) (zx_manner r191.2.2) (zx_setting r191.2.2) (zx_keptRow r191.2.2) (zx_liveRow r191.2.2) (zx_shiftedRow r191.2.2) (zx_groups r191.2.2) (zx_search r191.2.2) (zx_deadUntil r191.2.2) (zx_settled r191.2.2) (zx_known r191.2.2) (zx_tooLate r191.2.2) (zx_ended r191.2.2) 0 0 0 0 r195 hc196) (zkL_19 ⟨by decide, by decide⟩ C0.2.2.2.2.1) 3 rfl rfl rfl rfl hl.1 (Nat.le_of_ble_eq_true rfl) dL_law_696 ⟨Nat.le_refl _, Nat.le_refl _⟩ (fun H locs hP hS => ?_)
                                        have hP : va_P D vwCl ((wX h cI (zx_lag r191.2.1) (zx_dead r191.2.1) (zx_manner r191.2.1) (zx_setting r191.2.1) (zx_keptRow r191.2.1) (zx_liveRow r191.2.1) (zx_shiftedRow r191.2.1) (zx_groups r191.2.1) (zx_search r191.2.1) (zx_deadUntil r191.2.1) (zx_settled r191.2.1) (zx_known r191.2.1) (zx_tooLate r191.2.1) (zx_ended r191.2.1)) ++ (wX h2 cI r195.2.1 r195.2.2.1 r195.2.2.2 (zx_setting r191.2.2) (zx_keptRow r191.2.2) (zx_liveRow r191.2.2) (zx_shiftedRow r191.2.2) (zx_groups r191.2.2) (zx_search r191.2.2) (zx_deadUntil r191.2.2) (zx_settled r191.2.2) (zx_known r191.2.2) (zx_tooLate r191.2.2) (zx_ended r191.2.2)) ++ ([(b3, .inl (cI, 48, .inl (za r78.2.1))), (b4, .inl (cI, 48, .inl (za r78.2.2.1))), (b5, .inl (cI, 48, .inl (za r78.2.2.2.1))), (b6, .inl (cI, 48, .inl (za r174.2)))] : va_W)) H := zb31 hP
                                        refine z_bipush C0 dL_law_699 (by decide +kernel) ?_
                                        refine z_icmpne C0 715 dL_law_701 (by decide) (fun c200 => ?_) (fun c200 => ?_)
                                        · have hf := zif_neg hf c200
                                          refine z_iconst C0 dL_law_715 ?_
                                          cases hf
                                        · have hf := zif_pos hf c200
                                          refine z_aload_n C0 dL_law_704 rfl (lv_at hl 3 rfl) ?_
                                          refine z_iconst C0 dL_law_705 ?_
                                          refine z_iconst C0 dL_law_706 ?_
                                          obtain ⟨r197, hc198, hf⟩ := zbind hf
                                          refine z_qViS (rest := []) C0 (zc31 hP) (zd31 (zD hD rfl)) hS hZ (zmX3_tune l D cI cZ h2 _ r195.2.1 r195.2.2.1 r195.2.2.2 (zx_setting r191.2.2) (zx_keptRow r191.2.2) (zx_liveRow r191.2.2) (zx_shiftedRow r191.2.2) (zx_groups r191.2.2) (zx_search r191.2.2) (zx_deadUntil r191.2.2) (zx_settled r191.2.2) (zx_known r191.2.2) (zx_tooLate r191.2.2) (zx_ended r191.2.2) 0 0 r197 hc198) (zkL_25 ⟨by decide, by decide⟩ C0.2.2.2.2.1) 3 rfl rfl rfl rfl hl.1 (Nat.le_of_ble_eq_true rfl) dL_law_707 ⟨Nat.le_refl _, Nat.le_refl _⟩ (fun H locs hP hS => ?_)
                                          have hP : va_P D vwCl ((wX h cI (zx_lag r191.2.1) (zx_dead r191.2.1) (zx_manner r191.2.1) (zx_setting r191.2.1) (zx_keptRow r191.2.1) (zx_liveRow r191.2.1) (zx_shiftedRow r191.2.1) (zx_groups r191.2.1) (zx_search r191.2.1) (zx_deadUntil r191.2.1) (zx_settled r191.2.1) (zx_known r191.2.1) (zx_tooLate r191.2.1) (zx_ended r191.2.1)) ++ (wX h2 cI r195.2.1 r195.2.2.1 r195.2.2.2 r197.2 (zx_keptRow r191.2.2) (zx_liveRow r191.2.2) (zx_shiftedRow r191.2.2) (zx_groups r191.2.2) (zx_search r191.2.2) (zx_deadUntil r191.2.2) (zx_settled r191.2.2) (zx_known r191.2.2) (zx_tooLate r191.2.2) (zx_ended r191.2.2)) ++ ([(b3, .inl (cI, 48, .inl (za r78.2.1))), (b4, .inl (cI, 48, .inl (za r78.2.2.1))), (b5, .inl (cI, 48, .inl (za r78.2.2.2.1))), (b6, .inl (cI, 48, .inl (za r174.2)))] : va_W)) H := zb31 hP
                                          refine z_bipush C0 dL_law_710 (by decide +kernel) ?_
                                          refine z_icmpeq C0 717 dL_law_712 (by decide) (fun c199 => ?_) (fun c199 => ?_)
                                          · have hf := zif_pos hf c199
                                            refine z_iinc C0 [(7, .int (zI (i8 + 1))), (15, .int (zI r185)), (0, .ref b), (1, .ref (h 0)), (2, .ref (h2 0)), (3, .ref b3), (4, .ref b4), (5, .ref b5), (6, .ref b6), (9, .int (zI v37))] dL_law_717 hl 8 rfl (by decide) rfl (fun ls hl => ?_)
                                            refine z_goto C0 42 dL_law_720 (by decide) ?_
                                            exact ih r191.2.1 (zk_X r195.2.1 r195.2.2.1 r195.2.2.2 r197.2 (zx_keptRow r191.2.2) (zx_liveRow r191.2.2) (zx_shiftedRow r191.2.2) (zx_groups r191.2.2) (zx_search r191.2.2) (zx_deadUntil r191.2.2) (zx_settled r191.2.2) (zx_known r191.2.2) (zx_tooLate r191.2.2) (zx_ended r191.2.2)) r78.2.1 r78.2.2.1 r78.2.2.2.1 r174.2 (i8 + 1) out hf K _ _ hP hS ls (lv_sub hl [2, 3, 4, 5, 6, 7, 8, 0] rfl)
                                          · have hf := zif_neg hf c199
                                            refine z_iconst C0 dL_law_715 ?_
                                            cases hf
                                have hf := hE238
                                refine z_iflt C0 645 dL_law_581 (by decide) (fun c237 => ?_) (fun c237 => ?_)
                                · have hf := zif_pos hf c237
                                  cases hf
                                  exact J184 _ _ hP hS ls (lv_sub hl [0, 1, 2, 3, 4, 5, 6, 7, 8] rfl)
                                · have hf := zif_neg hf c237
                                  refine z_iconst C0 dL_law_584 ?_
                                  refine z_istore C0 [(15, .int (zI 0)), (0, .ref b), (1, .ref (h 0)), (2, .ref (h2 0)), (3, .ref b3), (4, .ref b4), (5, .ref b5), (6, .ref b6), (7, .int (zI i8)), (9, .int (zI v37)), (13, .int (zI v178))] dL_law_585 hl (by decide) rfl (fun ls hl => ?_)
                                  have L228 : ∀ (zn : Nat) (t215 : zXT) (i214 : Int) (out : zXT), fL_law_L587 zn zL0 zsc t215 r181.2 r78.2.1 r78.2.2.1 r78.2.2.2.1 r174.2 i8 v37 v178 i214 = some out → (∀ (H : Heap) (locs : List Loc), va_P D vwCl ((wX h cI (zx_lag out) (zx_dead out) (zx_manner out) (zx_setting out) (zx_keptRow out) (zx_liveRow out) (zx_shiftedRow out) (zx_groups out) (zx_search out) (zx_deadUntil out) (zx_settled out) (zx_known out) (zx_tooLate out) (zx_ended out)) ++ (wX h2 cI (zx_lag r181.2) (zx_dead r181.2) (zx_manner r181.2) (zx_setting r181.2) (zx_keptRow r181.2) (zx_liveRow r181.2) (zx_shiftedRow r181.2) (zx_groups r181.2) (zx_search r181.2) (zx_deadUntil r181.2) (zx_settled r181.2) (zx_known r181.2) (zx_tooLate r181.2) (zx_ended r181.2)) ++ ([(b3, .inl (cI, 48, .inl (za r78.2.1))), (b4, .inl (cI, 48, .inl (za r78.2.2.1))), (b5, .inl (cI, 48, .inl (za r78.2.2.2.1))), (b6, .inl (cI, 48, .inl (za r174.2)))] : va_W)) H → va_S A s.heap H locs → ∀ ls : Array Slot, lv_has ls 16 [(0, .ref b), (1, .ref (h 0)), (2, .ref (h2 0)), (3, .ref b3), (4, .ref b4), (5, .ref b5), (6, .ref b6), (7, .int (zI i8)), (9, .int (zI v37)), (13, .int (zI v178))] → W p l e room_1 s m #[Value.ref b] below meth c H locs 600000 7302250 Q (F0 m 624 ls [])) → ∀ (H : Heap) (locs : List Loc), va_P D vwCl ((wX h cI (zx_lag t215) (zx_dead t215) (zx_manner t215) (zx_setting t215) (zx_keptRow t215) (zx_liveRow t215) (zx_shiftedRow t215) (zx_groups t215) (zx_search t215) (zx_deadUntil t215) (zx_settled t215) (zx_known t215) (zx_tooLate t215) (zx_ended t215)) ++ (wX h2 cI (zx_lag r181.2) (zx_dead r181.2) (zx_manner r181.2) (zx_setting r181.2) (zx_keptRow r181.2) (zx_liveRow r181.2) (zx_shiftedRow r181.2) (zx_groups r181.2) (zx_search r181.2) (zx_deadUntil r181.2) (zx_settled r181.2) (zx_known r181.2) (zx_tooLate r181.2) (zx_ended r181.2)) ++ ([(b3, .inl (cI, 48, .inl (za r78.2.1))), (b4, .inl (cI, 48, .inl (za r78.2.2.1))), (b5, .inl (cI, 48, .inl (za r78.2.2.2.1))), (b6, .inl (cI, 48, .inl (za r174.2)))] : va_W)) H → va_S A s.heap H locs → ∀ ls : Array Slot, lv_has ls 16 [(0, .ref b), (1, .ref (h 0)), (2, .ref (h2 0)), (3, .ref b3), (4, .ref b4), (5, .ref b5), (6, .ref b6), (7, .int (zI i8)), (9, .int (zI v37)), (13, .int (zI v178)), (15, .int (zI i214))] → W p l e room_1 s m #[Value.ref b] below meth c H locs 600000 7302250 Q (F0 m 587 ls []) := by
                                    intro zn
                                    induction zn with
                                    | zero =>
                                      intro t215 i214 out hf
                                      rw [fL_law_L587_z] at hf
                                      cases hf
                                    | succ zn ih =>
                                      intro t215 i214 out hf K H locs hP hS ls hl
                                      rw [fL_law_L587_s] at hf
                                      refine z_iload C0 dL_law_587 (lv_at hl 10 rfl) ?_
                                      refine z_iload C0 dL_law_589 (lv_at hl 8 rfl) ?_
                                      refine z_icmpge C0 624 dL_law_591 (by decide) (fun c227 => ?_) (fun c227 => ?_)
                                      · have hf := zif_pos hf c227
                                        cases hf
                                        exact K _ _ hP hS ls (lv_sub hl [0, 1, 2, 3, 4, 5, 6, 7, 8, 9] rfl)
                                      · have hf := zif_neg hf c227
                                        refine z_aload_n C0 dL_law_594 rfl (lv_at hl 1 rfl) ?_
                                        refine z_aload_n C0 dL_law_595 rfl (lv_at hl 3 rfl) ?_
                                        refine z_iload C0 dL_law_596 (lv_at hl 10 rfl) ?_
                                        obtain ⟨g221, hf⟩ := zg_some hf
                                        refine z_iald C0 hP 54 rfl (Nat.le_of_ble_eq_true rfl) g221 dL_law_598 ?_
                                        refine z_aload C0 dL_law_599 (lv_at hl 4 rfl) ?_
                                        refine z_iload C0 dL_law_601 (lv_at hl 10 rfl) ?_
                                        obtain ⟨g222, hf⟩ := zg_some hf
                                        refine z_iald C0 hP 55 rfl (Nat.le_of_ble_eq_true rfl) g222 dL_law_603 ?_
                                        refine z_aload C0 dL_law_604 (lv_at hl 5 rfl) ?_
                                        refine z_iload C0 dL_law_606 (lv_at hl 10 rfl) ?_
                                        obtain ⟨g223, hf⟩ := zg_some hf
                                        refine z_iald C0 hP 56 rfl (Nat.le_of_ble_eq_true rfl) g223 dL_law_608 ?_
                                        obtain ⟨r224, hc225, hf⟩ := zbind hf
                                        refine z_qViS (rest := []) C0 (zc30 hP) (zd30 (zD hD rfl)) hS hZ (zmX3_pulse l D cI cZ h _ (zx_lag t215) (zx_dead t215) (zx_manner t215) (zx_setting t215) (zx_keptRow t215) (zx_liveRow t215) (zx_shiftedRow t215) (zx_groups t215) (zx_search t215) (zx_deadUntil t215) (zx_settled t215) (zx_known t215) (zx_tooLate t215) (zx_ended t215) (r78.2.1 (Int.toNat i214)) (r78.2.2.1 (Int.toNat i214)) (r78.2.2.2.1 (Int.toNat i214)) r224 hc225) (zkL_86 ⟨by decide, by decide⟩ C0.2.2.2.2.1) 3 rfl rfl rfl rfl hl.1 (Nat.le_of_ble_eq_true rfl) dL_law_609 ⟨Nat.le_refl _, Nat.le_refl _⟩ (fun H locs hP hS => ?_)
                                        have hP : va_P D vwCl ((wX h cI (zx_lag t215) (zx_dead t215) (zx_manner t215) (zx_setting t215) r224.2.1 r224.2.2.1 (zx_shiftedRow t215) r224.2.2.2.1 r224.2.2.2.2.1 r224.2.2.2.2.2.1 r224.2.2.2.2.2.2.1 r224.2.2.2.2.2.2.2.1 r224.2.2.2.2.2.2.2.2 (zx_ended t215)) ++ (wX h2 cI (zx_lag r181.2) (zx_dead r181.2) (zx_manner r181.2) (zx_setting r181.2) (zx_keptRow r181.2) (zx_liveRow r181.2) (zx_shiftedRow r181.2) (zx_groups r181.2) (zx_search r181.2) (zx_deadUntil r181.2) (zx_settled r181.2) (zx_known r181.2) (zx_tooLate r181.2) (zx_ended r181.2)) ++ ([(b3, .inl (cI, 48, .inl (za r78.2.1))), (b4, .inl (cI, 48, .inl (za r78.2.2.1))), (b5, .inl (cI, 48, .inl (za r78.2.2.2.1))), (b6, .inl (cI, 48, .inl (za r174.2)))] : va_W)) H := zb30 hP
                                        refine z_iconst C0 dL_law_612 ?_
                                        refine z_icmpeq C0 618 dL_law_613 (by decide) (fun c226 => ?_) (fun c226 => ?_)
                                        · have hf := zif_pos hf c226
                                          refine z_iinc C0 [(15, .int (zI (i214 + 1))), (0, .ref b), (1, .ref (h 0)), (2, .ref (h2 0)), (3, .ref b3), (4, .ref b4), (5, .ref b5), (6, .ref b6), (7, .int (zI i8)), (9, .int (zI v37)), (13, .int (zI v178))] dL_law_618 hl 10 rfl (by decide) rfl (fun ls hl => ?_)
                                          refine z_goto C0 587 dL_law_621 (by decide) ?_
                                          exact ih (zk_X (zx_lag t215) (zx_dead t215) (zx_manner t215) (zx_setting t215) r224.2.1 r224.2.2.1 (zx_shiftedRow t215) r224.2.2.2.1 r224.2.2.2.2.1 r224.2.2.2.2.2.1 r224.2.2.2.2.2.2.1 r224.2.2.2.2.2.2.2.1 r224.2.2.2.2.2.2.2.2 (zx_ended t215)) (i214 + 1) out hf K _ _ hP hS ls (lv_sub hl [1, 2, 3, 4, 5, 6, 7, 8, 9, 10, 0] rfl)
                                        · have hf := zif_neg hf c226
                                          refine z_iconst C0 dL_law_616 ?_
                                          cases hf
                                  obtain ⟨r229, hE230, hf⟩ := zbind hf
                                  refine L228 _ r181.1 0 r229 hE230 ?_ _ _ hP hS ls (lv_sub hl [1, 2, 3, 4, 5, 6, 7, 8, 9, 10, 0] rfl)
                                  intro H locs hP hS ls hl
                                  refine z_aload_n C0 dL_law_624 rfl (lv_at hl 1 rfl) ?_
                                  refine z_iconst C0 dL_law_625 ?_
                                  refine z_iload C0 dL_law_626 (lv_at hl 9 rfl) ?_
                                  refine z_bipush C0 dL_law_628 (by decide +kernel) ?_
                                  obtain ⟨r231, hc232, hf⟩ := zbind hf
                                  refine z_qViS (rest := []) C0 (zc30 hP) (zd30 (zD hD rfl)) hS hZ (zmX3_pulse l D cI cZ h _ (zx_lag r229) (zx_dead r229) (zx_manner r229) (zx_setting r229) (zx_keptRow r229) (zx_liveRow r229) (zx_shiftedRow r229) (zx_groups r229) (zx_search r229) (zx_deadUntil r229) (zx_settled r229) (zx_known r229) (zx_tooLate r229) (zx_ended r229) 5 v178 15 r231 hc232) (zkL_86 ⟨by decide, by decide⟩ C0.2.2.2.2.1) 3 rfl rfl rfl rfl hl.1 (Nat.le_of_ble_eq_true rfl) dL_law_630 ⟨Nat.le_refl _, Nat.le_refl _⟩ (fun H locs hP hS => ?_)
                                  have hP : va_P D vwCl ((wX h cI (zx_lag r229) (zx_dead r229) (zx_manner r229) (zx_setting r229) r231.2.1 r231.2.2.1 (zx_shiftedRow r229) r231.2.2.2.1 r231.2.2.2.2.1 r231.2.2.2.2.2.1 r231.2.2.2.2.2.2.1 r231.2.2.2.2.2.2.2.1 r231.2.2.2.2.2.2.2.2 (zx_ended r229)) ++ (wX h2 cI (zx_lag r181.2) (zx_dead r181.2) (zx_manner r181.2) (zx_setting r181.2) (zx_keptRow r181.2) (zx_liveRow r181.2) (zx_shiftedRow r181.2) (zx_groups r181.2) (zx_search r181.2) (zx_deadUntil r181.2) (zx_settled r181.2) (zx_known r181.2) (zx_tooLate r181.2) (zx_ended r181.2)) ++ ([(b3, .inl (cI, 48, .inl (za r78.2.1))), (b4, .inl (cI, 48, .inl (za r78.2.2.1))), (b5, .inl (cI, 48, .inl (za r78.2.2.2.1))), (b6, .inl (cI, 48, .inl (za r174.2)))] : va_W)) H := zb30 hP
                                  refine z_ifne C0 643 dL_law_633 (by decide) (fun c236 => ?_) (fun c236 => ?_)
                                  · have hf := zif_neg hf c236
                                    refine z_iconst C0 dL_law_643 ?_
                                    cases hf
                                  · have hf := zif_pos hf c236
                                    refine z_aload_n C0 dL_law_636 rfl (lv_at hl 1 rfl) ?_
                                    obtain ⟨r233, hc234, hf⟩ := zbind hf
                                    refine z_qViS (rest := []) C0 (zc30 hP) (zd30 (zD hD rfl)) hS hZ (zmX3_end l D cI cZ h _ (zx_lag r229) (zx_dead r229) (zx_manner r229) (zx_setting r229) r231.2.1 r231.2.2.1 (zx_shiftedRow r229) r231.2.2.2.1 r231.2.2.2.2.1 r231.2.2.2.2.2.1 r231.2.2.2.2.2.2.1 r231.2.2.2.2.2.2.2.1 r231.2.2.2.2.2.2.2.2 (zx_ended r229) r233 hc234) (zkL_89 ⟨by decide, by decide⟩ C0.2.2.2.2.1) 3 rfl rfl rfl rfl hl.1 (Nat.le_of_ble_eq_true rfl) dL_law_637 ⟨Nat.le_refl _, Nat.le_refl _⟩ (fun H locs hP hS => ?_)
                                    have hP : va_P D vwCl ((wX h cI (zx_lag r229) (zx_dead r229) (zx_manner r229) (zx_setting r229) r231.2.1 r233.2.1 (zx_shiftedRow r229) r233.2.2.1 r233.2.2.2.1 r233.2.2.2.2.1 r233.2.2.2.2.2.1 r233.2.2.2.2.2.2.1 r231.2.2.2.2.2.2.2.2 r233.2.2.2.2.2.2.2) ++ (wX h2 cI (zx_lag r181.2) (zx_dead r181.2) (zx_manner r181.2) (zx_setting r181.2) (zx_keptRow r181.2) (zx_liveRow r181.2) (zx_shiftedRow r181.2) (zx_groups r181.2) (zx_search r181.2) (zx_deadUntil r181.2) (zx_settled r181.2) (zx_known r181.2) (zx_tooLate r181.2) (zx_ended r181.2)) ++ ([(b3, .inl (cI, 48, .inl (za r78.2.1))), (b4, .inl (cI, 48, .inl (za r78.2.2.1))), (b5, .inl (cI, 48, .inl (za r78.2.2.2.1))), (b6, .inl (cI, 48, .inl (za r174.2)))] : va_W)) H := zb30 hP
                                    refine z_ifge C0 645 dL_law_640 (by decide) (fun c235 => ?_) (fun c235 => ?_)
                                    · have hf := zif_pos hf c235
                                      cases hf
                                      exact J184 _ _ hP hS ls (lv_sub hl [0, 1, 2, 3, 4, 5, 6, 7, 8] rfl)
                                    · have hf := zif_neg hf c235
                                      refine z_iconst C0 dL_law_643 ?_
                                      cases hf
                              have hf := hE255
                              refine z_iflt C0 579 dL_law_524 (by decide) (fun c254 => ?_) (fun c254 => ?_)
                              · have hf := zif_pos hf c254
                                cases hf
                                exact J182 _ _ hP hS ls (lv_sub hl [2, 3, 4, 5, 6, 7, 8, 9, 10, 1] rfl)
                              · have hf := zif_neg hf c254
                                refine z_aload_n C0 dL_law_527 rfl (lv_at hl 4 rfl) ?_
                                refine z_iconst C0 dL_law_528 ?_
                                refine z_iload C0 dL_law_529 (lv_at hl 1 rfl) ?_
                                refine z_iconst C0 dL_law_531 ?_
                                obtain ⟨r239, hc240, hf⟩ := zbind hf
                                refine z_qViS (rest := []) C0 (zc31 hP) (zd31 (zD hD rfl)) hS hZ (zmX3_pulse l D cI cZ h2 _ (zx_lag r174.1) (zx_dead r174.1) (zx_manner r174.1) (zx_setting r174.1) (zx_keptRow r174.1) (zx_liveRow r174.1) (zx_shiftedRow r174.1) (zx_groups r174.1) (zx_search r174.1) (zx_deadUntil r174.1) (zx_settled r174.1) (zx_known r174.1) (zx_tooLate r174.1) (zx_ended r174.1) 0 v178 0 r239 hc240) (zkL_86 ⟨by decide, by decide⟩ C0.2.2.2.2.1) 3 rfl rfl rfl rfl hl.1 (Nat.le_of_ble_eq_true rfl) dL_law_532 ⟨Nat.le_refl _, Nat.le_refl _⟩ (fun H locs hP hS => ?_)
                                have hP : va_P D vwCl ((wX h cI (zx_lag r78.1) (zx_dead r78.1) (zx_manner r78.1) (zx_setting r78.1) r84.2.1 r84.2.2.1 (zx_shiftedRow r78.1) r84.2.2.2.1 r84.2.2.2.2.1 r84.2.2.2.2.2.1 r84.2.2.2.2.2.2.1 r84.2.2.2.2.2.2.2.1 r84.2.2.2.2.2.2.2.2 r82.2.2.2.2.2.2.2) ++ (wX h2 cI (zx_lag r174.1) (zx_dead r174.1) (zx_manner r174.1) (zx_setting r174.1) r239.2.1 r239.2.2.1 (zx_shiftedRow r174.1) r239.2.2.2.1 r239.2.2.2.2.1 r239.2.2.2.2.2.1 r239.2.2.2.2.2.2.1 r239.2.2.2.2.2.2.2.1 r239.2.2.2.2.2.2.2.2 (zx_ended r174.1)) ++ ([(b3, .inl (cI, 48, .inl (za r78.2.1))), (b4, .inl (cI, 48, .inl (za r78.2.2.1))), (b5, .inl (cI, 48, .inl (za r78.2.2.2.1))), (b6, .inl (cI, 48, .inl (za r174.2)))] : va_W)) H := zb31 hP
                                refine z_ifne C0 577 dL_law_535 (by decide) (fun c253 => ?_) (fun c253 => ?_)
                                · have hf := zif_neg hf c253
                                  refine z_iconst C0 dL_law_577 ?_
                                  cases hf
                                · have hf := zif_pos hf c253
                                  refine z_aload_n C0 dL_law_538 rfl (lv_at hl 4 rfl) ?_
                                  refine z_iconst C0 dL_law_539 ?_
                                  obtain ⟨r241, hc242, hf⟩ := zbind hf
                                  refine z_qVi (rest := []) C0 (zc31 hP) (zd31 (zD hD rfl)) hS (zmX3_many l D cI cZ h2 _ (zx_lag r174.1) (zx_dead r174.1) (zx_manner r174.1) (zx_setting r174.1) r239.2.1 r239.2.2.1 (zx_shiftedRow r174.1) r239.2.2.2.1 r239.2.2.2.2.1 r239.2.2.2.2.2.1 r239.2.2.2.2.2.2.1 r239.2.2.2.2.2.2.2.1 r239.2.2.2.2.2.2.2.2 (zx_ended r174.1) 1 r241 hc242) (zkL_38 ⟨by decide, by decide⟩ C0.2.2.2.2.1) 3 rfl rfl rfl rfl hl.1 (Nat.le_of_ble_eq_true rfl) dL_law_540 ⟨Nat.le_refl _, Nat.le_refl _⟩ (fun H locs hP hS => ?_)
                                  have hP : va_P D vwCl ((wX h cI (zx_lag r78.1) (zx_dead r78.1) (zx_manner r78.1) (zx_setting r78.1) r84.2.1 r84.2.2.1 (zx_shiftedRow r78.1) r84.2.2.2.1 r84.2.2.2.2.1 r84.2.2.2.2.2.1 r84.2.2.2.2.2.2.1 r84.2.2.2.2.2.2.2.1 r84.2.2.2.2.2.2.2.2 r82.2.2.2.2.2.2.2) ++ (wX h2 cI (zx_lag r174.1) (zx_dead r174.1) (zx_manner r174.1) (zx_setting r174.1) r239.2.1 r239.2.2.1 (zx_shiftedRow r174.1) r239.2.2.2.1 r239.2.2.2.2.1 r239.2.2.2.2.2.1 r239.2.2.2.2.2.2.1 r239.2.2.2.2.2.2.2.1 r239.2.2.2.2.2.2.2.2 (zx_ended r174.1)) ++ ([(b3, .inl (cI, 48, .inl (za r78.2.1))), (b4, .inl (cI, 48, .inl (za r78.2.2.1))), (b5, .inl (cI, 48, .inl (za r78.2.2.2.1))), (b6, .inl (cI, 48, .inl (za r174.2)))] : va_W)) H := zb31 hP
                                  refine z_iconst C0 dL_law_543 ?_
                                  refine z_icmpne C0 577 dL_law_544 (by decide) (fun c252 => ?_) (fun c252 => ?_)
                                  · have hf := zif_neg hf c252
                                    refine z_iconst C0 dL_law_577 ?_
                                    cases hf
                                  · have hf := zif_pos hf c252
                                    refine z_aload_n C0 dL_law_547 rfl (lv_at hl 4 rfl) ?_
                                    refine z_iconst C0 dL_law_548 ?_
                                    obtain ⟨r243, hc244, hf⟩ := zbind hf
                                    refine z_qVi (rest := []) C0 (zc31 hP) (zd31 (zD hD rfl)) hS (zmX3_many l D cI cZ h2 _ (zx_lag r174.1) (zx_dead r174.1) (zx_manner r174.1) (zx_setting r174.1) r239.2.1 r239.2.2.1 (zx_shiftedRow r174.1) r239.2.2.2.1 r239.2.2.2.2.1 r239.2.2.2.2.2.1 r239.2.2.2.2.2.2.1 r239.2.2.2.2.2.2.2.1 r239.2.2.2.2.2.2.2.2 (zx_ended r174.1) 2 r243 hc244) (zkL_38 ⟨by decide, by decide⟩ C0.2.2.2.2.1) 3 rfl rfl rfl rfl hl.1 (Nat.le_of_ble_eq_true rfl) dL_law_549 ⟨Nat.le_refl _, Nat.le_refl _⟩ (fun H locs hP hS => ?_)
                                    have hP : va_P D vwCl ((wX h cI (zx_lag r78.1) (zx_dead r78.1) (zx_manner r78.1) (zx_setting r78.1) r84.2.1 r84.2.2.1 (zx_shiftedRow r78.1) r84.2.2.2.1 r84.2.2.2.2.1 r84.2.2.2.2.2.1 r84.2.2.2.2.2.2.1 r84.2.2.2.2.2.2.2.1 r84.2.2.2.2.2.2.2.2 r82.2.2.2.2.2.2.2) ++ (wX h2 cI (zx_lag r174.1) (zx_dead r174.1) (zx_manner r174.1) (zx_setting r174.1) r239.2.1 r239.2.2.1 (zx_shiftedRow r174.1) r239.2.2.2.1 r239.2.2.2.2.1 r239.2.2.2.2.2.1 r239.2.2.2.2.2.2.1 r239.2.2.2.2.2.2.2.1 r239.2.2.2.2.2.2.2.2 (zx_ended r174.1)) ++ ([(b3, .inl (cI, 48, .inl (za r78.2.1))), (b4, .inl (cI, 48, .inl (za r78.2.2.1))), (b5, .inl (cI, 48, .inl (za r78.2.2.2.1))), (b6, .inl (cI, 48, .inl (za r174.2)))] : va_W)) H := zb31 hP
                                    refine z_iload C0 dL_law_552 (lv_at hl 10 rfl) ?_
                                    refine z_icmpne C0 577 dL_law_554 (by decide) (fun c251 => ?_) (fun c251 => ?_)
                                    · have hf := zif_neg hf c251
                                      refine z_iconst C0 dL_law_577 ?_
                                      cases hf
                                    · have hf := zif_pos hf c251
                                      refine z_aload_n C0 dL_law_557 rfl (lv_at hl 4 rfl) ?_
                                      refine z_bipush C0 dL_law_558 (by decide +kernel) ?_
                                      obtain ⟨r245, hc246, hf⟩ := zbind hf
                                      refine z_qVi (rest := []) C0 (zc31 hP) (zd31 (zD hD rfl)) hS (zmX3_many l D cI cZ h2 _ (zx_lag r174.1) (zx_dead r174.1) (zx_manner r174.1) (zx_setting r174.1) r239.2.1 r239.2.2.1 (zx_shiftedRow r174.1) r239.2.2.2.1 r239.2.2.2.2.1 r239.2.2.2.2.2.1 r239.2.2.2.2.2.2.1 r239.2.2.2.2.2.2.2.1 r239.2.2.2.2.2.2.2.2 (zx_ended r174.1) 7 r245 hc246) (zkL_38 ⟨by decide, by decide⟩ C0.2.2.2.2.1) 3 rfl rfl rfl rfl hl.1 (Nat.le_of_ble_eq_true rfl) dL_law_560 ⟨Nat.le_refl _, Nat.le_refl _⟩ (fun H locs hP hS => ?_)
                                      have hP : va_P D vwCl ((wX h cI (zx_lag r78.1) (zx_dead r78.1) (zx_manner r78.1) (zx_setting r78.1) r84.2.1 r84.2.2.1 (zx_shiftedRow r78.1) r84.2.2.2.1 r84.2.2.2.2.1 r84.2.2.2.2.2.1 r84.2.2.2.2.2.2.1 r84.2.2.2.2.2.2.2.1 r84.2.2.2.2.2.2.2.2 r82.2.2.2.2.2.2.2) ++ (wX h2 cI (zx_lag r174.1) (zx_dead r174.1) (zx_manner r174.1) (zx_setting r174.1) r239.2.1 r239.2.2.1 (zx_shiftedRow r174.1) r239.2.2.2.1 r239.2.2.2.2.1 r239.2.2.2.2.2.1 r239.2.2.2.2.2.2.1 r239.2.2.2.2.2.2.2.1 r239.2.2.2.2.2.2.2.2 (zx_ended r174.1)) ++ ([(b3, .inl (cI, 48, .inl (za r78.2.1))), (b4, .inl (cI, 48, .inl (za r78.2.2.1))), (b5, .inl (cI, 48, .inl (za r78.2.2.2.1))), (b6, .inl (cI, 48, .inl (za r174.2)))] : va_W)) H := zb31 hP
                                      refine z_iload C0 dL_law_563 (lv_at hl 0 rfl) ?_
                                      refine z_icmpne C0 577 dL_law_565 (by decide) (fun c250 => ?_) (fun c250 => ?_)
                                      · have hf := zif_neg hf c250
                                        refine z_iconst C0 dL_law_577 ?_
                                        cases hf
                                      · have hf := zif_pos hf c250
                                        refine z_aload_n C0 dL_law_568 rfl (lv_at hl 3 rfl) ?_
                                        obtain ⟨r247, hc248, hf⟩ := zbind hf
                                        refine z_qVi (rest := []) C0 (zc30 hP) (zd30 (zD hD rfl)) hS (zmX3_anew l D cI cZ h _ (zx_lag r78.1) (zx_dead r78.1) (zx_manner r78.1) (zx_setting r78.1) r84.2.1 r84.2.2.1 (zx_shiftedRow r78.1) r84.2.2.2.1 r84.2.2.2.2.1 r84.2.2.2.2.2.1 r84.2.2.2.2.2.2.1 r84.2.2.2.2.2.2.2.1 r84.2.2.2.2.2.2.2.2 r82.2.2.2.2.2.2.2 r247 hc248) (zkL_76 ⟨by decide, by decide⟩ C0.2.2.2.2.1) 3 rfl rfl rfl rfl hl.1 (Nat.le_of_ble_eq_true rfl) dL_law_569 ⟨Nat.le_refl _, Nat.le_refl _⟩ (fun H locs hP hS => ?_)
                                        have hP : va_P D vwCl ((wX h cI (zx_lag r78.1) (zx_dead r78.1) (zx_manner r78.1) (zx_setting r78.1) r247.2.1 r247.2.2.1 (zx_shiftedRow r78.1) r247.2.2.2.1 r84.2.2.2.2.1 r247.2.2.2.2.1 r247.2.2.2.2.2.1 r247.2.2.2.2.2.2.1 r247.2.2.2.2.2.2.2.1 r247.2.2.2.2.2.2.2.2) ++ (wX h2 cI (zx_lag r174.1) (zx_dead r174.1) (zx_manner r174.1) (zx_setting r174.1) r239.2.1 r239.2.2.1 (zx_shiftedRow r174.1) r239.2.2.2.1 r239.2.2.2.2.1 r239.2.2.2.2.2.1 r239.2.2.2.2.2.2.1 r239.2.2.2.2.2.2.2.1 r239.2.2.2.2.2.2.2.2 (zx_ended r174.1)) ++ ([(b3, .inl (cI, 48, .inl (za r78.2.1))), (b4, .inl (cI, 48, .inl (za r78.2.2.1))), (b5, .inl (cI, 48, .inl (za r78.2.2.2.1))), (b6, .inl (cI, 48, .inl (za r174.2)))] : va_W)) H := zb30 hP
                                        refine z_iload C0 dL_law_572 (lv_at hl 10 rfl) ?_
                                        refine z_icmpeq C0 579 dL_law_574 (by decide) (fun c249 => ?_) (fun c249 => ?_)
                                        · have hf := zif_pos hf c249
                                          cases hf
                                          exact J182 _ _ hP hS ls (lv_sub hl [2, 3, 4, 5, 6, 7, 8, 9, 10, 1] rfl)
                                        · have hf := zif_neg hf c249
                                          refine z_iconst C0 dL_law_577 ?_
                                          cases hf
                            · have hf := zif_pos hf c256
                              refine z_iconst C0 dL_law_342 ?_
                              cases hf
                    · have hf := zif_neg hf c260
                      refine z_iconst C0 dL_law_142 ?_
                      cases hf
  obtain ⟨r269, hE270, hf⟩ := zbind hf
  refine L268 _ t t2 a3 a4 a5 a6 0 r269 hE270 ?_ _ _ hP hS ls (lv_sub hl [0, 1, 2, 3, 4, 5, 6, 7] rfl)
  intro H locs hP hS ls hl
  refine z_aload_n C0 dL_law_723 rfl (lv_at hl 0 rfl) ?_
  refine z_iconst C0 dL_law_724 ?_
  refine z_iconst C0 dL_law_725 ?_
  obtain ⟨r271, hc272, hf⟩ := zbind hf
  refine z_qViS (rest := []) C0 (zc30 hP) (zd30 (zD hD rfl)) hS hZ (zmX3_tune l D cI cZ h _ (zx_lag r269.1) (zx_dead r269.1) (zx_manner r269.1) (zx_setting r269.1) (zx_keptRow r269.1) (zx_liveRow r269.1) (zx_shiftedRow r269.1) (zx_groups r269.1) (zx_search r269.1) (zx_deadUntil r269.1) (zx_settled r269.1) (zx_known r269.1) (zx_tooLate r269.1) (zx_ended r269.1) 4 0 r271 hc272) (zkL_25 ⟨by decide, by decide⟩ C0.2.2.2.2.1) 3 rfl rfl rfl rfl hl.1 (Nat.le_of_ble_eq_true rfl) dL_law_726 ⟨Nat.le_refl _, Nat.le_refl _⟩ (fun H locs hP hS => ?_)
  have hP : va_P D vwCl ((wX h cI (zx_lag r269.1) (zx_dead r269.1) (zx_manner r269.1) r271.2 (zx_keptRow r269.1) (zx_liveRow r269.1) (zx_shiftedRow r269.1) (zx_groups r269.1) (zx_search r269.1) (zx_deadUntil r269.1) (zx_settled r269.1) (zx_known r269.1) (zx_tooLate r269.1) (zx_ended r269.1)) ++ (wX h2 cI (zx_lag r269.2.1) (zx_dead r269.2.1) (zx_manner r269.2.1) (zx_setting r269.2.1) (zx_keptRow r269.2.1) (zx_liveRow r269.2.1) (zx_shiftedRow r269.2.1) (zx_groups r269.2.1) (zx_search r269.2.1) (zx_deadUntil r269.2.1) (zx_settled r269.2.1) (zx_known r269.2.1) (zx_tooLate r269.2.1) (zx_ended r269.2.1)) ++ ([(b3, .inl (cI, 48, .inl (za r269.2.2.1))), (b4, .inl (cI, 48, .inl (za r269.2.2.2.1))), (b5, .inl (cI, 48, .inl (za r269.2.2.2.2.1))), (b6, .inl (cI, 48, .inl (za r269.2.2.2.2.2)))] : va_W)) H := zb30 hP
  refine z_bipush C0 dL_law_729 (by decide +kernel) ?_
  refine z_icmpne C0 811 dL_law_731 (by decide) (fun c291 => ?_) (fun c291 => ?_)
  · have hf := zif_neg hf c291
    refine z_iconst C0 dL_law_811 ?_
    cases hf
  · have hf := zif_pos hf c291
    refine z_aload_n C0 dL_law_734 rfl (lv_at hl 0 rfl) ?_
    refine z_iconst C0 dL_law_735 ?_
    refine z_bipush C0 dL_law_736 (by decide +kernel) ?_
    obtain ⟨r273, hc274, hf⟩ := zbind hf
    refine z_qViS (rest := []) C0 (zc30 hP) (zd30 (zD hD rfl)) hS hZ (zmX3_tune l D cI cZ h _ (zx_lag r269.1) (zx_dead r269.1) (zx_manner r269.1) r271.2 (zx_keptRow r269.1) (zx_liveRow r269.1) (zx_shiftedRow r269.1) (zx_groups r269.1) (zx_search r269.1) (zx_deadUntil r269.1) (zx_settled r269.1) (zx_known r269.1) (zx_tooLate r269.1) (zx_ended r269.1) 2 7 r273 hc274) (zkL_25 ⟨by decide, by decide⟩ C0.2.2.2.2.1) 3 rfl rfl rfl rfl hl.1 (Nat.le_of_ble_eq_true rfl) dL_law_738 ⟨Nat.le_refl _, Nat.le_refl _⟩ (fun H locs hP hS => ?_)
    have hP : va_P D vwCl ((wX h cI (zx_lag r269.1) (zx_dead r269.1) (zx_manner r269.1) r273.2 (zx_keptRow r269.1) (zx_liveRow r269.1) (zx_shiftedRow r269.1) (zx_groups r269.1) (zx_search r269.1) (zx_deadUntil r269.1) (zx_settled r269.1) (zx_known r269.1) (zx_tooLate r269.1) (zx_ended r269.1)) ++ (wX h2 cI (zx_lag r269.2.1) (zx_dead r269.2.1) (zx_manner r269.2.1) (zx_setting r269.2.1) (zx_keptRow r269.2.1) (zx_liveRow r269.2.1) (zx_shiftedRow r269.2.1) (zx_groups r269.2.1) (zx_search r269.2.1) (zx_deadUntil r269.2.1) (zx_settled r269.2.1) (zx_known r269.2.1) (zx_tooLate r269.2.1) (zx_ended r269.2.1)) ++ ([(b3, .inl (cI, 48, .inl (za r269.2.2.1))), (b4, .inl (cI, 48, .inl (za r269.2.2.2.1))), (b5, .inl (cI, 48, .inl (za r269.2.2.2.2.1))), (b6, .inl (cI, 48, .inl (za r269.2.2.2.2.2)))] : va_W)) H := zb30 hP
    refine z_bipush C0 dL_law_741 (by decide +kernel) ?_
    refine z_icmpne C0 811 dL_law_743 (by decide) (fun c290 => ?_) (fun c290 => ?_)
    · have hf := zif_neg hf c290
      refine z_iconst C0 dL_law_811 ?_
      cases hf
    · have hf := zif_pos hf c290
      refine z_aload_n C0 dL_law_746 rfl (lv_at hl 0 rfl) ?_
      refine z_bipush C0 dL_law_747 (by decide +kernel) ?_
      refine z_iconst C0 dL_law_749 ?_
      refine z_iconst C0 dL_law_750 ?_
      refine z_iconst C0 dL_law_751 ?_
      obtain ⟨r275, hc276, hf⟩ := zbind hf
      refine z_qVi (rest := []) C0 (zc30 hP) (zd30 (zD hD rfl)) hS (zmX3_plane l D cI cZ h _ (zx_lag r269.1) (zx_dead r269.1) (zx_manner r269.1) r273.2 (zx_keptRow r269.1) (zx_liveRow r269.1) (zx_shiftedRow r269.1) (zx_groups r269.1) (zx_search r269.1) (zx_deadUntil r269.1) (zx_settled r269.1) (zx_known r269.1) (zx_tooLate r269.1) (zx_ended r269.1) 6 0 0 0 r275 hc276) (zkL_19 ⟨by decide, by decide⟩ C0.2.2.2.2.1) 3 rfl rfl rfl rfl hl.1 (Nat.le_of_ble_eq_true rfl) dL_law_752 ⟨Nat.le_refl _, Nat.le_refl _⟩ (fun H locs hP hS => ?_)
      have hP : va_P D vwCl ((wX h cI r275.2.1 r275.2.2.1 r275.2.2.2 r273.2 (zx_keptRow r269.1) (zx_liveRow r269.1) (zx_shiftedRow r269.1) (zx_groups r269.1) (zx_search r269.1) (zx_deadUntil r269.1) (zx_settled r269.1) (zx_known r269.1) (zx_tooLate r269.1) (zx_ended r269.1)) ++ (wX h2 cI (zx_lag r269.2.1) (zx_dead r269.2.1) (zx_manner r269.2.1) (zx_setting r269.2.1) (zx_keptRow r269.2.1) (zx_liveRow r269.2.1) (zx_shiftedRow r269.2.1) (zx_groups r269.2.1) (zx_search r269.2.1) (zx_deadUntil r269.2.1) (zx_settled r269.2.1) (zx_known r269.2.1) (zx_tooLate r269.2.1) (zx_ended r269.2.1)) ++ ([(b3, .inl (cI, 48, .inl (za r269.2.2.1))), (b4, .inl (cI, 48, .inl (za r269.2.2.2.1))), (b5, .inl (cI, 48, .inl (za r269.2.2.2.2.1))), (b6, .inl (cI, 48, .inl (za r269.2.2.2.2.2)))] : va_W)) H := zb30 hP
      refine z_iconst C0 dL_law_755 ?_
      refine z_icmpne C0 811 dL_law_756 (by decide) (fun c289 => ?_) (fun c289 => ?_)
      · have hf := zif_neg hf c289
        refine z_iconst C0 dL_law_811 ?_
        cases hf
      · have hf := zif_pos hf c289
        refine z_aload_n C0 dL_law_759 rfl (lv_at hl 0 rfl) ?_
        refine z_iconst C0 dL_law_760 ?_
        refine z_bipush C0 dL_law_761 (by decide +kernel) ?_
        refine z_iconst C0 dL_law_763 ?_
        refine z_iconst C0 dL_law_764 ?_
        obtain ⟨r277, hc278, hf⟩ := zbind hf
        refine z_qVi (rest := []) C0 (zc30 hP) (zd30 (zD hD rfl)) hS (zmX3_plane l D cI cZ h _ r275.2.1 r275.2.2.1 r275.2.2.2 r273.2 (zx_keptRow r269.1) (zx_liveRow r269.1) (zx_shiftedRow r269.1) (zx_groups r269.1) (zx_search r269.1) (zx_deadUntil r269.1) (zx_settled r269.1) (zx_known r269.1) (zx_tooLate r269.1) (zx_ended r269.1) 0 31 0 0 r277 hc278) (zkL_19 ⟨by decide, by decide⟩ C0.2.2.2.2.1) 3 rfl rfl rfl rfl hl.1 (Nat.le_of_ble_eq_true rfl) dL_law_765 ⟨Nat.le_refl _, Nat.le_refl _⟩ (fun H locs hP hS => ?_)
        have hP : va_P D vwCl ((wX h cI r277.2.1 r277.2.2.1 r277.2.2.2 r273.2 (zx_keptRow r269.1) (zx_liveRow r269.1) (zx_shiftedRow r269.1) (zx_groups r269.1) (zx_search r269.1) (zx_deadUntil r269.1) (zx_settled r269.1) (zx_known r269.1) (zx_tooLate r269.1) (zx_ended r269.1)) ++ (wX h2 cI (zx_lag r269.2.1) (zx_dead r269.2.1) (zx_manner r269.2.1) (zx_setting r269.2.1) (zx_keptRow r269.2.1) (zx_liveRow r269.2.1) (zx_shiftedRow r269.2.1) (zx_groups r269.2.1) (zx_search r269.2.1) (zx_deadUntil r269.2.1) (zx_settled r269.2.1) (zx_known r269.2.1) (zx_tooLate r269.2.1) (zx_ended r269.2.1)) ++ ([(b3, .inl (cI, 48, .inl (za r269.2.2.1))), (b4, .inl (cI, 48, .inl (za r269.2.2.2.1))), (b5, .inl (cI, 48, .inl (za r269.2.2.2.2.1))), (b6, .inl (cI, 48, .inl (za r269.2.2.2.2.2)))] : va_W)) H := zb30 hP
        refine z_bipush C0 dL_law_768 (by decide +kernel) ?_
        refine z_icmpne C0 811 dL_law_770 (by decide) (fun c288 => ?_) (fun c288 => ?_)
        · have hf := zif_neg hf c288
          refine z_iconst C0 dL_law_811 ?_
          cases hf
        · have hf := zif_pos hf c288
          refine z_aload_n C0 dL_law_773 rfl (lv_at hl 0 rfl) ?_
          refine z_iconst C0 dL_law_774 ?_
          refine z_iconst C0 dL_law_775 ?_
          refine z_iconst C0 dL_law_776 ?_
          obtain ⟨r279, hc280, hf⟩ := zbind hf
          refine z_qVi (rest := []) C0 (zc30 hP) (zd30 (zD hD rfl)) hS (zmX3_twos l D cI cZ h _ r277.2.1 r277.2.2.1 r277.2.2.2 r273.2 (zx_keptRow r269.1) (zx_liveRow r269.1) (zx_shiftedRow r269.1) (zx_groups r269.1) (zx_search r269.1) (zx_deadUntil r269.1) (zx_settled r269.1) (zx_known r269.1) (zx_tooLate r269.1) (zx_ended r269.1) 0 0 0 r279 hc280) (zkL_60 ⟨by decide, by decide⟩ C0.2.2.2.2.1) 3 rfl rfl rfl rfl hl.1 (Nat.le_of_ble_eq_true rfl) dL_law_777 ⟨Nat.le_refl _, Nat.le_refl _⟩ (fun H locs hP hS => ?_)
          have hP : va_P D vwCl ((wX h cI r277.2.1 r277.2.2.1 r277.2.2.2 r273.2 (zx_keptRow r269.1) (zx_liveRow r269.1) (zx_shiftedRow r269.1) (zx_groups r269.1) (zx_search r269.1) (zx_deadUntil r269.1) (zx_settled r269.1) (zx_known r269.1) (zx_tooLate r269.1) (zx_ended r269.1)) ++ (wX h2 cI (zx_lag r269.2.1) (zx_dead r269.2.1) (zx_manner r269.2.1) (zx_setting r269.2.1) (zx_keptRow r269.2.1) (zx_liveRow r269.2.1) (zx_shiftedRow r269.2.1) (zx_groups r269.2.1) (zx_search r269.2.1) (zx_deadUntil r269.2.1) (zx_settled r269.2.1) (zx_known r269.2.1) (zx_tooLate r269.2.1) (zx_ended r269.2.1)) ++ ([(b3, .inl (cI, 48, .inl (za r269.2.2.1))), (b4, .inl (cI, 48, .inl (za r269.2.2.2.1))), (b5, .inl (cI, 48, .inl (za r269.2.2.2.2.1))), (b6, .inl (cI, 48, .inl (za r269.2.2.2.2.2)))] : va_W)) H := zb30 hP
          refine z_bipush C0 dL_law_780 (by decide +kernel) ?_
          refine z_icmpne C0 811 dL_law_782 (by decide) (fun c287 => ?_) (fun c287 => ?_)
          · have hf := zif_neg hf c287
            refine z_iconst C0 dL_law_811 ?_
            cases hf
          · have hf := zif_pos hf c287
            refine z_aload_n C0 dL_law_785 rfl (lv_at hl 0 rfl) ?_
            refine z_bipush C0 dL_law_786 (by decide +kernel) ?_
            obtain ⟨r281, hc282, hf⟩ := zbind hf
            refine z_qVi (rest := []) C0 (zc30 hP) (zd30 (zD hD rfl)) hS (zmX3_folds l D cI cZ h _ r277.2.1 r277.2.2.1 r277.2.2.2 r273.2 (zx_keptRow r269.1) (zx_liveRow r269.1) (zx_shiftedRow r269.1) (zx_groups r269.1) (zx_search r269.1) (zx_deadUntil r269.1) (zx_settled r269.1) (zx_known r269.1) (zx_tooLate r269.1) (zx_ended r269.1) 7 r281 hc282) (zkL_72 ⟨by decide, by decide⟩ C0.2.2.2.2.1) 3 rfl rfl rfl rfl hl.1 (Nat.le_of_ble_eq_true rfl) dL_law_788 ⟨Nat.le_refl _, Nat.le_refl _⟩ (fun H locs hP hS => ?_)
            have hP : va_P D vwCl ((wX h cI r277.2.1 r277.2.2.1 r277.2.2.2 r273.2 (zx_keptRow r269.1) (zx_liveRow r269.1) (zx_shiftedRow r269.1) (zx_groups r269.1) (zx_search r269.1) (zx_deadUntil r269.1) (zx_settled r269.1) (zx_known r269.1) (zx_tooLate r269.1) (zx_ended r269.1)) ++ (wX h2 cI (zx_lag r269.2.1) (zx_dead r269.2.1) (zx_manner r269.2.1) (zx_setting r269.2.1) (zx_keptRow r269.2.1) (zx_liveRow r269.2.1) (zx_shiftedRow r269.2.1) (zx_groups r269.2.1) (zx_search r269.2.1) (zx_deadUntil r269.2.1) (zx_settled r269.2.1) (zx_known r269.2.1) (zx_tooLate r269.2.1) (zx_ended r269.2.1)) ++ ([(b3, .inl (cI, 48, .inl (za r269.2.2.1))), (b4, .inl (cI, 48, .inl (za r269.2.2.2.1))), (b5, .inl (cI, 48, .inl (za r269.2.2.2.2.1))), (b6, .inl (cI, 48, .inl (za r269.2.2.2.2.2)))] : va_W)) H := zb30 hP
            refine z_bipush C0 dL_law_791 (by decide +kernel) ?_
            refine z_icmpne C0 811 dL_law_793 (by decide) (fun c286 => ?_) (fun c286 => ?_)
            · have hf := zif_neg hf c286
              refine z_iconst C0 dL_law_811 ?_
              cases hf
            · have hf := zif_pos hf c286
              refine z_aload_n C0 dL_law_796 rfl (lv_at hl 0 rfl) ?_
              refine z_bipush C0 dL_law_797 (by decide +kernel) ?_
              obtain ⟨r283, hc284, hf⟩ := zbind hf
              refine z_qVi (rest := []) C0 (zc30 hP) (zd30 (zD hD rfl)) hS (zmX3_many l D cI cZ h _ r277.2.1 r277.2.2.1 r277.2.2.2 r273.2 (zx_keptRow r269.1) (zx_liveRow r269.1) (zx_shiftedRow r269.1) (zx_groups r269.1) (zx_search r269.1) (zx_deadUntil r269.1) (zx_settled r269.1) (zx_known r269.1) (zx_tooLate r269.1) (zx_ended r269.1) 13 r283 hc284) (zkL_38 ⟨by decide, by decide⟩ C0.2.2.2.2.1) 3 rfl rfl rfl rfl hl.1 (Nat.le_of_ble_eq_true rfl) dL_law_799 ⟨Nat.le_refl _, Nat.le_refl _⟩ (fun H locs hP hS => ?_)
              have hP : va_P D vwCl ((wX h cI r277.2.1 r277.2.2.1 r277.2.2.2 r273.2 (zx_keptRow r269.1) (zx_liveRow r269.1) (zx_shiftedRow r269.1) (zx_groups r269.1) (zx_search r269.1) (zx_deadUntil r269.1) (zx_settled r269.1) (zx_known r269.1) (zx_tooLate r269.1) (zx_ended r269.1)) ++ (wX h2 cI (zx_lag r269.2.1) (zx_dead r269.2.1) (zx_manner r269.2.1) (zx_setting r269.2.1) (zx_keptRow r269.2.1) (zx_liveRow r269.2.1) (zx_shiftedRow r269.2.1) (zx_groups r269.2.1) (zx_search r269.2.1) (zx_deadUntil r269.2.1) (zx_settled r269.2.1) (zx_known r269.2.1) (zx_tooLate r269.2.1) (zx_ended r269.2.1)) ++ ([(b3, .inl (cI, 48, .inl (za r269.2.2.1))), (b4, .inl (cI, 48, .inl (za r269.2.2.2.1))), (b5, .inl (cI, 48, .inl (za r269.2.2.2.2.1))), (b6, .inl (cI, 48, .inl (za r269.2.2.2.2.2)))] : va_W)) H := zb30 hP
              refine z_bipush C0 dL_law_802 (by decide +kernel) ?_
              refine z_icmpne C0 811 dL_law_804 (by decide) (fun c285 => ?_) (fun c285 => ?_)
              · have hf := zif_neg hf c285
                refine z_iconst C0 dL_law_811 ?_
                cases hf
              · have hf := zif_pos hf c285
                refine z_iconst C0 dL_law_807 ?_
                refine z_goto C0 812 dL_law_808 (by decide) ?_
                exact hret hS dL_law_812
