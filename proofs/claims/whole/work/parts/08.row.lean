set_option maxHeartbeats 4000000 in
set_option maxRecDepth 100000 in
theorem zmX2_isBehind (l : Launch) (D : va_G) (cI cZ : ClassId) (a0 : Nat) (a1 : Nat) (a2 : Nat) (a3 : Nat) (sz : Nat) (whenV : (Nat → Int)) (planeV : (Nat → Int)) (stripV : (Nat → Int)) (sizeV : Int) (p1 : Int) (p2 : Int) (p3 : Int) (p4 : Int) (o : Int) (hf : fX2_isBehind (zk_R whenV planeV stripV sizeV) p1 p2 p3 p4 = some o) : Met l yX2_isBehind (zW yX2_isBehind cX2_isBehind 5 (some .boolean)) rmX2_isBehind (va_Pc [.ref a0, .int (zI p1), .int (zI p2), .int (zI p3), .int (zI p4)] (zPre D cI cZ ((wR a0 a1 a2 a3 cI whenV planeV stripV sizeV)) sz)) (va_Qi (fun r' (_ : Unit) => r' = zI o) (fun _ t => va_P D vwCl ((wR a0 a1 a2 a3 cI whenV planeV stripV sizeV)) t.heap) (va_A ((wR a0 a1 a2 a3 cI whenV planeV stripV sizeV)) sz)) 0 0 (va_A ((wR a0 a1 a2 a3 cI whenV planeV stripV sizeV)) sz) := by
  unfold fX2_isBehind at hf
  refine z_enter_z (own := RX2) (by decide +kernel) rfl (Nat.le_of_ble_eq_true rfl) ?_
  intro p e s m args below meth c A Q C0 hP hD hS hret ls hl
  have hl : lv_has ls 5 [(0, .ref a0), (1, .int (zI p1)), (2, .int (zI p2)), (3, .int (zI p3)), (4, .int (zI p4))] := hl
  refine z_aload_n C0 dX2_isBehind_0 rfl (lv_at hl 0 rfl) ?_
  refine zgX2_9 C0 hP 0 rfl (.ref a1) rfl dX2_isBehind_1 ?_
  refine z_iload_n C0 dX2_isBehind_4 rfl (lv_at hl 1 rfl) ?_
  obtain ⟨g1, hf⟩ := zg_some hf
  refine z_iald C0 hP 1 rfl (Nat.le_of_ble_eq_true rfl) g1 dX2_isBehind_5 ?_
  refine z_iload_n C0 dX2_isBehind_6 rfl (lv_at hl 2 rfl) ?_
  refine z_icmpeq C0 26 dX2_isBehind_7 (by decide) (fun c10 => ?_) (fun c10 => ?_)
  · have hf := zif_pos hf c10
    refine z_aload_n C0 dX2_isBehind_26 rfl (lv_at hl 0 rfl) ?_
    refine zgX2_15 C0 hP 0 rfl (.ref a2) rfl dX2_isBehind_27 ?_
    refine z_iload_n C0 dX2_isBehind_30 rfl (lv_at hl 1 rfl) ?_
    obtain ⟨g2, hf⟩ := zg_some hf
    refine z_iald C0 hP 2 rfl (Nat.le_of_ble_eq_true rfl) g2 dX2_isBehind_31 ?_
    refine z_iload_n C0 dX2_isBehind_32 rfl (lv_at hl 3 rfl) ?_
    refine z_icmpeq C0 52 dX2_isBehind_33 (by decide) (fun c7 => ?_) (fun c7 => ?_)
    · have hf := zif_pos hf c7
      refine z_aload_n C0 dX2_isBehind_52 rfl (lv_at hl 0 rfl) ?_
      refine zgX2_18 C0 hP 0 rfl (.ref a3) rfl dX2_isBehind_53 ?_
      refine z_iload_n C0 dX2_isBehind_56 rfl (lv_at hl 1 rfl) ?_
      obtain ⟨g3, hf⟩ := zg_some hf
      refine z_iald C0 hP 3 rfl (Nat.le_of_ble_eq_true rfl) g3 dX2_isBehind_57 ?_
      refine z_iload C0 dX2_isBehind_58 (lv_at hl 4 rfl) ?_
      refine z_icmple C0 67 dX2_isBehind_60 (by decide) (fun c4 => ?_) (fun c4 => ?_)
      · have hf := zif_pos hf c4
        refine z_iconst C0 dX2_isBehind_67 ?_
        cases hf
        exact hret (Or.inl rfl) hP hS dX2_isBehind_68
      · have hf := zif_neg hf c4
        refine z_iconst C0 dX2_isBehind_63 ?_
        refine z_goto C0 68 dX2_isBehind_64 (by decide) ?_
        cases hf
        exact hret (Or.inr rfl) hP hS dX2_isBehind_68
    · have hf := zif_neg hf c7
      refine z_aload_n C0 dX2_isBehind_36 rfl (lv_at hl 0 rfl) ?_
      refine zgX2_15 C0 hP 0 rfl (.ref a2) rfl dX2_isBehind_37 ?_
      refine z_iload_n C0 dX2_isBehind_40 rfl (lv_at hl 1 rfl) ?_
      obtain ⟨g5, hf⟩ := zg_some hf
      refine z_iald C0 hP 2 rfl (Nat.le_of_ble_eq_true rfl) g5 dX2_isBehind_41 ?_
      refine z_iload_n C0 dX2_isBehind_42 rfl (lv_at hl 3 rfl) ?_
      refine z_icmple C0 50 dX2_isBehind_43 (by decide) (fun c6 => ?_) (fun c6 => ?_)
      · have hf := zif_pos hf c6
        refine z_iconst C0 dX2_isBehind_50 ?_
        cases hf
        exact hret (Or.inl rfl) hP hS dX2_isBehind_51
      · have hf := zif_neg hf c6
        refine z_iconst C0 dX2_isBehind_46 ?_
        refine z_goto C0 51 dX2_isBehind_47 (by decide) ?_
        cases hf
        exact hret (Or.inr rfl) hP hS dX2_isBehind_51
  · have hf := zif_neg hf c10
    refine z_aload_n C0 dX2_isBehind_10 rfl (lv_at hl 0 rfl) ?_
    refine zgX2_9 C0 hP 0 rfl (.ref a1) rfl dX2_isBehind_11 ?_
    refine z_iload_n C0 dX2_isBehind_14 rfl (lv_at hl 1 rfl) ?_
    obtain ⟨g8, hf⟩ := zg_some hf
    refine z_iald C0 hP 1 rfl (Nat.le_of_ble_eq_true rfl) g8 dX2_isBehind_15 ?_
    refine z_iload_n C0 dX2_isBehind_16 rfl (lv_at hl 2 rfl) ?_
    refine z_icmple C0 24 dX2_isBehind_17 (by decide) (fun c9 => ?_) (fun c9 => ?_)
    · have hf := zif_pos hf c9
      refine z_iconst C0 dX2_isBehind_24 ?_
      cases hf
      exact hret (Or.inl rfl) hP hS dX2_isBehind_25
    · have hf := zif_neg hf c9
      refine z_iconst C0 dX2_isBehind_20 ?_
      refine z_goto C0 25 dX2_isBehind_21 (by decide) ?_
      cases hf
      exact hret (Or.inr rfl) hP hS dX2_isBehind_25
set_option maxHeartbeats 4000000 in
set_option maxRecDepth 100000 in
theorem zmX2_put (l : Launch) (D : va_G) (cI cZ : ClassId) (a0 : Nat) (a1 : Nat) (a2 : Nat) (a3 : Nat) (sz : Nat) (whenV : (Nat → Int)) (planeV : (Nat → Int)) (stripV : (Nat → Int)) (sizeV : Int) (p1 : Int) (p2 : Int) (p3 : Int) (p4 : Int) (o : (Nat → Int) × (Nat → Int) × (Nat → Int)) (hf : fX2_put (zk_R whenV planeV stripV sizeV) p1 p2 p3 p4 = some o) : Met l yX2_put (zW yX2_put cX2_put 5 none) rmX2_put (va_Pc [.ref a0, .int (zI p1), .int (zI p2), .int (zI p3), .int (zI p4)] (zPre D cI cZ ((wR a0 a1 a2 a3 cI whenV planeV stripV sizeV)) sz)) (va_Qv (fun (_ : Unit) => True) (fun _ t => va_P D vwCl ((wR a0 a1 a2 a3 cI o.1 o.2.1 o.2.2 sizeV)) t.heap) (va_A ((wR a0 a1 a2 a3 cI whenV planeV stripV sizeV)) sz)) 0 0 (va_A ((wR a0 a1 a2 a3 cI whenV planeV stripV sizeV)) sz) := by
  unfold fX2_put at hf
  refine z_enter_v (own := RX2) (by decide +kernel) rfl (Nat.le_of_ble_eq_true rfl) ?_
  intro p e s m args below meth c A Q C0 hP hD hS hret ls hl
  have hl : lv_has ls 5 [(0, .ref a0), (1, .int (zI p1)), (2, .int (zI p2)), (3, .int (zI p3)), (4, .int (zI p4))] := hl
  refine z_aload_n C0 dX2_put_0 rfl (lv_at hl 0 rfl) ?_
  refine zgX2_9 C0 hP 0 rfl (.ref a1) rfl dX2_put_1 ?_
  refine z_iload_n C0 dX2_put_4 rfl (lv_at hl 1 rfl) ?_
  refine z_iload_n C0 dX2_put_5 rfl (lv_at hl 2 rfl) ?_
  obtain ⟨g1, hf⟩ := zg_some hf
  refine z_iast C0 hP (zD hD rfl) hS 1 rfl (Nat.le_of_ble_eq_true rfl) g1 dX2_put_6 (fun H locs hP hS => ?_)
  have hP : va_P D vwCl ((wR a0 a1 a2 a3 cI (zu whenV p1 p2) planeV stripV sizeV)) H := hP
  refine z_aload_n C0 dX2_put_7 rfl (lv_at hl 0 rfl) ?_
  refine zgX2_15 C0 hP 0 rfl (.ref a2) rfl dX2_put_8 ?_
  refine z_iload_n C0 dX2_put_11 rfl (lv_at hl 1 rfl) ?_
  refine z_iload_n C0 dX2_put_12 rfl (lv_at hl 3 rfl) ?_
  obtain ⟨g2, hf⟩ := zg_some hf
  refine z_iast C0 hP (zD hD rfl) hS 2 rfl (Nat.le_of_ble_eq_true rfl) g2 dX2_put_13 (fun H locs hP hS => ?_)
  have hP : va_P D vwCl ((wR a0 a1 a2 a3 cI (zu whenV p1 p2) (zu planeV p1 p3) stripV sizeV)) H := hP
  refine z_aload_n C0 dX2_put_14 rfl (lv_at hl 0 rfl) ?_
  refine zgX2_18 C0 hP 0 rfl (.ref a3) rfl dX2_put_15 ?_
  refine z_iload_n C0 dX2_put_18 rfl (lv_at hl 1 rfl) ?_
  refine z_iload C0 dX2_put_19 (lv_at hl 4 rfl) ?_
  obtain ⟨g3, hf⟩ := zg_some hf
  refine z_iast C0 hP (zD hD rfl) hS 3 rfl (Nat.le_of_ble_eq_true rfl) g3 dX2_put_21 (fun H locs hP hS => ?_)
  have hP : va_P D vwCl ((wR a0 a1 a2 a3 cI (zu whenV p1 p2) (zu planeV p1 p3) (zu stripV p1 p4) sizeV)) H := hP
  cases hf
  exact hret hP hS dX2_put_22
set_option maxHeartbeats 4000000 in
set_option maxRecDepth 100000 in
theorem zmX2_insert (l : Launch) (D : va_G) (cI cZ : ClassId) (a0 : Nat) (a1 : Nat) (a2 : Nat) (a3 : Nat) (sz : Nat) (whenV : (Nat → Int)) (planeV : (Nat → Int)) (stripV : (Nat → Int)) (sizeV : Int) (p1 : Int) (p2 : Int) (p3 : Int) (o : (Nat → Int) × (Nat → Int) × (Nat → Int) × Int) (hf : fX2_insert (zk_R whenV planeV stripV sizeV) p1 p2 p3 = some o) : Met l yX2_insert (zW yX2_insert cX2_insert 5 none) rmX2_insert (va_Pc [.ref a0, .int (zI p1), .int (zI p2), .int (zI p3)] (zPre D cI cZ ((wR a0 a1 a2 a3 cI whenV planeV stripV sizeV)) sz)) (va_Qv (fun (_ : Unit) => True) (fun _ t => va_P D vwCl ((wR a0 a1 a2 a3 cI o.1 o.2.1 o.2.2.1 o.2.2.2)) t.heap) (va_A ((wR a0 a1 a2 a3 cI whenV planeV stripV sizeV)) sz)) 0 0 (va_A ((wR a0 a1 a2 a3 cI whenV planeV stripV sizeV)) sz) := by
  unfold fX2_insert at hf
  refine z_enter_v (own := RX2) (by decide +kernel) rfl (Nat.le_of_ble_eq_true rfl) ?_
  intro p e s m args below meth c A Q C0 hP hD hS hret ls hl
  have hl : lv_has ls 5 [(0, .ref a0), (1, .int (zI p1)), (2, .int (zI p2)), (3, .int (zI p3))] := hl
  refine z_aload_n C0 dX2_insert_0 rfl (lv_at hl 0 rfl) ?_
  refine zgX2_21 C0 hP 0 rfl (.int (zI sizeV)) rfl dX2_insert_1 ?_
  refine z_sipush C0 dX2_insert_4 (by decide +kernel) ?_
  refine z_icmplt C0 11 dX2_insert_7 (by decide) (fun c24 => ?_) (fun c24 => ?_)
  · have hf := zif_pos hf c24
    refine z_aload_n C0 dX2_insert_11 rfl (lv_at hl 0 rfl) ?_
    refine zgX2_21 C0 hP 0 rfl (.int (zI sizeV)) rfl dX2_insert_12 ?_
    refine z_istore C0 [(4, .int (zI sizeV)), (0, .ref a0), (1, .int (zI p1)), (2, .int (zI p2)), (3, .int (zI p3))] dX2_insert_15 hl (by decide) rfl (fun ls hl => ?_)
    have L19 : ∀ (zn : Nat) (i5 : Int) (k6 : (Nat → Int)) (k7 : (Nat → Int)) (k8 : (Nat → Int)) (out : Int × (Nat → Int) × (Nat → Int) × (Nat → Int)), fX2_insert_L17 zn (zk_R whenV planeV stripV sizeV) p1 p2 p3 i5 k6 k7 k8 = some out → (∀ (H : Heap) (locs : List Loc), va_P D vwCl ((wR a0 a1 a2 a3 cI out.2.1 out.2.2.1 out.2.2.2 sizeV)) H → va_S A s.heap H locs → ∀ ls : Array Slot, lv_has ls 5 [(0, .ref a0), (1, .int (zI p1)), (2, .int (zI p2)), (3, .int (zI p3)), (4, .int (zI out.1))] → W p l e rmX2_insert s m args below meth c H locs 0 0 Q (F0 m 75 ls [])) → ∀ (H : Heap) (locs : List Loc), va_P D vwCl ((wR a0 a1 a2 a3 cI k6 k7 k8 sizeV)) H → va_S A s.heap H locs → ∀ ls : Array Slot, lv_has ls 5 [(0, .ref a0), (1, .int (zI p1)), (2, .int (zI p2)), (3, .int (zI p3)), (4, .int (zI i5))] → W p l e rmX2_insert s m args below meth c H locs 0 0 Q (F0 m 17 ls []) := by
      intro zn
      induction zn with
      | zero =>
        intro i5 k6 k7 k8 out hf
        rw [fX2_insert_L17_z] at hf
        cases hf
      | succ zn ih =>
        intro i5 k6 k7 k8 out hf K H locs hP hS ls hl
        rw [fX2_insert_L17_s] at hf
        refine z_iload C0 dX2_insert_17 (lv_at hl 4 rfl) ?_
        refine z_ifle C0 75 dX2_insert_19 (by decide) (fun c18 => ?_) (fun c18 => ?_)
        · have hf := zif_pos hf c18
          cases hf
          exact K _ _ hP hS ls (lv_sub hl [0, 1, 2, 3, 4] rfl)
        · have hf := zif_neg hf c18
          refine z_aload_n C0 dX2_insert_22 rfl (lv_at hl 0 rfl) ?_
          refine z_iload C0 dX2_insert_23 (lv_at hl 4 rfl) ?_
          refine z_iconst C0 dX2_insert_25 ?_
          refine z_isub C0 dX2_insert_26 ?_
          refine z_iload_n C0 dX2_insert_27 rfl (lv_at hl 1 rfl) ?_
          refine z_iload_n C0 dX2_insert_28 rfl (lv_at hl 2 rfl) ?_
          refine z_iload_n C0 dX2_insert_29 rfl (lv_at hl 3 rfl) ?_
          obtain ⟨r10, hc11, hf⟩ := zbind hf
          refine z_callFi (rest := []) C0 hP (zD hD rfl) hS (zmX2_isBehind l D cI cZ a0 a1 a2 a3 _ k6 k7 k8 sizeV (i5 - 1) p1 p2 p3 r10 hc11) (zkX2_25 ⟨by decide, by decide⟩ C0.2.2.2.2.1) 2 rfl rfl rfl rfl hl.1 (Nat.le_of_ble_eq_true rfl) dX2_insert_30 ⟨Nat.zero_le _, Nat.zero_le _⟩ (fun H locs hP hS => ?_)
          have hP : va_P D vwCl ((wR a0 a1 a2 a3 cI k6 k7 k8 sizeV)) H := hP
          refine z_ifeq C0 75 dX2_insert_33 (by decide) (fun c17 => ?_) (fun c17 => ?_)
          · have hf := zif_pos hf c17
            cases hf
            exact K _ _ hP hS ls (lv_sub hl [0, 1, 2, 3, 4] rfl)
          · have hf := zif_neg hf c17
            refine z_aload_n C0 dX2_insert_36 rfl (lv_at hl 0 rfl) ?_
            refine z_iload C0 dX2_insert_37 (lv_at hl 4 rfl) ?_
            refine z_aload_n C0 dX2_insert_39 rfl (lv_at hl 0 rfl) ?_
            refine zgX2_9 C0 hP 0 rfl (.ref a1) rfl dX2_insert_40 ?_
            refine z_iload C0 dX2_insert_43 (lv_at hl 4 rfl) ?_
            refine z_iconst C0 dX2_insert_45 ?_
            refine z_isub C0 dX2_insert_46 ?_
            obtain ⟨g12, hf⟩ := zg_some hf
            refine z_iald C0 hP 1 rfl (Nat.le_of_ble_eq_true rfl) g12 dX2_insert_47 ?_
            refine z_aload_n C0 dX2_insert_48 rfl (lv_at hl 0 rfl) ?_
            refine zgX2_15 C0 hP 0 rfl (.ref a2) rfl dX2_insert_49 ?_
            refine z_iload C0 dX2_insert_52 (lv_at hl 4 rfl) ?_
            refine z_iconst C0 dX2_insert_54 ?_
            refine z_isub C0 dX2_insert_55 ?_
            obtain ⟨g13, hf⟩ := zg_some hf
            refine z_iald C0 hP 2 rfl (Nat.le_of_ble_eq_true rfl) g13 dX2_insert_56 ?_
            refine z_aload_n C0 dX2_insert_57 rfl (lv_at hl 0 rfl) ?_
            refine zgX2_18 C0 hP 0 rfl (.ref a3) rfl dX2_insert_58 ?_
            refine z_iload C0 dX2_insert_61 (lv_at hl 4 rfl) ?_
            refine z_iconst C0 dX2_insert_63 ?_
            refine z_isub C0 dX2_insert_64 ?_
            obtain ⟨g14, hf⟩ := zg_some hf
            refine z_iald C0 hP 3 rfl (Nat.le_of_ble_eq_true rfl) g14 dX2_insert_65 ?_
            obtain ⟨r15, hc16, hf⟩ := zbind hf
            refine z_callFv (rest := []) C0 hP (zD hD rfl) hS (zmX2_put l D cI cZ a0 a1 a2 a3 _ k6 k7 k8 sizeV i5 (k6 (Int.toNat (i5 - 1))) (k7 (Int.toNat (i5 - 1))) (k8 (Int.toNat (i5 - 1))) r15 hc16) (zkX2_29 ⟨by decide, by decide⟩ C0.2.2.2.2.1) 2 rfl rfl rfl rfl hl.1 (Nat.le_of_ble_eq_true rfl) dX2_insert_66 ⟨Nat.zero_le _, Nat.zero_le _⟩ (fun H locs hP hS => ?_)
            have hP : va_P D vwCl ((wR a0 a1 a2 a3 cI r15.1 r15.2.1 r15.2.2 sizeV)) H := hP
            refine z_iinc C0 [(4, .int (zI (i5 + (-1)))), (0, .ref a0), (1, .int (zI p1)), (2, .int (zI p2)), (3, .int (zI p3))] dX2_insert_69 hl 4 rfl (by decide) rfl (fun ls hl => ?_)
            refine z_goto C0 17 dX2_insert_72 (by decide) ?_
            exact ih (i5 + (-1)) r15.1 r15.2.1 r15.2.2 out hf K _ _ hP hS ls (lv_sub hl [1, 2, 3, 4, 0] rfl)
    obtain ⟨r20, hE21, hf⟩ := zbind hf
    refine L19 _ sizeV whenV planeV stripV r20 hE21 ?_ _ _ hP hS ls (lv_sub hl [1, 2, 3, 4, 0] rfl)
    intro H locs hP hS ls hl
    refine z_aload_n C0 dX2_insert_75 rfl (lv_at hl 0 rfl) ?_
    refine z_iload C0 dX2_insert_76 (lv_at hl 4 rfl) ?_
    refine z_iload_n C0 dX2_insert_78 rfl (lv_at hl 1 rfl) ?_
    refine z_iload_n C0 dX2_insert_79 rfl (lv_at hl 2 rfl) ?_
    refine z_iload_n C0 dX2_insert_80 rfl (lv_at hl 3 rfl) ?_
    obtain ⟨r22, hc23, hf⟩ := zbind hf
    refine z_callFv (rest := []) C0 hP (zD hD rfl) hS (zmX2_put l D cI cZ a0 a1 a2 a3 _ r20.2.1 r20.2.2.1 r20.2.2.2 sizeV r20.1 p1 p2 p3 r22 hc23) (zkX2_29 ⟨by decide, by decide⟩ C0.2.2.2.2.1) 2 rfl rfl rfl rfl hl.1 (Nat.le_of_ble_eq_true rfl) dX2_insert_81 ⟨Nat.zero_le _, Nat.zero_le _⟩ (fun H locs hP hS => ?_)
    have hP : va_P D vwCl ((wR a0 a1 a2 a3 cI r22.1 r22.2.1 r22.2.2 sizeV)) H := hP
    refine z_aload_n C0 dX2_insert_84 rfl (lv_at hl 0 rfl) ?_
    refine z_dup C0 dX2_insert_85 rfl ?_
    refine zgX2_21 C0 hP 0 rfl (.int (zI sizeV)) rfl dX2_insert_86 ?_
    refine z_iconst C0 dX2_insert_89 ?_
    refine z_iadd C0 dX2_insert_90 ?_
    refine zpX2_21 C0 hP (zD hD rfl) hS 0 rfl (Nat.le_of_ble_eq_true rfl) dX2_insert_91 (fun H locs hP hS => ?_)
    have hP : va_P D vwCl ((wR a0 a1 a2 a3 cI r22.1 r22.2.1 r22.2.2 (sizeV + 1))) H := hP
    cases hf
    exact hret hP hS dX2_insert_94
  · have hf := zif_neg hf c24
    cases hf
    exact hret hP hS dX2_insert_10
set_option maxHeartbeats 4000000 in
set_option maxRecDepth 100000 in
theorem zmX2_countOf (l : Launch) (D : va_G) (cI cZ : ClassId) (a0 : Nat) (a1 : Nat) (a2 : Nat) (a3 : Nat) (sz : Nat) (whenV : (Nat → Int)) (planeV : (Nat → Int)) (stripV : (Nat → Int)) (sizeV : Int) (p1 : Int) (p2 : Int) (o : Int) (hf : fX2_countOf (zk_R whenV planeV stripV sizeV) p1 p2 = some o) : Met l yX2_countOf (zW yX2_countOf cX2_countOf 5 (some .int)) rmX2_countOf (va_Pc [.ref a0, .int (zI p1), .int (zI p2)] (zPre D cI cZ ((wR a0 a1 a2 a3 cI whenV planeV stripV sizeV)) sz)) (va_Qi (fun r' (_ : Unit) => r' = zI o) (fun _ t => va_P D vwCl ((wR a0 a1 a2 a3 cI whenV planeV stripV sizeV)) t.heap) (va_A ((wR a0 a1 a2 a3 cI whenV planeV stripV sizeV)) sz)) 0 0 (va_A ((wR a0 a1 a2 a3 cI whenV planeV stripV sizeV)) sz) := by
  unfold fX2_countOf at hf
  refine z_enter_i (own := RX2) (by decide +kernel) rfl (Nat.le_of_ble_eq_true rfl) ?_
  intro p e s m args below meth c A Q C0 hP hD hS hret ls hl
  have hl : lv_has ls 5 [(0, .ref a0), (1, .int (zI p1)), (2, .int (zI p2))] := hl
  refine z_iconst C0 dX2_countOf_0 ?_
  refine z_istore_n C0 [(3, .int (zI 0)), (0, .ref a0), (1, .int (zI p1)), (2, .int (zI p2))] dX2_countOf_1 rfl hl (by decide) rfl (fun ls hl => ?_)
  refine z_iconst C0 dX2_countOf_2 ?_
  refine z_istore C0 [(4, .int (zI 0)), (3, .int (zI 0)), (0, .ref a0), (1, .int (zI p1)), (2, .int (zI p2))] dX2_countOf_3 hl (by decide) rfl (fun ls hl => ?_)
  have L16 : ∀ (zn : Nat) (i4 : Int) (i5 : Int) (out : Int), fX2_countOf_L5 zn (zk_R whenV planeV stripV sizeV) p1 p2 i4 i5 = some out → (∀ (H : Heap) (locs : List Loc), va_P D vwCl ((wR a0 a1 a2 a3 cI whenV planeV stripV sizeV)) H → va_S A s.heap H locs → ∀ ls : Array Slot, lv_has ls 5 [(3, .int (zI out))] → W p l e rmX2_countOf s m args below meth c H locs 0 0 Q (F0 m 31 ls [])) → ∀ (H : Heap) (locs : List Loc), va_P D vwCl ((wR a0 a1 a2 a3 cI whenV planeV stripV sizeV)) H → va_S A s.heap H locs → ∀ ls : Array Slot, lv_has ls 5 [(0, .ref a0), (1, .int (zI p1)), (2, .int (zI p2)), (3, .int (zI i4)), (4, .int (zI i5))] → W p l e rmX2_countOf s m args below meth c H locs 0 0 Q (F0 m 5 ls []) := by
    intro zn
    induction zn with
    | zero =>
      intro i4 i5 out hf
      rw [fX2_countOf_L5_z] at hf
      cases hf
    | succ zn ih =>
      intro i4 i5 out hf K H locs hP hS ls hl
      rw [fX2_countOf_L5_s] at hf
      refine z_iload C0 dX2_countOf_5 (lv_at hl 4 rfl) ?_
      refine z_iload_n C0 dX2_countOf_7 rfl (lv_at hl 2 rfl) ?_
      refine z_icmpge C0 31 dX2_countOf_8 (by decide) (fun c15 => ?_) (fun c15 => ?_)
      · have hf := zif_pos hf c15
        cases hf
        exact K _ _ hP hS ls (lv_sub hl [3] rfl)
      · have hf := zif_neg hf c15
        refine z_aload_n C0 dX2_countOf_11 rfl (lv_at hl 0 rfl) ?_
        refine zgX2_15 C0 hP 0 rfl (.ref a2) rfl dX2_countOf_12 ?_
        refine z_iload C0 dX2_countOf_15 (lv_at hl 4 rfl) ?_
        obtain ⟨g10, hf⟩ := zg_some hf
        refine z_iald C0 hP 2 rfl (Nat.le_of_ble_eq_true rfl) g10 dX2_countOf_17 ?_
        refine z_iload_n C0 dX2_countOf_18 rfl (lv_at hl 1 rfl) ?_
        obtain ⟨r11, hE14, hf⟩ := zbind hf
        have J12 : ∀ (H : Heap) (locs : List Loc), va_P D vwCl ((wR a0 a1 a2 a3 cI whenV planeV stripV sizeV)) H → va_S A s.heap H locs → ∀ ls : Array Slot, lv_has ls 5 [(0, .ref a0), (1, .int (zI p1)), (2, .int (zI p2)), (3, .int (zI r11)), (4, .int (zI i5))] → W p l e rmX2_countOf s m args below meth c H locs 0 0 Q (F0 m 25 ls []) := by
          intro H locs hP hS ls hl
          refine z_iinc C0 [(4, .int (zI (i5 + 1))), (0, .ref a0), (1, .int (zI p1)), (2, .int (zI p2)), (3, .int (zI r11))] dX2_countOf_25 hl 4 rfl (by decide) rfl (fun ls hl => ?_)
          refine z_goto C0 5 dX2_countOf_28 (by decide) ?_
          exact ih r11 (i5 + 1) out hf K _ _ hP hS ls (lv_sub hl [1, 2, 3, 4, 0] rfl)
        have hf := hE14
        refine z_icmpne C0 25 dX2_countOf_19 (by decide) (fun c13 => ?_) (fun c13 => ?_)
        · have hf := zif_neg hf c13
          cases hf
          exact J12 _ _ hP hS ls (lv_sub hl [0, 1, 2, 3, 4] rfl)
        · have hf := zif_pos hf c13
          refine z_iinc C0 [(3, .int (zI (i4 + 1))), (0, .ref a0), (1, .int (zI p1)), (2, .int (zI p2)), (4, .int (zI i5))] dX2_countOf_22 hl 3 rfl (by decide) rfl (fun ls hl => ?_)
          cases hf
          exact J12 _ _ hP hS ls (lv_sub hl [1, 2, 3, 0, 4] rfl)
  obtain ⟨r17, hE18, hf⟩ := zbind hf
  refine L16 _ 0 0 r17 hE18 ?_ _ _ hP hS ls (lv_sub hl [2, 3, 4, 1, 0] rfl)
  intro H locs hP hS ls hl
  refine z_iload_n C0 dX2_countOf_31 rfl (lv_at hl 0 rfl) ?_
  cases hf
  exact hret hP hS dX2_countOf_32
set_option maxHeartbeats 4000000 in
set_option maxRecDepth 100000 in
theorem zmX2_indexOf (l : Launch) (D : va_G) (cI cZ : ClassId) (a0 : Nat) (a1 : Nat) (a2 : Nat) (a3 : Nat) (sz : Nat) (whenV : (Nat → Int)) (planeV : (Nat → Int)) (stripV : (Nat → Int)) (sizeV : Int) (p1 : Int) (p2 : Int) (p3 : Int) (o : Int) (hf : fX2_indexOf (zk_R whenV planeV stripV sizeV) p1 p2 p3 = some o) : Met l yX2_indexOf (zW yX2_indexOf cX2_indexOf 5 (some .int)) rmX2_indexOf (va_Pc [.ref a0, .int (zI p1), .int (zI p2), .int (zI p3)] (zPre D cI cZ ((wR a0 a1 a2 a3 cI whenV planeV stripV sizeV)) sz)) (va_Qi (fun r' (_ : Unit) => r' = zI o) (fun _ t => va_P D vwCl ((wR a0 a1 a2 a3 cI whenV planeV stripV sizeV)) t.heap) (va_A ((wR a0 a1 a2 a3 cI whenV planeV stripV sizeV)) sz)) 0 0 (va_A ((wR a0 a1 a2 a3 cI whenV planeV stripV sizeV)) sz) := by
  unfold fX2_indexOf at hf
  refine z_enter_i (own := RX2) (by decide +kernel) rfl (Nat.le_of_ble_eq_true rfl) ?_
  intro p e s m args below meth c A Q C0 hP hD hS hret ls hl
  have hl : lv_has ls 5 [(0, .ref a0), (1, .int (zI p1)), (2, .int (zI p2)), (3, .int (zI p3))] := hl
  refine z_iload_n C0 dX2_indexOf_0 rfl (lv_at hl 2 rfl) ?_
  refine z_istore C0 [(4, .int (zI p2)), (0, .ref a0), (1, .int (zI p1)), (2, .int (zI p2)), (3, .int (zI p3))] dX2_indexOf_1 hl (by decide) rfl (fun ls hl => ?_)
  have L12 : ∀ (zn : Nat) (i4 : Int), fX2_indexOf_L3 zn (zk_R whenV planeV stripV sizeV) p1 p3 i4 = some o → ∀ (H : Heap) (locs : List Loc), va_P D vwCl ((wR a0 a1 a2 a3 cI whenV planeV stripV sizeV)) H → va_S A s.heap H locs → ∀ ls : Array Slot, lv_has ls 5 [(0, .ref a0), (1, .int (zI p1)), (3, .int (zI p3)), (4, .int (zI i4))] → W p l e rmX2_indexOf s m args below meth c H locs 0 0 Q (F0 m 3 ls []) := by
    intro zn
    induction zn with
    | zero =>
      intro i4 hf
      rw [fX2_indexOf_L3_z] at hf
      cases hf
    | succ zn ih =>
      intro i4 hf H locs hP hS ls hl
      rw [fX2_indexOf_L3_s] at hf
      refine z_iload C0 dX2_indexOf_3 (lv_at hl 3 rfl) ?_
      refine z_iload_n C0 dX2_indexOf_5 rfl (lv_at hl 2 rfl) ?_
      refine z_icmpge C0 29 dX2_indexOf_6 (by decide) (fun c11 => ?_) (fun c11 => ?_)
      · have hf := zif_pos hf c11
        refine z_iconst C0 dX2_indexOf_29 ?_
        cases hf
        exact hret hP hS dX2_indexOf_30
      · have hf := zif_neg hf c11
        refine z_aload_n C0 dX2_indexOf_9 rfl (lv_at hl 0 rfl) ?_
        refine zgX2_15 C0 hP 0 rfl (.ref a2) rfl dX2_indexOf_10 ?_
        refine z_iload C0 dX2_indexOf_13 (lv_at hl 3 rfl) ?_
        obtain ⟨g9, hf⟩ := zg_some hf
        refine z_iald C0 hP 2 rfl (Nat.le_of_ble_eq_true rfl) g9 dX2_indexOf_15 ?_
        refine z_iload_n C0 dX2_indexOf_16 rfl (lv_at hl 1 rfl) ?_
        refine z_icmpne C0 23 dX2_indexOf_17 (by decide) (fun c10 => ?_) (fun c10 => ?_)
        · have hf := zif_neg hf c10
          refine z_iinc C0 [(4, .int (zI (i4 + 1))), (0, .ref a0), (1, .int (zI p1)), (3, .int (zI p3))] dX2_indexOf_23 hl 3 rfl (by decide) rfl (fun ls hl => ?_)
          refine z_goto C0 3 dX2_indexOf_26 (by decide) ?_
          exact ih (i4 + 1) hf _ _ hP hS ls (lv_sub hl [1, 2, 3, 0] rfl)
        · have hf := zif_pos hf c10
          refine z_iload C0 dX2_indexOf_20 (lv_at hl 3 rfl) ?_
          cases hf
          exact hret hP hS dX2_indexOf_22
  exact L12 _ p2 hf _ _ hP hS ls (lv_sub hl [1, 2, 4, 0] rfl)
set_option maxHeartbeats 4000000 in
set_option maxRecDepth 100000 in
theorem zmX2_endOfGroup (l : Launch) (D : va_G) (cI cZ : ClassId) (a0 : Nat) (a1 : Nat) (a2 : Nat) (a3 : Nat) (sz : Nat) (whenV : (Nat → Int)) (planeV : (Nat → Int)) (stripV : (Nat → Int)) (sizeV : Int) (p1 : Int) (p2 : Int) (p3 : Int) (o : Int) (hf : fX2_endOfGroup (zk_R whenV planeV stripV sizeV) p1 p2 p3 = some o) : Met l yX2_endOfGroup (zW yX2_endOfGroup cX2_endOfGroup 5 (some .int)) rmX2_endOfGroup (va_Pc [.ref a0, .int (zI p1), .int (zI p2), .int (zI p3)] (zPre D cI cZ ((wR a0 a1 a2 a3 cI whenV planeV stripV sizeV)) sz)) (va_Qi (fun r' (_ : Unit) => r' = zI o) (fun _ t => va_P D vwCl ((wR a0 a1 a2 a3 cI whenV planeV stripV sizeV)) t.heap) (va_A ((wR a0 a1 a2 a3 cI whenV planeV stripV sizeV)) sz)) 0 0 (va_A ((wR a0 a1 a2 a3 cI whenV planeV stripV sizeV)) sz) := by
  unfold fX2_endOfGroup at hf
  refine z_enter_i (own := RX2) (by decide +kernel) rfl (Nat.le_of_ble_eq_true rfl) ?_
  intro p e s m args below meth c A Q C0 hP hD hS hret ls hl
  have hl : lv_has ls 5 [(0, .ref a0), (1, .int (zI p1)), (2, .int (zI p2)), (3, .int (zI p3))] := hl
  refine z_iload_n C0 dX2_endOfGroup_0 rfl (lv_at hl 1 rfl) ?_
  refine z_iconst C0 dX2_endOfGroup_1 ?_
  refine z_iadd C0 dX2_endOfGroup_2 ?_
  obtain ⟨v1, hv1, hf⟩ := zl_some hf
  refine z_name hv1 ?_
  refine z_istore C0 [(4, .int (zI v1)), (0, .ref a0), (1, .int (zI p1)), (2, .int (zI p2)), (3, .int (zI p3))] dX2_endOfGroup_3 hl (by decide) rfl (fun ls hl => ?_)
  have L15 : ∀ (zn : Nat) (i6 : Int) (out : Int), fX2_endOfGroup_L5 zn (zk_R whenV planeV stripV sizeV) p1 p2 p3 i6 = some out → (∀ (H : Heap) (locs : List Loc), va_P D vwCl ((wR a0 a1 a2 a3 cI whenV planeV stripV sizeV)) H → va_S A s.heap H locs → ∀ ls : Array Slot, lv_has ls 5 [(4, .int (zI out))] → W p l e rmX2_endOfGroup s m args below meth c H locs 0 0 Q (F0 m 35 ls [])) → ∀ (H : Heap) (locs : List Loc), va_P D vwCl ((wR a0 a1 a2 a3 cI whenV planeV stripV sizeV)) H → va_S A s.heap H locs → ∀ ls : Array Slot, lv_has ls 5 [(0, .ref a0), (1, .int (zI p1)), (2, .int (zI p2)), (3, .int (zI p3)), (4, .int (zI i6))] → W p l e rmX2_endOfGroup s m args below meth c H locs 0 0 Q (F0 m 5 ls []) := by
    intro zn
    induction zn with
    | zero =>
      intro i6 out hf
      rw [fX2_endOfGroup_L5_z] at hf
      cases hf
    | succ zn ih =>
      intro i6 out hf K H locs hP hS ls hl
      rw [fX2_endOfGroup_L5_s] at hf
      refine z_iload C0 dX2_endOfGroup_5 (lv_at hl 4 rfl) ?_
      refine z_iload_n C0 dX2_endOfGroup_7 rfl (lv_at hl 2 rfl) ?_
      refine z_icmpge C0 35 dX2_endOfGroup_8 (by decide) (fun c14 => ?_) (fun c14 => ?_)
      · have hf := zif_pos hf c14
        cases hf
        exact K _ _ hP hS ls (lv_sub hl [4] rfl)
      · have hf := zif_neg hf c14
        refine z_aload_n C0 dX2_endOfGroup_11 rfl (lv_at hl 0 rfl) ?_
        refine zgX2_9 C0 hP 0 rfl (.ref a1) rfl dX2_endOfGroup_12 ?_
        refine z_iload C0 dX2_endOfGroup_15 (lv_at hl 4 rfl) ?_
        obtain ⟨g11, hf⟩ := zg_some hf
        refine z_iald C0 hP 1 rfl (Nat.le_of_ble_eq_true rfl) g11 dX2_endOfGroup_17 ?_
        refine z_aload_n C0 dX2_endOfGroup_18 rfl (lv_at hl 0 rfl) ?_
        refine zgX2_9 C0 hP 0 rfl (.ref a1) rfl dX2_endOfGroup_19 ?_
        refine z_iload_n C0 dX2_endOfGroup_22 rfl (lv_at hl 1 rfl) ?_
        obtain ⟨g12, hf⟩ := zg_some hf
        refine z_iald C0 hP 1 rfl (Nat.le_of_ble_eq_true rfl) g12 dX2_endOfGroup_23 ?_
        refine z_iload_n C0 dX2_endOfGroup_24 rfl (lv_at hl 3 rfl) ?_
        refine z_iadd C0 dX2_endOfGroup_25 ?_
        refine z_icmpgt C0 35 dX2_endOfGroup_26 (by decide) (fun c13 => ?_) (fun c13 => ?_)
        · have hf := zif_pos hf c13
          cases hf
          exact K _ _ hP hS ls (lv_sub hl [4] rfl)
        · have hf := zif_neg hf c13
          refine z_iinc C0 [(4, .int (zI (i6 + 1))), (0, .ref a0), (1, .int (zI p1)), (2, .int (zI p2)), (3, .int (zI p3))] dX2_endOfGroup_29 hl 4 rfl (by decide) rfl (fun ls hl => ?_)
          refine z_goto C0 5 dX2_endOfGroup_32 (by decide) ?_
          exact ih (i6 + 1) out hf K _ _ hP hS ls (lv_sub hl [1, 2, 3, 4, 0] rfl)
  obtain ⟨r16, hE17, hf⟩ := zbind hf
  refine L15 _ v1 r16 hE17 ?_ _ _ hP hS ls (lv_sub hl [1, 2, 3, 4, 0] rfl)
  intro H locs hP hS ls hl
  refine z_iload C0 dX2_endOfGroup_35 (lv_at hl 0 rfl) ?_
  cases hf
  exact hret hP hS dX2_endOfGroup_37
set_option maxHeartbeats 4000000 in
set_option maxRecDepth 100000 in
theorem zmX2_planesOf (l : Launch) (D : va_G) (cI cZ : ClassId) (a0 : Nat) (a1 : Nat) (a2 : Nat) (a3 : Nat) (sz : Nat) (whenV : (Nat → Int)) (planeV : (Nat → Int)) (stripV : (Nat → Int)) (sizeV : Int) (p1 : Int) (p2 : Int) (o : Int) (hf : fX2_planesOf (zk_R whenV planeV stripV sizeV) p1 p2 = some o) : Met l yX2_planesOf (zW yX2_planesOf cX2_planesOf 5 (some .int)) rmX2_planesOf (va_Pc [.ref a0, .int (zI p1), .int (zI p2)] (zPre D cI cZ ((wR a0 a1 a2 a3 cI whenV planeV stripV sizeV)) sz)) (va_Qi (fun r' (_ : Unit) => r' = zI o) (fun _ t => va_P D vwCl ((wR a0 a1 a2 a3 cI whenV planeV stripV sizeV)) t.heap) (va_A ((wR a0 a1 a2 a3 cI whenV planeV stripV sizeV)) sz)) 0 0 (va_A ((wR a0 a1 a2 a3 cI whenV planeV stripV sizeV)) sz) := by
  unfold fX2_planesOf at hf
  refine z_enter_i (own := RX2) (by decide +kernel) rfl (Nat.le_of_ble_eq_true rfl) ?_
  intro p e s m args below meth c A Q C0 hP hD hS hret ls hl
  have hl : lv_has ls 5 [(0, .ref a0), (1, .int (zI p1)), (2, .int (zI p2))] := hl
  refine z_iconst C0 dX2_planesOf_0 ?_
  refine z_istore_n C0 [(3, .int (zI 0)), (0, .ref a0), (1, .int (zI p1)), (2, .int (zI p2))] dX2_planesOf_1 rfl hl (by decide) rfl (fun ls hl => ?_)
  refine z_iload_n C0 dX2_planesOf_2 rfl (lv_at hl 2 rfl) ?_
  refine z_istore C0 [(4, .int (zI p1)), (3, .int (zI 0)), (0, .ref a0), (1, .int (zI p1)), (2, .int (zI p2))] dX2_planesOf_3 hl (by decide) rfl (fun ls hl => ?_)
  have L12 : ∀ (zn : Nat) (i3 : Int) (i4 : Int) (out : Int), fX2_planesOf_L5 zn (zk_R whenV planeV stripV sizeV) p2 i3 i4 = some out → (∀ (H : Heap) (locs : List Loc), va_P D vwCl ((wR a0 a1 a2 a3 cI whenV planeV stripV sizeV)) H → va_S A s.heap H locs → ∀ ls : Array Slot, lv_has ls 5 [(3, .int (zI out))] → W p l e rmX2_planesOf s m args below meth c H locs 0 0 Q (F0 m 29 ls [])) → ∀ (H : Heap) (locs : List Loc), va_P D vwCl ((wR a0 a1 a2 a3 cI whenV planeV stripV sizeV)) H → va_S A s.heap H locs → ∀ ls : Array Slot, lv_has ls 5 [(0, .ref a0), (2, .int (zI p2)), (3, .int (zI i3)), (4, .int (zI i4))] → W p l e rmX2_planesOf s m args below meth c H locs 0 0 Q (F0 m 5 ls []) := by
    intro zn
    induction zn with
    | zero =>
      intro i3 i4 out hf
      rw [fX2_planesOf_L5_z] at hf
      cases hf
    | succ zn ih =>
      intro i3 i4 out hf K H locs hP hS ls hl
      rw [fX2_planesOf_L5_s] at hf
      refine z_iload C0 dX2_planesOf_5 (lv_at hl 3 rfl) ?_
      refine z_iload_n C0 dX2_planesOf_7 rfl (lv_at hl 1 rfl) ?_
      refine z_icmpge C0 29 dX2_planesOf_8 (by decide) (fun c11 => ?_) (fun c11 => ?_)
      · have hf := zif_pos hf c11
        cases hf
        exact K _ _ hP hS ls (lv_sub hl [2] rfl)
      · have hf := zif_neg hf c11
        refine z_iload_n C0 dX2_planesOf_11 rfl (lv_at hl 2 rfl) ?_
        refine z_iconst C0 dX2_planesOf_12 ?_
        refine z_aload_n C0 dX2_planesOf_13 rfl (lv_at hl 0 rfl) ?_
        refine zgX2_15 C0 hP 0 rfl (.ref a2) rfl dX2_planesOf_14 ?_
        refine z_iload C0 dX2_planesOf_17 (lv_at hl 3 rfl) ?_
        obtain ⟨g9, hf⟩ := zg_some hf
        refine z_iald C0 hP 2 rfl (Nat.le_of_ble_eq_true rfl) g9 dX2_planesOf_19 ?_
        refine z_ishl C0 dX2_planesOf_20 ?_
        refine z_ior C0 dX2_planesOf_21 ?_
        obtain ⟨v10, hv10, hf⟩ := zl_some hf
        refine z_name hv10 ?_
        refine z_istore_n C0 [(3, .int (zI v10)), (0, .ref a0), (2, .int (zI p2)), (4, .int (zI i4))] dX2_planesOf_22 rfl hl (by decide) rfl (fun ls hl => ?_)
        refine z_iinc C0 [(4, .int (zI (i4 + 1))), (3, .int (zI v10)), (0, .ref a0), (2, .int (zI p2))] dX2_planesOf_23 hl 3 rfl (by decide) rfl (fun ls hl => ?_)
        refine z_goto C0 5 dX2_planesOf_26 (by decide) ?_
        exact ih v10 (i4 + 1) out hf K _ _ hP hS ls (lv_sub hl [2, 3, 1, 0] rfl)
  obtain ⟨r13, hE14, hf⟩ := zbind hf
  refine L12 _ 0 p1 r13 hE14 ?_ _ _ hP hS ls (lv_sub hl [2, 4, 1, 0] rfl)
  intro H locs hP hS ls hl
  refine z_iload_n C0 dX2_planesOf_29 rfl (lv_at hl 0 rfl) ?_
  cases hf
  exact hret hP hS dX2_planesOf_30
set_option maxHeartbeats 4000000 in
set_option maxRecDepth 100000 in
theorem zmX2_putMemberStrips (l : Launch) (D : va_G) (cI cZ : ClassId) (a0 : Nat) (a1 : Nat) (a2 : Nat) (a3 : Nat) (b0 : Nat) (sz : Nat) (whenV : (Nat → Int)) (planeV : (Nat → Int)) (stripV : (Nat → Int)) (sizeV : Int) (arrV2 : (Nat → Int)) (p1 : Int) (p2 : Int) (o : (Nat → Int)) (hf : fX2_putMemberStrips (zk_R whenV planeV stripV sizeV) arrV2 p1 p2 = some o) : Met l yX2_putMemberStrips (zW yX2_putMemberStrips cX2_putMemberStrips 5 none) rmX2_putMemberStrips (va_Pc [.ref a0, .int (zI p1), .int (zI p2), .ref b0] (zPre D cI cZ ((wR a0 a1 a2 a3 cI whenV planeV stripV sizeV) ++ ([(b0, .inl (cI, 6, .inl (za arrV2)))] : va_W)) sz)) (va_Qv (fun (_ : Unit) => True) (fun _ t => va_P D vwCl ((wR a0 a1 a2 a3 cI whenV planeV stripV sizeV) ++ ([(b0, .inl (cI, 6, .inl (za o)))] : va_W)) t.heap) (va_A ((wR a0 a1 a2 a3 cI whenV planeV stripV sizeV) ++ ([(b0, .inl (cI, 6, .inl (za arrV2)))] : va_W)) sz)) 0 0 (va_A ((wR a0 a1 a2 a3 cI whenV planeV stripV sizeV) ++ ([(b0, .inl (cI, 6, .inl (za arrV2)))] : va_W)) sz) := by
  unfold fX2_putMemberStrips at hf
  refine z_enter_v (own := RX2) (by decide +kernel) rfl (Nat.le_of_ble_eq_true rfl) ?_
  intro p e s m args below meth c A Q C0 hP hD hS hret ls hl
  have hl : lv_has ls 5 [(0, .ref a0), (1, .int (zI p1)), (2, .int (zI p2)), (3, .ref b0)] := hl
  refine z_aload_n C0 dX2_putMemberStrips_0 rfl (lv_at hl 3 rfl) ?_
  refine z_bipush C0 dX2_putMemberStrips_1 (by decide +kernel) ?_
  obtain ⟨r1, hc2, hf⟩ := zbind hf
  refine z_callSv (rest := []) C0 hP (zD hD rfl) hS [4] rfl (zmJ7_fill_53178 l D cI cZ b0 _ arrV2 (-9) r1 hc2) (zkX2_33 ⟨by decide, by decide⟩ C0.2.2.2.2.1) rfl rfl rfl hl.1 (Nat.le_of_ble_eq_true rfl) dX2_putMemberStrips_3 ⟨Nat.zero_le _, Nat.zero_le _⟩ rfl (Nat.le_of_ble_eq_true rfl) (fun H locs hP hS => ?_)
  have hP : va_P D vwCl ((wR a0 a1 a2 a3 cI whenV planeV stripV sizeV) ++ ([(b0, .inl (cI, 6, .inl (za r1)))] : va_W)) H := hP
  refine z_iload_n C0 dX2_putMemberStrips_6 rfl (lv_at hl 2 rfl) ?_
  refine z_iconst C0 dX2_putMemberStrips_7 ?_
  refine z_isub C0 dX2_putMemberStrips_8 ?_
  obtain ⟨v3, hv3, hf⟩ := zl_some hf
  refine z_name hv3 ?_
  refine z_istore C0 [(4, .int (zI v3)), (0, .ref a0), (1, .int (zI p1)), (2, .int (zI p2)), (3, .ref b0)] dX2_putMemberStrips_9 hl (by decide) rfl (fun ls hl => ?_)
  have L17 : ∀ (zn : Nat) (i7 : Int) (k12 : (Nat → Int)) (out : (Nat → Int)), fX2_putMemberStrips_L11 zn (zk_R whenV planeV stripV sizeV) arrV2 p1 i7 k12 = some out → (∀ (H : Heap) (locs : List Loc), va_P D vwCl ((wR a0 a1 a2 a3 cI whenV planeV stripV sizeV) ++ ([(b0, .inl (cI, 6, .inl (za out)))] : va_W)) H → va_S A s.heap H locs → ∀ ls : Array Slot, lv_has ls 5 [] → W p l e rmX2_putMemberStrips s m args below meth c H locs 0 0 Q (F0 m 39 ls [])) → ∀ (H : Heap) (locs : List Loc), va_P D vwCl ((wR a0 a1 a2 a3 cI whenV planeV stripV sizeV) ++ ([(b0, .inl (cI, 6, .inl (za k12)))] : va_W)) H → va_S A s.heap H locs → ∀ ls : Array Slot, lv_has ls 5 [(0, .ref a0), (1, .int (zI p1)), (3, .ref b0), (4, .int (zI i7))] → W p l e rmX2_putMemberStrips s m args below meth c H locs 0 0 Q (F0 m 11 ls []) := by
    intro zn
    induction zn with
    | zero =>
      intro i7 k12 out hf
      rw [fX2_putMemberStrips_L11_z] at hf
      cases hf
    | succ zn ih =>
      intro i7 k12 out hf K H locs hP hS ls hl
      rw [fX2_putMemberStrips_L11_s] at hf
      refine z_iload C0 dX2_putMemberStrips_11 (lv_at hl 3 rfl) ?_
      refine z_iload_n C0 dX2_putMemberStrips_13 rfl (lv_at hl 1 rfl) ?_
      refine z_icmplt C0 39 dX2_putMemberStrips_14 (by decide) (fun c16 => ?_) (fun c16 => ?_)
      · have hf := zif_pos hf c16
        cases hf
        exact K _ _ hP hS ls (lv_sub hl [] rfl)
      · have hf := zif_neg hf c16
        refine z_aload_n C0 dX2_putMemberStrips_17 rfl (lv_at hl 2 rfl) ?_
        refine z_aload_n C0 dX2_putMemberStrips_18 rfl (lv_at hl 0 rfl) ?_
        refine zgX2_15 C0 hP 0 rfl (.ref a2) rfl dX2_putMemberStrips_19 ?_
        refine z_iload C0 dX2_putMemberStrips_22 (lv_at hl 3 rfl) ?_
        obtain ⟨g13, hf⟩ := zg_some hf
        refine z_iald C0 hP 2 rfl (Nat.le_of_ble_eq_true rfl) g13 dX2_putMemberStrips_24 ?_
        refine z_aload_n C0 dX2_putMemberStrips_25 rfl (lv_at hl 0 rfl) ?_
        refine zgX2_18 C0 hP 0 rfl (.ref a3) rfl dX2_putMemberStrips_26 ?_
        refine z_iload C0 dX2_putMemberStrips_29 (lv_at hl 3 rfl) ?_
        obtain ⟨g14, hf⟩ := zg_some hf
        refine z_iald C0 hP 3 rfl (Nat.le_of_ble_eq_true rfl) g14 dX2_putMemberStrips_31 ?_
        obtain ⟨g15, hf⟩ := zg_some hf
        refine z_iast C0 hP (zD hD rfl) hS 4 rfl (Nat.le_of_ble_eq_true rfl) g15 dX2_putMemberStrips_32 (fun H locs hP hS => ?_)
        have hP : va_P D vwCl ((wR a0 a1 a2 a3 cI whenV planeV stripV sizeV) ++ ([(b0, .inl (cI, 6, .inl (za (zu k12 (planeV (Int.toNat i7)) (stripV (Int.toNat i7))))))] : va_W)) H := hP
        refine z_iinc C0 [(4, .int (zI (i7 + (-1)))), (0, .ref a0), (1, .int (zI p1)), (3, .ref b0)] dX2_putMemberStrips_33 hl 3 rfl (by decide) rfl (fun ls hl => ?_)
        refine z_goto C0 11 dX2_putMemberStrips_36 (by decide) ?_
        exact ih (i7 + (-1)) (zu k12 (planeV (Int.toNat i7)) (stripV (Int.toNat i7))) out hf K _ _ hP hS ls (lv_sub hl [1, 2, 3, 0] rfl)
  obtain ⟨r18, hE19, hf⟩ := zbind hf
  refine L17 _ v3 r1 r18 hE19 ?_ _ _ hP hS ls (lv_sub hl [1, 2, 4, 0] rfl)
  intro H locs hP hS ls hl
  cases hf
  exact hret hP hS dX2_putMemberStrips_39
set_option maxHeartbeats 4000000 in
set_option maxRecDepth 100000 in
theorem zmX2_nextOf (l : Launch) (D : va_G) (cI cZ : ClassId) (a0 : Nat) (a1 : Nat) (a2 : Nat) (a3 : Nat) (sz : Nat) (whenV : (Nat → Int)) (planeV : (Nat → Int)) (stripV : (Nat → Int)) (sizeV : Int) (p1 : Int) (p2 : Int) (p3 : Int) (o : Int) (hf : fX2_nextOf (zk_R whenV planeV stripV sizeV) p1 p2 p3 = some o) : Met l yX2_nextOf (zW yX2_nextOf cX2_nextOf 5 (some .int)) rmX2_nextOf (va_Pc [.ref a0, .int (zI p1), .int (zI p2), .int (zI p3)] (zPre D cI cZ ((wR a0 a1 a2 a3 cI whenV planeV stripV sizeV)) sz)) (va_Qi (fun r' (_ : Unit) => r' = zI o) (fun _ t => va_P D vwCl ((wR a0 a1 a2 a3 cI whenV planeV stripV sizeV)) t.heap) (va_A ((wR a0 a1 a2 a3 cI whenV planeV stripV sizeV)) sz)) 0 0 (va_A ((wR a0 a1 a2 a3 cI whenV planeV stripV sizeV)) sz) := by
  unfold fX2_nextOf at hf
  refine z_enter_i (own := RX2) (by decide +kernel) rfl (Nat.le_of_ble_eq_true rfl) ?_
  intro p e s m args below meth c A Q C0 hP hD hS hret ls hl
  have hl : lv_has ls 5 [(0, .ref a0), (1, .int (zI p1)), (2, .int (zI p2)), (3, .int (zI p3))] := hl
  refine z_iload_n C0 dX2_nextOf_0 rfl (lv_at hl 2 rfl) ?_
  refine z_istore C0 [(4, .int (zI p2)), (0, .ref a0), (1, .int (zI p1)), (2, .int (zI p2)), (3, .int (zI p3))] dX2_nextOf_1 hl (by decide) rfl (fun ls hl => ?_)
  have L12 : ∀ (zn : Nat) (i4 : Int) (out : Int), fX2_nextOf_L3 zn (zk_R whenV planeV stripV sizeV) p1 p3 i4 = some out → (∀ (H : Heap) (locs : List Loc), va_P D vwCl ((wR a0 a1 a2 a3 cI whenV planeV stripV sizeV)) H → va_S A s.heap H locs → ∀ ls : Array Slot, lv_has ls 5 [(4, .int (zI out))] → W p l e rmX2_nextOf s m args below meth c H locs 0 0 Q (F0 m 29 ls [])) → ∀ (H : Heap) (locs : List Loc), va_P D vwCl ((wR a0 a1 a2 a3 cI whenV planeV stripV sizeV)) H → va_S A s.heap H locs → ∀ ls : Array Slot, lv_has ls 5 [(0, .ref a0), (1, .int (zI p1)), (3, .int (zI p3)), (4, .int (zI i4))] → W p l e rmX2_nextOf s m args below meth c H locs 0 0 Q (F0 m 3 ls []) := by
    intro zn
    induction zn with
    | zero =>
      intro i4 out hf
      rw [fX2_nextOf_L3_z] at hf
      cases hf
    | succ zn ih =>
      intro i4 out hf K H locs hP hS ls hl
      rw [fX2_nextOf_L3_s] at hf
      refine z_iload C0 dX2_nextOf_3 (lv_at hl 3 rfl) ?_
      refine z_iload_n C0 dX2_nextOf_5 rfl (lv_at hl 2 rfl) ?_
      refine z_icmpge C0 29 dX2_nextOf_6 (by decide) (fun c11 => ?_) (fun c11 => ?_)
      · have hf := zif_pos hf c11
        cases hf
        exact K _ _ hP hS ls (lv_sub hl [3] rfl)
      · have hf := zif_neg hf c11
        refine z_iload_n C0 dX2_nextOf_9 rfl (lv_at hl 1 rfl) ?_
        refine z_aload_n C0 dX2_nextOf_10 rfl (lv_at hl 0 rfl) ?_
        refine zgX2_15 C0 hP 0 rfl (.ref a2) rfl dX2_nextOf_11 ?_
        refine z_iload C0 dX2_nextOf_14 (lv_at hl 3 rfl) ?_
        obtain ⟨g9, hf⟩ := zg_some hf
        refine z_iald C0 hP 2 rfl (Nat.le_of_ble_eq_true rfl) g9 dX2_nextOf_16 ?_
        refine z_ishr C0 dX2_nextOf_17 ?_
        refine z_iconst C0 dX2_nextOf_18 ?_
        refine z_iand C0 dX2_nextOf_19 ?_
        refine z_ifne C0 29 dX2_nextOf_20 (by decide) (fun c10 => ?_) (fun c10 => ?_)
        · have hf := zif_neg hf c10
          cases hf
          exact K _ _ hP hS ls (lv_sub hl [3] rfl)
        · have hf := zif_pos hf c10
          refine z_iinc C0 [(4, .int (zI (i4 + 1))), (0, .ref a0), (1, .int (zI p1)), (3, .int (zI p3))] dX2_nextOf_23 hl 3 rfl (by decide) rfl (fun ls hl => ?_)
          refine z_goto C0 3 dX2_nextOf_26 (by decide) ?_
          exact ih (i4 + 1) out hf K _ _ hP hS ls (lv_sub hl [1, 2, 3, 0] rfl)
  obtain ⟨r13, hE14, hf⟩ := zbind hf
  refine L12 _ p2 r13 hE14 ?_ _ _ hP hS ls (lv_sub hl [1, 2, 4, 0] rfl)
  intro H locs hP hS ls hl
  refine z_iload C0 dX2_nextOf_29 (lv_at hl 0 rfl) ?_
  cases hf
  exact hret hP hS dX2_nextOf_31
set_option maxHeartbeats 4000000 in
set_option maxRecDepth 100000 in
theorem zmX2_fillShifted (l : Launch) (D : va_G) (cI cZ : ClassId) (a0 : Nat) (a1 : Nat) (a2 : Nat) (a3 : Nat) (b0 : Nat) (b1 : Nat) (b2 : Nat) (b3 : Nat) (sz : Nat) (whenV : (Nat → Int)) (planeV : (Nat → Int)) (stripV : (Nat → Int)) (sizeV : Int) (whenV2 : (Nat → Int)) (planeV2 : (Nat → Int)) (stripV2 : (Nat → Int)) (sizeV2 : Int) (p2 : Int) (p3 : Int) (p4 : Int) (o : (Nat → Int) × (Nat → Int) × (Nat → Int) × Int) (hf : fX2_fillShifted (zk_R whenV planeV stripV sizeV) (zk_R whenV2 planeV2 stripV2 sizeV2) p2 p3 p4 = some o) : Met l yX2_fillShifted (zW yX2_fillShifted cX2_fillShifted 8 none) rmX2_fillShifted (va_Pc [.ref a0, .ref b0, .int (zI p2), .int (zI p3), .int (zI p4)] (zPre D cI cZ ((wR a0 a1 a2 a3 cI whenV planeV stripV sizeV) ++ (wR b0 b1 b2 b3 cI whenV2 planeV2 stripV2 sizeV2)) sz)) (va_Qv (fun (_ : Unit) => True) (fun _ t => va_P D vwCl ((wR a0 a1 a2 a3 cI o.1 o.2.1 o.2.2.1 o.2.2.2) ++ (wR b0 b1 b2 b3 cI whenV2 planeV2 stripV2 sizeV2)) t.heap) (va_A ((wR a0 a1 a2 a3 cI whenV planeV stripV sizeV) ++ (wR b0 b1 b2 b3 cI whenV2 planeV2 stripV2 sizeV2)) sz)) 0 0 (va_A ((wR a0 a1 a2 a3 cI whenV planeV stripV sizeV) ++ (wR b0 b1 b2 b3 cI whenV2 planeV2 stripV2 sizeV2)) sz) := by
  unfold fX2_fillShifted at hf
  refine z_enter_v (own := RX2) (by decide +kernel) rfl (Nat.le_of_ble_eq_true rfl) ?_
  intro p e s m args below meth c A Q C0 hP hD hS hret ls hl
  have hl : lv_has ls 8 [(0, .ref a0), (1, .ref b0), (2, .int (zI p2)), (3, .int (zI p3)), (4, .int (zI p4))] := hl
  refine z_bipush C0 dX2_fillShifted_0 (by decide +kernel) ?_
  refine z_iload_n C0 dX2_fillShifted_2 rfl (lv_at hl 3 rfl) ?_
  refine z_iconst C0 dX2_fillShifted_3 ?_
  refine z_ixor C0 dX2_fillShifted_4 ?_
  refine z_iand C0 dX2_fillShifted_5 ?_
  obtain ⟨v1, hv1, hf⟩ := zl_some hf
  refine z_name hv1 ?_
  refine z_istore C0 [(5, .int (zI v1)), (0, .ref a0), (1, .ref b0), (2, .int (zI p2)), (3, .int (zI p3)), (4, .int (zI p4))] dX2_fillShifted_6 hl (by decide) rfl (fun ls hl => ?_)
  refine z_aload_n C0 dX2_fillShifted_8 rfl (lv_at hl 2 rfl) ?_
  refine z_iload C0 dX2_fillShifted_9 (lv_at hl 0 rfl) ?_
  refine z_iconst C0 dX2_fillShifted_11 ?_
  refine z_iload_n C0 dX2_fillShifted_12 rfl (lv_at hl 3 rfl) ?_
  obtain ⟨r2, hc3, hf⟩ := zbind hf
  refine z_callVi (rest := []) C0 hP (zD hD rfl) hS [4, 5, 6, 7] rfl (zmX2_nextOf l D cI cZ b0 b1 b2 b3 _ whenV2 planeV2 stripV2 sizeV2 v1 0 p2 r2 hc3) (zkX2_39 ⟨by decide, by decide⟩ C0.2.2.2.2.1) rfl 2 rfl rfl rfl rfl hl.1 (Nat.le_of_ble_eq_true rfl) dX2_fillShifted_13 ⟨Nat.zero_le _, Nat.zero_le _⟩ rfl (Nat.le_of_ble_eq_true rfl) (fun H locs hP hS => ?_)
  have hP : va_P D vwCl ((wR a0 a1 a2 a3 cI whenV planeV stripV sizeV) ++ (wR b0 b1 b2 b3 cI whenV2 planeV2 stripV2 sizeV2)) H := hP
  refine z_istore C0 [(6, .int (zI r2)), (5, .int (zI v1)), (0, .ref a0), (1, .ref b0), (2, .int (zI p2)), (3, .int (zI p3)), (4, .int (zI p4))] dX2_fillShifted_16 hl (by decide) rfl (fun ls hl => ?_)
  refine z_aload_n C0 dX2_fillShifted_18 rfl (lv_at hl 3 rfl) ?_
  refine z_iload_n C0 dX2_fillShifted_19 rfl (lv_at hl 5 rfl) ?_
  refine z_iconst C0 dX2_fillShifted_20 ?_
  refine z_iload_n C0 dX2_fillShifted_21 rfl (lv_at hl 4 rfl) ?_
  obtain ⟨r4, hc5, hf⟩ := zbind hf
  refine z_callVi (rest := []) C0 hP (zD hD rfl) hS [4, 5, 6, 7] rfl (zmX2_nextOf l D cI cZ b0 b1 b2 b3 _ whenV2 planeV2 stripV2 sizeV2 p3 0 p2 r4 hc5) (zkX2_39 ⟨by decide, by decide⟩ C0.2.2.2.2.1) rfl 2 rfl rfl rfl rfl hl.1 (Nat.le_of_ble_eq_true rfl) dX2_fillShifted_22 ⟨Nat.zero_le _, Nat.zero_le _⟩ rfl (Nat.le_of_ble_eq_true rfl) (fun H locs hP hS => ?_)
  have hP : va_P D vwCl ((wR a0 a1 a2 a3 cI whenV planeV stripV sizeV) ++ (wR b0 b1 b2 b3 cI whenV2 planeV2 stripV2 sizeV2)) H := hP
  refine z_istore C0 [(7, .int (zI r4)), (6, .int (zI r2)), (5, .int (zI v1)), (0, .ref a0), (1, .ref b0), (2, .int (zI p2)), (3, .int (zI p3)), (4, .int (zI p4))] dX2_fillShifted_25 hl (by decide) rfl (fun ls hl => ?_)
  refine z_aload_n C0 dX2_fillShifted_27 rfl (lv_at hl 3 rfl) ?_
  refine z_iconst C0 dX2_fillShifted_28 ?_
  refine zpX2_21 C0 hP (zD hD rfl) hS 0 rfl (Nat.le_of_ble_eq_true rfl) dX2_fillShifted_29 (fun H locs hP hS => ?_)
  have hP : va_P D vwCl ((wR a0 a1 a2 a3 cI whenV planeV stripV 0) ++ (wR b0 b1 b2 b3 cI whenV2 planeV2 stripV2 sizeV2)) H := hP
  have L97 : ∀ (zn : Nat) (i12 : Int) (i13 : Int) (k14 : (Nat → Int)) (k15 : (Nat → Int)) (k16 : (Nat → Int)) (k17 : Int) (out : (Nat → Int) × (Nat → Int) × (Nat → Int) × Int), fX2_fillShifted_L32 zn (zk_R whenV planeV stripV sizeV) (zk_R whenV2 planeV2 stripV2 sizeV2) p2 p3 p4 v1 i12 i13 k14 k15 k16 k17 = some out → (∀ (H : Heap) (locs : List Loc), va_P D vwCl ((wR a0 a1 a2 a3 cI out.1 out.2.1 out.2.2.1 out.2.2.2) ++ (wR b0 b1 b2 b3 cI whenV2 planeV2 stripV2 sizeV2)) H → va_S A s.heap H locs → ∀ ls : Array Slot, lv_has ls 8 [] → W p l e rmX2_fillShifted s m args below meth c H locs 0 0 Q (F0 m 188 ls [])) → ∀ (H : Heap) (locs : List Loc), va_P D vwCl ((wR a0 a1 a2 a3 cI k14 k15 k16 k17) ++ (wR b0 b1 b2 b3 cI whenV2 planeV2 stripV2 sizeV2)) H → va_S A s.heap H locs → ∀ ls : Array Slot, lv_has ls 8 [(0, .ref a0), (1, .ref b0), (2, .int (zI p2)), (3, .int (zI p3)), (4, .int (zI p4)), (5, .int (zI v1)), (6, .int (zI i12)), (7, .int (zI i13))] → W p l e rmX2_fillShifted s m args below meth c H locs 0 0 Q (F0 m 32 ls []) := by
    intro zn
    induction zn with
    | zero =>
      intro i12 i13 k14 k15 k16 k17 out hf
      rw [fX2_fillShifted_L32_z] at hf
      cases hf
    | succ zn ih =>
      intro i12 i13 k14 k15 k16 k17 out hf K H locs hP hS ls hl
      rw [fX2_fillShifted_L32_s] at hf
      refine z_aload_n C0 dX2_fillShifted_32 rfl (lv_at hl 0 rfl) ?_
      refine zgX2_21 C0 hP 0 rfl (.int (zI k17)) rfl dX2_fillShifted_33 ?_
      refine z_sipush C0 dX2_fillShifted_36 (by decide +kernel) ?_
      refine z_icmpge C0 188 dX2_fillShifted_39 (by decide) (fun c96 => ?_) (fun c96 => ?_)
      · have hf := zif_pos hf c96
        cases hf
        exact K _ _ hP hS ls (lv_sub hl [] rfl)
      · have hf := zif_neg hf c96
        refine z_iload C0 dX2_fillShifted_42 (lv_at hl 6 rfl) ?_
        refine z_iload_n C0 dX2_fillShifted_44 rfl (lv_at hl 2 rfl) ?_
        refine z_icmplt C0 54 dX2_fillShifted_45 (by decide) (fun c95 => ?_) (fun c95 => ?_)
        · have hf := zif_pos hf c95
          refine z_iload C0 dX2_fillShifted_54 (lv_at hl 7 rfl) ?_
          refine z_iload_n C0 dX2_fillShifted_56 rfl (lv_at hl 2 rfl) ?_
          obtain ⟨r22, hE57, hf⟩ := zbind hf
          have J23 : ∀ (H : Heap) (locs : List Loc), va_P D vwCl ((wR a0 a1 a2 a3 cI r22.2.2.1 r22.2.2.2.1 r22.2.2.2.2 k17) ++ (wR b0 b1 b2 b3 cI whenV2 planeV2 stripV2 sizeV2)) H → va_S A s.heap H locs → ∀ ls : Array Slot, lv_has ls 8 [(0, .ref a0), (1, .ref b0), (2, .int (zI p2)), (3, .int (zI p3)), (4, .int (zI p4)), (5, .int (zI v1)), (6, .int (zI r22.1)), (7, .int (zI r22.2.1))] → W p l e rmX2_fillShifted s m args below meth c H locs 0 0 Q (F0 m 175 ls []) := by
            intro H locs hP hS ls hl
            refine z_aload_n C0 dX2_fillShifted_175 rfl (lv_at hl 0 rfl) ?_
            refine z_dup C0 dX2_fillShifted_176 rfl ?_
            refine zgX2_21 C0 hP 0 rfl (.int (zI k17)) rfl dX2_fillShifted_177 ?_
            refine z_iconst C0 dX2_fillShifted_180 ?_
            refine z_iadd C0 dX2_fillShifted_181 ?_
            refine zpX2_21 C0 hP (zD hD rfl) hS 0 rfl (Nat.le_of_ble_eq_true rfl) dX2_fillShifted_182 (fun H locs hP hS => ?_)
            have hP : va_P D vwCl ((wR a0 a1 a2 a3 cI r22.2.2.1 r22.2.2.2.1 r22.2.2.2.2 (k17 + 1)) ++ (wR b0 b1 b2 b3 cI whenV2 planeV2 stripV2 sizeV2)) H := hP
            refine z_goto C0 32 dX2_fillShifted_185 (by decide) ?_
            exact ih r22.1 r22.2.1 r22.2.2.1 r22.2.2.2.1 r22.2.2.2.2 (k17 + 1) out hf K _ _ hP hS ls (lv_sub hl [0, 1, 2, 3, 4, 5, 6, 7] rfl)
          have hf := hE57
          refine z_icmpge C0 86 dX2_fillShifted_57 (by decide) (fun c56 => ?_) (fun c56 => ?_)
          · have hf := zif_pos hf c56
            refine z_aload_n C0 dX2_fillShifted_86 rfl (lv_at hl 0 rfl) ?_
            refine z_aload_n C0 dX2_fillShifted_87 rfl (lv_at hl 0 rfl) ?_
            refine zgX2_21 C0 hP 0 rfl (.int (zI k17)) rfl dX2_fillShifted_88 ?_
            refine z_aload_n C0 dX2_fillShifted_91 rfl (lv_at hl 1 rfl) ?_
            refine zgX2_9 C0 hP 4 rfl (.ref b1) rfl dX2_fillShifted_92 ?_
            refine z_iload C0 dX2_fillShifted_95 (lv_at hl 6 rfl) ?_
            obtain ⟨g24, hf⟩ := zg_some hf
            refine z_iald C0 hP 5 rfl (Nat.le_of_ble_eq_true rfl) g24 dX2_fillShifted_97 ?_
            refine z_aload_n C0 dX2_fillShifted_98 rfl (lv_at hl 1 rfl) ?_
            refine zgX2_15 C0 hP 4 rfl (.ref b2) rfl dX2_fillShifted_99 ?_
            refine z_iload C0 dX2_fillShifted_102 (lv_at hl 6 rfl) ?_
            obtain ⟨g25, hf⟩ := zg_some hf
            refine z_iald C0 hP 6 rfl (Nat.le_of_ble_eq_true rfl) g25 dX2_fillShifted_104 ?_
            refine z_aload_n C0 dX2_fillShifted_105 rfl (lv_at hl 1 rfl) ?_
            refine zgX2_18 C0 hP 4 rfl (.ref b3) rfl dX2_fillShifted_106 ?_
            refine z_iload C0 dX2_fillShifted_109 (lv_at hl 6 rfl) ?_
            obtain ⟨g26, hf⟩ := zg_some hf
            refine z_iald C0 hP 7 rfl (Nat.le_of_ble_eq_true rfl) g26 dX2_fillShifted_111 ?_
            obtain ⟨r27, hc28, hf⟩ := zbind hf
            refine z_callVv (rest := []) C0 hP (zD hD rfl) hS [0, 1, 2, 3] rfl (zmX2_put l D cI cZ a0 a1 a2 a3 _ k14 k15 k16 k17 k17 (whenV2 (Int.toNat i12)) (planeV2 (Int.toNat i12)) (stripV2 (Int.toNat i12)) r27 hc28) (zkX2_29 ⟨by decide, by decide⟩ C0.2.2.2.2.1) rfl 2 rfl rfl rfl rfl hl.1 (Nat.le_of_ble_eq_true rfl) dX2_fillShifted_112 ⟨Nat.zero_le _, Nat.zero_le _⟩ rfl (Nat.le_of_ble_eq_true rfl) (fun H locs hP hS => ?_)
            have hP : va_P D vwCl ((wR a0 a1 a2 a3 cI r27.1 r27.2.1 r27.2.2 k17) ++ (wR b0 b1 b2 b3 cI whenV2 planeV2 stripV2 sizeV2)) H := hP
            refine z_aload_n C0 dX2_fillShifted_115 rfl (lv_at hl 1 rfl) ?_
            refine z_iload C0 dX2_fillShifted_116 (lv_at hl 5 rfl) ?_
            refine z_iload C0 dX2_fillShifted_118 (lv_at hl 6 rfl) ?_
            refine z_iconst C0 dX2_fillShifted_120 ?_
            refine z_iadd C0 dX2_fillShifted_121 ?_
            refine z_iload_n C0 dX2_fillShifted_122 rfl (lv_at hl 2 rfl) ?_
            obtain ⟨r29, hc30, hf⟩ := zbind hf
            refine z_callVi (rest := []) C0 hP (zD hD rfl) hS [4, 5, 6, 7] rfl (zmX2_nextOf l D cI cZ b0 b1 b2 b3 _ whenV2 planeV2 stripV2 sizeV2 v1 (i12 + 1) p2 r29 hc30) (zkX2_39 ⟨by decide, by decide⟩ C0.2.2.2.2.1) rfl 2 rfl rfl rfl rfl hl.1 (Nat.le_of_ble_eq_true rfl) dX2_fillShifted_123 ⟨Nat.zero_le _, Nat.zero_le _⟩ rfl (Nat.le_of_ble_eq_true rfl) (fun H locs hP hS => ?_)
            have hP : va_P D vwCl ((wR a0 a1 a2 a3 cI r27.1 r27.2.1 r27.2.2 k17) ++ (wR b0 b1 b2 b3 cI whenV2 planeV2 stripV2 sizeV2)) H := hP
            refine z_istore C0 [(6, .int (zI r29)), (0, .ref a0), (1, .ref b0), (2, .int (zI p2)), (3, .int (zI p3)), (4, .int (zI p4)), (5, .int (zI v1)), (7, .int (zI i13))] dX2_fillShifted_126 hl (by decide) rfl (fun ls hl => ?_)
            refine z_goto C0 175 dX2_fillShifted_128 (by decide) ?_
            cases hf
            exact J23 _ _ hP hS ls (lv_sub hl [1, 2, 3, 4, 5, 6, 0, 7] rfl)
          · have hf := zif_neg hf c56
            refine z_iload C0 dX2_fillShifted_60 (lv_at hl 6 rfl) ?_
            refine z_iload_n C0 dX2_fillShifted_62 rfl (lv_at hl 2 rfl) ?_
            refine z_icmpge C0 131 dX2_fillShifted_63 (by decide) (fun c55 => ?_) (fun c55 => ?_)
            · have hf := zif_pos hf c55
              refine z_aload_n C0 dX2_fillShifted_131 rfl (lv_at hl 0 rfl) ?_
              refine z_aload_n C0 dX2_fillShifted_132 rfl (lv_at hl 0 rfl) ?_
              refine zgX2_21 C0 hP 0 rfl (.int (zI k17)) rfl dX2_fillShifted_133 ?_
              refine z_aload_n C0 dX2_fillShifted_136 rfl (lv_at hl 1 rfl) ?_
              refine zgX2_9 C0 hP 4 rfl (.ref b1) rfl dX2_fillShifted_137 ?_
              refine z_iload C0 dX2_fillShifted_140 (lv_at hl 7 rfl) ?_
              obtain ⟨g31, hf⟩ := zg_some hf
              refine z_iald C0 hP 5 rfl (Nat.le_of_ble_eq_true rfl) g31 dX2_fillShifted_142 ?_
              refine z_iload C0 dX2_fillShifted_143 (lv_at hl 4 rfl) ?_
              refine z_iadd C0 dX2_fillShifted_145 ?_
              refine z_aload_n C0 dX2_fillShifted_146 rfl (lv_at hl 1 rfl) ?_
              refine zgX2_15 C0 hP 4 rfl (.ref b2) rfl dX2_fillShifted_147 ?_
              refine z_iload C0 dX2_fillShifted_150 (lv_at hl 7 rfl) ?_
              obtain ⟨g32, hf⟩ := zg_some hf
              refine z_iald C0 hP 6 rfl (Nat.le_of_ble_eq_true rfl) g32 dX2_fillShifted_152 ?_
              refine z_aload_n C0 dX2_fillShifted_153 rfl (lv_at hl 1 rfl) ?_
              refine zgX2_18 C0 hP 4 rfl (.ref b3) rfl dX2_fillShifted_154 ?_
              refine z_iload C0 dX2_fillShifted_157 (lv_at hl 7 rfl) ?_
              obtain ⟨g33, hf⟩ := zg_some hf
              refine z_iald C0 hP 7 rfl (Nat.le_of_ble_eq_true rfl) g33 dX2_fillShifted_159 ?_
              obtain ⟨r34, hc35, hf⟩ := zbind hf
              refine z_callVv (rest := []) C0 hP (zD hD rfl) hS [0, 1, 2, 3] rfl (zmX2_put l D cI cZ a0 a1 a2 a3 _ k14 k15 k16 k17 k17 ((whenV2 (Int.toNat i13)) + p4) (planeV2 (Int.toNat i13)) (stripV2 (Int.toNat i13)) r34 hc35) (zkX2_29 ⟨by decide, by decide⟩ C0.2.2.2.2.1) rfl 2 rfl rfl rfl rfl hl.1 (Nat.le_of_ble_eq_true rfl) dX2_fillShifted_160 ⟨Nat.zero_le _, Nat.zero_le _⟩ rfl (Nat.le_of_ble_eq_true rfl) (fun H locs hP hS => ?_)
              have hP : va_P D vwCl ((wR a0 a1 a2 a3 cI r34.1 r34.2.1 r34.2.2 k17) ++ (wR b0 b1 b2 b3 cI whenV2 planeV2 stripV2 sizeV2)) H := hP
              refine z_aload_n C0 dX2_fillShifted_163 rfl (lv_at hl 1 rfl) ?_
              refine z_iload_n C0 dX2_fillShifted_164 rfl (lv_at hl 3 rfl) ?_
              refine z_iload C0 dX2_fillShifted_165 (lv_at hl 7 rfl) ?_
              refine z_iconst C0 dX2_fillShifted_167 ?_
              refine z_iadd C0 dX2_fillShifted_168 ?_
              refine z_iload_n C0 dX2_fillShifted_169 rfl (lv_at hl 2 rfl) ?_
              obtain ⟨r36, hc37, hf⟩ := zbind hf
              refine z_callVi (rest := []) C0 hP (zD hD rfl) hS [4, 5, 6, 7] rfl (zmX2_nextOf l D cI cZ b0 b1 b2 b3 _ whenV2 planeV2 stripV2 sizeV2 p3 (i13 + 1) p2 r36 hc37) (zkX2_39 ⟨by decide, by decide⟩ C0.2.2.2.2.1) rfl 2 rfl rfl rfl rfl hl.1 (Nat.le_of_ble_eq_true rfl) dX2_fillShifted_170 ⟨Nat.zero_le _, Nat.zero_le _⟩ rfl (Nat.le_of_ble_eq_true rfl) (fun H locs hP hS => ?_)
              have hP : va_P D vwCl ((wR a0 a1 a2 a3 cI r34.1 r34.2.1 r34.2.2 k17) ++ (wR b0 b1 b2 b3 cI whenV2 planeV2 stripV2 sizeV2)) H := hP
              refine z_istore C0 [(7, .int (zI r36)), (0, .ref a0), (1, .ref b0), (2, .int (zI p2)), (3, .int (zI p3)), (4, .int (zI p4)), (5, .int (zI v1)), (6, .int (zI i12))] dX2_fillShifted_173 hl (by decide) rfl (fun ls hl => ?_)
              cases hf
              exact J23 _ _ hP hS ls (lv_sub hl [1, 2, 3, 4, 5, 6, 7, 0] rfl)
            · have hf := zif_neg hf c55
              refine z_aload_n C0 dX2_fillShifted_66 rfl (lv_at hl 1 rfl) ?_
              refine zgX2_9 C0 hP 4 rfl (.ref b1) rfl dX2_fillShifted_67 ?_
              refine z_iload C0 dX2_fillShifted_70 (lv_at hl 6 rfl) ?_
              obtain ⟨g38, hf⟩ := zg_some hf
              refine z_iald C0 hP 5 rfl (Nat.le_of_ble_eq_true rfl) g38 dX2_fillShifted_72 ?_
              refine z_aload_n C0 dX2_fillShifted_73 rfl (lv_at hl 1 rfl) ?_
              refine zgX2_9 C0 hP 4 rfl (.ref b1) rfl dX2_fillShifted_74 ?_
              refine z_iload C0 dX2_fillShifted_77 (lv_at hl 7 rfl) ?_
              obtain ⟨g39, hf⟩ := zg_some hf
              refine z_iald C0 hP 5 rfl (Nat.le_of_ble_eq_true rfl) g39 dX2_fillShifted_79 ?_
              refine z_iload C0 dX2_fillShifted_80 (lv_at hl 4 rfl) ?_
              refine z_iadd C0 dX2_fillShifted_82 ?_
              refine z_icmpgt C0 131 dX2_fillShifted_83 (by decide) (fun c54 => ?_) (fun c54 => ?_)
              · have hf := zif_pos hf c54
                refine z_aload_n C0 dX2_fillShifted_131 rfl (lv_at hl 0 rfl) ?_
                refine z_aload_n C0 dX2_fillShifted_132 rfl (lv_at hl 0 rfl) ?_
                refine zgX2_21 C0 hP 0 rfl (.int (zI k17)) rfl dX2_fillShifted_133 ?_
                refine z_aload_n C0 dX2_fillShifted_136 rfl (lv_at hl 1 rfl) ?_
                refine zgX2_9 C0 hP 4 rfl (.ref b1) rfl dX2_fillShifted_137 ?_
                refine z_iload C0 dX2_fillShifted_140 (lv_at hl 7 rfl) ?_
                obtain ⟨g40, hf⟩ := zg_some hf
                refine z_iald C0 hP 5 rfl (Nat.le_of_ble_eq_true rfl) g40 dX2_fillShifted_142 ?_
                refine z_iload C0 dX2_fillShifted_143 (lv_at hl 4 rfl) ?_
                refine z_iadd C0 dX2_fillShifted_145 ?_
                refine z_aload_n C0 dX2_fillShifted_146 rfl (lv_at hl 1 rfl) ?_
                refine zgX2_15 C0 hP 4 rfl (.ref b2) rfl dX2_fillShifted_147 ?_
                refine z_iload C0 dX2_fillShifted_150 (lv_at hl 7 rfl) ?_
                obtain ⟨g41, hf⟩ := zg_some hf
                refine z_iald C0 hP 6 rfl (Nat.le_of_ble_eq_true rfl) g41 dX2_fillShifted_152 ?_
                refine z_aload_n C0 dX2_fillShifted_153 rfl (lv_at hl 1 rfl) ?_
                refine zgX2_18 C0 hP 4 rfl (.ref b3) rfl dX2_fillShifted_154 ?_
                refine z_iload C0 dX2_fillShifted_157 (lv_at hl 7 rfl) ?_
                obtain ⟨g42, hf⟩ := zg_some hf
                refine z_iald C0 hP 7 rfl (Nat.le_of_ble_eq_true rfl) g42 dX2_fillShifted_159 ?_
                obtain ⟨r43, hc44, hf⟩ := zbind hf
                refine z_callVv (rest := []) C0 hP (zD hD rfl) hS [0, 1, 2, 3] rfl (zmX2_put l D cI cZ a0 a1 a2 a3 _ k14 k15 k16 k17 k17 ((whenV2 (Int.toNat i13)) + p4) (planeV2 (Int.toNat i13)) (stripV2 (Int.toNat i13)) r43 hc44) (zkX2_29 ⟨by decide, by decide⟩ C0.2.2.2.2.1) rfl 2 rfl rfl rfl rfl hl.1 (Nat.le_of_ble_eq_true rfl) dX2_fillShifted_160 ⟨Nat.zero_le _, Nat.zero_le _⟩ rfl (Nat.le_of_ble_eq_true rfl) (fun H locs hP hS => ?_)
                have hP : va_P D vwCl ((wR a0 a1 a2 a3 cI r43.1 r43.2.1 r43.2.2 k17) ++ (wR b0 b1 b2 b3 cI whenV2 planeV2 stripV2 sizeV2)) H := hP
                refine z_aload_n C0 dX2_fillShifted_163 rfl (lv_at hl 1 rfl) ?_
                refine z_iload_n C0 dX2_fillShifted_164 rfl (lv_at hl 3 rfl) ?_
                refine z_iload C0 dX2_fillShifted_165 (lv_at hl 7 rfl) ?_
                refine z_iconst C0 dX2_fillShifted_167 ?_
                refine z_iadd C0 dX2_fillShifted_168 ?_
                refine z_iload_n C0 dX2_fillShifted_169 rfl (lv_at hl 2 rfl) ?_
                obtain ⟨r45, hc46, hf⟩ := zbind hf
                refine z_callVi (rest := []) C0 hP (zD hD rfl) hS [4, 5, 6, 7] rfl (zmX2_nextOf l D cI cZ b0 b1 b2 b3 _ whenV2 planeV2 stripV2 sizeV2 p3 (i13 + 1) p2 r45 hc46) (zkX2_39 ⟨by decide, by decide⟩ C0.2.2.2.2.1) rfl 2 rfl rfl rfl rfl hl.1 (Nat.le_of_ble_eq_true rfl) dX2_fillShifted_170 ⟨Nat.zero_le _, Nat.zero_le _⟩ rfl (Nat.le_of_ble_eq_true rfl) (fun H locs hP hS => ?_)
                have hP : va_P D vwCl ((wR a0 a1 a2 a3 cI r43.1 r43.2.1 r43.2.2 k17) ++ (wR b0 b1 b2 b3 cI whenV2 planeV2 stripV2 sizeV2)) H := hP
                refine z_istore C0 [(7, .int (zI r45)), (0, .ref a0), (1, .ref b0), (2, .int (zI p2)), (3, .int (zI p3)), (4, .int (zI p4)), (5, .int (zI v1)), (6, .int (zI i12))] dX2_fillShifted_173 hl (by decide) rfl (fun ls hl => ?_)
                cases hf
                exact J23 _ _ hP hS ls (lv_sub hl [1, 2, 3, 4, 5, 6, 7, 0] rfl)
              · have hf := zif_neg hf c54
                refine z_aload_n C0 dX2_fillShifted_86 rfl (lv_at hl 0 rfl) ?_
                refine z_aload_n C0 dX2_fillShifted_87 rfl (lv_at hl 0 rfl) ?_
                refine zgX2_21 C0 hP 0 rfl (.int (zI k17)) rfl dX2_fillShifted_88 ?_
                refine z_aload_n C0 dX2_fillShifted_91 rfl (lv_at hl 1 rfl) ?_
                refine zgX2_9 C0 hP 4 rfl (.ref b1) rfl dX2_fillShifted_92 ?_
                refine z_iload C0 dX2_fillShifted_95 (lv_at hl 6 rfl) ?_
                obtain ⟨g47, hf⟩ := zg_some hf
                refine z_iald C0 hP 5 rfl (Nat.le_of_ble_eq_true rfl) g47 dX2_fillShifted_97 ?_
                refine z_aload_n C0 dX2_fillShifted_98 rfl (lv_at hl 1 rfl) ?_
                refine zgX2_15 C0 hP 4 rfl (.ref b2) rfl dX2_fillShifted_99 ?_
                refine z_iload C0 dX2_fillShifted_102 (lv_at hl 6 rfl) ?_
                obtain ⟨g48, hf⟩ := zg_some hf
                refine z_iald C0 hP 6 rfl (Nat.le_of_ble_eq_true rfl) g48 dX2_fillShifted_104 ?_
                refine z_aload_n C0 dX2_fillShifted_105 rfl (lv_at hl 1 rfl) ?_
                refine zgX2_18 C0 hP 4 rfl (.ref b3) rfl dX2_fillShifted_106 ?_
                refine z_iload C0 dX2_fillShifted_109 (lv_at hl 6 rfl) ?_
                obtain ⟨g49, hf⟩ := zg_some hf
                refine z_iald C0 hP 7 rfl (Nat.le_of_ble_eq_true rfl) g49 dX2_fillShifted_111 ?_
                obtain ⟨r50, hc51, hf⟩ := zbind hf
                refine z_callVv (rest := []) C0 hP (zD hD rfl) hS [0, 1, 2, 3] rfl (zmX2_put l D cI cZ a0 a1 a2 a3 _ k14 k15 k16 k17 k17 (whenV2 (Int.toNat i12)) (planeV2 (Int.toNat i12)) (stripV2 (Int.toNat i12)) r50 hc51) (zkX2_29 ⟨by decide, by decide⟩ C0.2.2.2.2.1) rfl 2 rfl rfl rfl rfl hl.1 (Nat.le_of_ble_eq_true rfl) dX2_fillShifted_112 ⟨Nat.zero_le _, Nat.zero_le _⟩ rfl (Nat.le_of_ble_eq_true rfl) (fun H locs hP hS => ?_)
                have hP : va_P D vwCl ((wR a0 a1 a2 a3 cI r50.1 r50.2.1 r50.2.2 k17) ++ (wR b0 b1 b2 b3 cI whenV2 planeV2 stripV2 sizeV2)) H := hP
                refine z_aload_n C0 dX2_fillShifted_115 rfl (lv_at hl 1 rfl) ?_
                refine z_iload C0 dX2_fillShifted_116 (lv_at hl 5 rfl) ?_
                refine z_iload C0 dX2_fillShifted_118 (lv_at hl 6 rfl) ?_
                refine z_iconst C0 dX2_fillShifted_120 ?_
                refine z_iadd C0 dX2_fillShifted_121 ?_
                refine z_iload_n C0 dX2_fillShifted_122 rfl (lv_at hl 2 rfl) ?_
                obtain ⟨r52, hc53, hf⟩ := zbind hf
                refine z_callVi (rest := []) C0 hP (zD hD rfl) hS [4, 5, 6, 7] rfl (zmX2_nextOf l D cI cZ b0 b1 b2 b3 _ whenV2 planeV2 stripV2 sizeV2 v1 (i12 + 1) p2 r52 hc53) (zkX2_39 ⟨by decide, by decide⟩ C0.2.2.2.2.1) rfl 2 rfl rfl rfl rfl hl.1 (Nat.le_of_ble_eq_true rfl) dX2_fillShifted_123 ⟨Nat.zero_le _, Nat.zero_le _⟩ rfl (Nat.le_of_ble_eq_true rfl) (fun H locs hP hS => ?_)
                have hP : va_P D vwCl ((wR a0 a1 a2 a3 cI r50.1 r50.2.1 r50.2.2 k17) ++ (wR b0 b1 b2 b3 cI whenV2 planeV2 stripV2 sizeV2)) H := hP
                refine z_istore C0 [(6, .int (zI r52)), (0, .ref a0), (1, .ref b0), (2, .int (zI p2)), (3, .int (zI p3)), (4, .int (zI p4)), (5, .int (zI v1)), (7, .int (zI i13))] dX2_fillShifted_126 hl (by decide) rfl (fun ls hl => ?_)
                refine z_goto C0 175 dX2_fillShifted_128 (by decide) ?_
                cases hf
                exact J23 _ _ hP hS ls (lv_sub hl [1, 2, 3, 4, 5, 6, 0, 7] rfl)
        · have hf := zif_neg hf c95
          refine z_iload C0 dX2_fillShifted_48 (lv_at hl 7 rfl) ?_
          refine z_iload_n C0 dX2_fillShifted_50 rfl (lv_at hl 2 rfl) ?_
          refine z_icmpge C0 188 dX2_fillShifted_51 (by decide) (fun c94 => ?_) (fun c94 => ?_)
          · have hf := zif_pos hf c94
            cases hf
            exact K _ _ hP hS ls (lv_sub hl [] rfl)
          · have hf := zif_neg hf c94
            refine z_iload C0 dX2_fillShifted_54 (lv_at hl 7 rfl) ?_
            refine z_iload_n C0 dX2_fillShifted_56 rfl (lv_at hl 2 rfl) ?_
            obtain ⟨r58, hE93, hf⟩ := zbind hf
            have J59 : ∀ (H : Heap) (locs : List Loc), va_P D vwCl ((wR a0 a1 a2 a3 cI r58.2.2.1 r58.2.2.2.1 r58.2.2.2.2 k17) ++ (wR b0 b1 b2 b3 cI whenV2 planeV2 stripV2 sizeV2)) H → va_S A s.heap H locs → ∀ ls : Array Slot, lv_has ls 8 [(0, .ref a0), (1, .ref b0), (2, .int (zI p2)), (3, .int (zI p3)), (4, .int (zI p4)), (5, .int (zI v1)), (6, .int (zI r58.1)), (7, .int (zI r58.2.1))] → W p l e rmX2_fillShifted s m args below meth c H locs 0 0 Q (F0 m 175 ls []) := by
              intro H locs hP hS ls hl
              refine z_aload_n C0 dX2_fillShifted_175 rfl (lv_at hl 0 rfl) ?_
              refine z_dup C0 dX2_fillShifted_176 rfl ?_
              refine zgX2_21 C0 hP 0 rfl (.int (zI k17)) rfl dX2_fillShifted_177 ?_
              refine z_iconst C0 dX2_fillShifted_180 ?_
              refine z_iadd C0 dX2_fillShifted_181 ?_
              refine zpX2_21 C0 hP (zD hD rfl) hS 0 rfl (Nat.le_of_ble_eq_true rfl) dX2_fillShifted_182 (fun H locs hP hS => ?_)
              have hP : va_P D vwCl ((wR a0 a1 a2 a3 cI r58.2.2.1 r58.2.2.2.1 r58.2.2.2.2 (k17 + 1)) ++ (wR b0 b1 b2 b3 cI whenV2 planeV2 stripV2 sizeV2)) H := hP
              refine z_goto C0 32 dX2_fillShifted_185 (by decide) ?_
              exact ih r58.1 r58.2.1 r58.2.2.1 r58.2.2.2.1 r58.2.2.2.2 (k17 + 1) out hf K _ _ hP hS ls (lv_sub hl [0, 1, 2, 3, 4, 5, 6, 7] rfl)
            have hf := hE93
            refine z_icmpge C0 86 dX2_fillShifted_57 (by decide) (fun c92 => ?_) (fun c92 => ?_)
            · have hf := zif_pos hf c92
              refine z_aload_n C0 dX2_fillShifted_86 rfl (lv_at hl 0 rfl) ?_
              refine z_aload_n C0 dX2_fillShifted_87 rfl (lv_at hl 0 rfl) ?_
              refine zgX2_21 C0 hP 0 rfl (.int (zI k17)) rfl dX2_fillShifted_88 ?_
              refine z_aload_n C0 dX2_fillShifted_91 rfl (lv_at hl 1 rfl) ?_
              refine zgX2_9 C0 hP 4 rfl (.ref b1) rfl dX2_fillShifted_92 ?_
              refine z_iload C0 dX2_fillShifted_95 (lv_at hl 6 rfl) ?_
              obtain ⟨g60, hf⟩ := zg_some hf
              refine z_iald C0 hP 5 rfl (Nat.le_of_ble_eq_true rfl) g60 dX2_fillShifted_97 ?_
              refine z_aload_n C0 dX2_fillShifted_98 rfl (lv_at hl 1 rfl) ?_
              refine zgX2_15 C0 hP 4 rfl (.ref b2) rfl dX2_fillShifted_99 ?_
              refine z_iload C0 dX2_fillShifted_102 (lv_at hl 6 rfl) ?_
              obtain ⟨g61, hf⟩ := zg_some hf
              refine z_iald C0 hP 6 rfl (Nat.le_of_ble_eq_true rfl) g61 dX2_fillShifted_104 ?_
              refine z_aload_n C0 dX2_fillShifted_105 rfl (lv_at hl 1 rfl) ?_
              refine zgX2_18 C0 hP 4 rfl (.ref b3) rfl dX2_fillShifted_106 ?_
              refine z_iload C0 dX2_fillShifted_109 (lv_at hl 6 rfl) ?_
              obtain ⟨g62, hf⟩ := zg_some hf
              refine z_iald C0 hP 7 rfl (Nat.le_of_ble_eq_true rfl) g62 dX2_fillShifted_111 ?_
              obtain ⟨r63, hc64, hf⟩ := zbind hf
              refine z_callVv (rest := []) C0 hP (zD hD rfl) hS [0, 1, 2, 3] rfl (zmX2_put l D cI cZ a0 a1 a2 a3 _ k14 k15 k16 k17 k17 (whenV2 (Int.toNat i12)) (planeV2 (Int.toNat i12)) (stripV2 (Int.toNat i12)) r63 hc64) (zkX2_29 ⟨by decide, by decide⟩ C0.2.2.2.2.1) rfl 2 rfl rfl rfl rfl hl.1 (Nat.le_of_ble_eq_true rfl) dX2_fillShifted_112 ⟨Nat.zero_le _, Nat.zero_le _⟩ rfl (Nat.le_of_ble_eq_true rfl) (fun H locs hP hS => ?_)
              have hP : va_P D vwCl ((wR a0 a1 a2 a3 cI r63.1 r63.2.1 r63.2.2 k17) ++ (wR b0 b1 b2 b3 cI whenV2 planeV2 stripV2 sizeV2)) H := hP
              refine z_aload_n C0 dX2_fillShifted_115 rfl (lv_at hl 1 rfl) ?_
              refine z_iload C0 dX2_fillShifted_116 (lv_at hl 5 rfl) ?_
              refine z_iload C0 dX2_fillShifted_118 (lv_at hl 6 rfl) ?_
              refine z_iconst C0 dX2_fillShifted_120 ?_
              refine z_iadd C0 dX2_fillShifted_121 ?_
              refine z_iload_n C0 dX2_fillShifted_122 rfl (lv_at hl 2 rfl) ?_
              obtain ⟨r65, hc66, hf⟩ := zbind hf
              refine z_callVi (rest := []) C0 hP (zD hD rfl) hS [4, 5, 6, 7] rfl (zmX2_nextOf l D cI cZ b0 b1 b2 b3 _ whenV2 planeV2 stripV2 sizeV2 v1 (i12 + 1) p2 r65 hc66) (zkX2_39 ⟨by decide, by decide⟩ C0.2.2.2.2.1) rfl 2 rfl rfl rfl rfl hl.1 (Nat.le_of_ble_eq_true rfl) dX2_fillShifted_123 ⟨Nat.zero_le _, Nat.zero_le _⟩ rfl (Nat.le_of_ble_eq_true rfl) (fun H locs hP hS => ?_)
              have hP : va_P D vwCl ((wR a0 a1 a2 a3 cI r63.1 r63.2.1 r63.2.2 k17) ++ (wR b0 b1 b2 b3 cI whenV2 planeV2 stripV2 sizeV2)) H := hP
              refine z_istore C0 [(6, .int (zI r65)), (0, .ref a0), (1, .ref b0), (2, .int (zI p2)), (3, .int (zI p3)), (4, .int (zI p4)), (5, .int (zI v1)), (7, .int (zI i13))] dX2_fillShifted_126 hl (by decide) rfl (fun ls hl => ?_)
              refine z_goto C0 175 dX2_fillShifted_128 (by decide) ?_
              cases hf
              exact J59 _ _ hP hS ls (lv_sub hl [1, 2, 3, 4, 5, 6, 0, 7] rfl)
            · have hf := zif_neg hf c92
              refine z_iload C0 dX2_fillShifted_60 (lv_at hl 6 rfl) ?_
              refine z_iload_n C0 dX2_fillShifted_62 rfl (lv_at hl 2 rfl) ?_
              refine z_icmpge C0 131 dX2_fillShifted_63 (by decide) (fun c91 => ?_) (fun c91 => ?_)
              · have hf := zif_pos hf c91
                refine z_aload_n C0 dX2_fillShifted_131 rfl (lv_at hl 0 rfl) ?_
                refine z_aload_n C0 dX2_fillShifted_132 rfl (lv_at hl 0 rfl) ?_
                refine zgX2_21 C0 hP 0 rfl (.int (zI k17)) rfl dX2_fillShifted_133 ?_
                refine z_aload_n C0 dX2_fillShifted_136 rfl (lv_at hl 1 rfl) ?_
                refine zgX2_9 C0 hP 4 rfl (.ref b1) rfl dX2_fillShifted_137 ?_
                refine z_iload C0 dX2_fillShifted_140 (lv_at hl 7 rfl) ?_
                obtain ⟨g67, hf⟩ := zg_some hf
                refine z_iald C0 hP 5 rfl (Nat.le_of_ble_eq_true rfl) g67 dX2_fillShifted_142 ?_
                refine z_iload C0 dX2_fillShifted_143 (lv_at hl 4 rfl) ?_
                refine z_iadd C0 dX2_fillShifted_145 ?_
                refine z_aload_n C0 dX2_fillShifted_146 rfl (lv_at hl 1 rfl) ?_
                refine zgX2_15 C0 hP 4 rfl (.ref b2) rfl dX2_fillShifted_147 ?_
                refine z_iload C0 dX2_fillShifted_150 (lv_at hl 7 rfl) ?_
                obtain ⟨g68, hf⟩ := zg_some hf
                refine z_iald C0 hP 6 rfl (Nat.le_of_ble_eq_true rfl) g68 dX2_fillShifted_152 ?_
                refine z_aload_n C0 dX2_fillShifted_153 rfl (lv_at hl 1 rfl) ?_
                refine zgX2_18 C0 hP 4 rfl (.ref b3) rfl dX2_fillShifted_154 ?_
                refine z_iload C0 dX2_fillShifted_157 (lv_at hl 7 rfl) ?_
                obtain ⟨g69, hf⟩ := zg_some hf
                refine z_iald C0 hP 7 rfl (Nat.le_of_ble_eq_true rfl) g69 dX2_fillShifted_159 ?_
                obtain ⟨r70, hc71, hf⟩ := zbind hf
                refine z_callVv (rest := []) C0 hP (zD hD rfl) hS [0, 1, 2, 3] rfl (zmX2_put l D cI cZ a0 a1 a2 a3 _ k14 k15 k16 k17 k17 ((whenV2 (Int.toNat i13)) + p4) (planeV2 (Int.toNat i13)) (stripV2 (Int.toNat i13)) r70 hc71) (zkX2_29 ⟨by decide, by decide⟩ C0.2.2.2.2.1) rfl 2 rfl rfl rfl rfl hl.1 (Nat.le_of_ble_eq_true rfl) dX2_fillShifted_160 ⟨Nat.zero_le _, Nat.zero_le _⟩ rfl (Nat.le_of_ble_eq_true rfl) (fun H locs hP hS => ?_)
                have hP : va_P D vwCl ((wR a0 a1 a2 a3 cI r70.1 r70.2.1 r70.2.2 k17) ++ (wR b0 b1 b2 b3 cI whenV2 planeV2 stripV2 sizeV2)) H := hP
                refine z_aload_n C0 dX2_fillShifted_163 rfl (lv_at hl 1 rfl) ?_
                refine z_iload_n C0 dX2_fillShifted_164 rfl (lv_at hl 3 rfl) ?_
                refine z_iload C0 dX2_fillShifted_165 (lv_at hl 7 rfl) ?_
                refine z_iconst C0 dX2_fillShifted_167 ?_
                refine z_iadd C0 dX2_fillShifted_168 ?_
                refine z_iload_n C0 dX2_fillShifted_169 rfl (lv_at hl 2 rfl) ?_
                obtain ⟨r72, hc73, hf⟩ := zbind hf
                refine z_callVi (rest := []) C0 hP (zD hD rfl) hS [4, 5, 6, 7] rfl (zmX2_nextOf l D cI cZ b0 b1 b2 b3 _ whenV2 planeV2 stripV2 sizeV2 p3 (i13 + 1) p2 r72 hc73) (zkX2_39 ⟨by decide, by decide⟩ C0.2.2.2.2.1) rfl 2 rfl rfl rfl rfl hl.1 (Nat.le_of_ble_eq_true rfl) dX2_fillShifted_170 ⟨Nat.zero_le _, Nat.zero_le _⟩ rfl (Nat.le_of_ble_eq_true rfl) (fun H locs hP hS => ?_)
                have hP : va_P D vwCl ((wR a0 a1 a2 a3 cI r70.1 r70.2.1 r70.2.2 k17) ++ (wR b0 b1 b2 b3 cI whenV2 planeV2 stripV2 sizeV2)) H := hP
                refine z_istore C0 [(7, .int (zI r72)), (0, .ref a0), (1, .ref b0), (2, .int (zI p2)), (3, .int (zI p3)), (4, .int (zI p4)), (5, .int (zI v1)), (6, .int (zI i12))] dX2_fillShifted_173 hl (by decide) rfl (fun ls hl => ?_)
                cases hf
                exact J59 _ _ hP hS ls (lv_sub hl [1, 2, 3, 4, 5, 6, 7, 0] rfl)
              · have hf := zif_neg hf c91
                refine z_aload_n C0 dX2_fillShifted_66 rfl (lv_at hl 1 rfl) ?_
                refine zgX2_9 C0 hP 4 rfl (.ref b1) rfl dX2_fillShifted_67 ?_
                refine z_iload C0 dX2_fillShifted_70 (lv_at hl 6 rfl) ?_
                obtain ⟨g74, hf⟩ := zg_some hf
                refine z_iald C0 hP 5 rfl (Nat.le_of_ble_eq_true rfl) g74 dX2_fillShifted_72 ?_
                refine z_aload_n C0 dX2_fillShifted_73 rfl (lv_at hl 1 rfl) ?_
                refine zgX2_9 C0 hP 4 rfl (.ref b1) rfl dX2_fillShifted_74 ?_
                refine z_iload C0 dX2_fillShifted_77 (lv_at hl 7 rfl) ?_
                obtain ⟨g75, hf⟩ := zg_some hf
                refine z_iald C0 hP 5 rfl (Nat.le_of_ble_eq_true rfl) g75 dX2_fillShifted_79 ?_
                refine z_iload C0 dX2_fillShifted_80 (lv_at hl 4 rfl) ?_
                refine z_iadd C0 dX2_fillShifted_82 ?_
                refine z_icmpgt C0 131 dX2_fillShifted_83 (by decide) (fun c90 => ?_) (fun c90 => ?_)
                · have hf := zif_pos hf c90
                  refine z_aload_n C0 dX2_fillShifted_131 rfl (lv_at hl 0 rfl) ?_
                  refine z_aload_n C0 dX2_fillShifted_132 rfl (lv_at hl 0 rfl) ?_
                  refine zgX2_21 C0 hP 0 rfl (.int (zI k17)) rfl dX2_fillShifted_133 ?_
                  refine z_aload_n C0 dX2_fillShifted_136 rfl (lv_at hl 1 rfl) ?_
                  refine zgX2_9 C0 hP 4 rfl (.ref b1) rfl dX2_fillShifted_137 ?_
                  refine z_iload C0 dX2_fillShifted_140 (lv_at hl 7 rfl) ?_
                  obtain ⟨g76, hf⟩ := zg_some hf
                  refine z_iald C0 hP 5 rfl (Nat.le_of_ble_eq_true rfl) g76 dX2_fillShifted_142 ?_
                  refine z_iload C0 dX2_fillShifted_143 (lv_at hl 4 rfl) ?_
                  refine z_iadd C0 dX2_fillShifted_145 ?_
                  refine z_aload_n C0 dX2_fillShifted_146 rfl (lv_at hl 1 rfl) ?_
                  refine zgX2_15 C0 hP 4 rfl (.ref b2) rfl dX2_fillShifted_147 ?_
                  refine z_iload C0 dX2_fillShifted_150 (lv_at hl 7 rfl) ?_
                  obtain ⟨g77, hf⟩ := zg_some hf
                  refine z_iald C0 hP 6 rfl (Nat.le_of_ble_eq_true rfl) g77 dX2_fillShifted_152 ?_
                  refine z_aload_n C0 dX2_fillShifted_153 rfl (lv_at hl 1 rfl) ?_
                  refine zgX2_18 C0 hP 4 rfl (.ref b3) rfl dX2_fillShifted_154 ?_
                  refine z_iload C0 dX2_fillShifted_157 (lv_at hl 7 rfl) ?_
                  obtain ⟨g78, hf⟩ := zg_some hf
                  refine z_iald C0 hP 7 rfl (Nat.le_of_ble_eq_true rfl) g78 dX2_fillShifted_159 ?_
                  obtain ⟨r79, hc80, hf⟩ := zbind hf
                  refine z_callVv (rest := []) C0 hP (zD hD rfl) hS [0, 1, 2, 3] rfl (zmX2_put l D cI cZ a0 a1 a2 a3 _ k14 k15 k16 k17 k17 ((whenV2 (Int.toNat i13)) + p4) (planeV2 (Int.toNat i13)) (stripV2 (Int.toNat i13)) r79 hc80) (zkX2_29 ⟨by decide, by decide⟩ C0.2.2.2.2.1) rfl 2 rfl rfl rfl rfl hl.1 (Nat.le_of_ble_eq_true rfl) dX2_fillShifted_160 ⟨Nat.zero_le _, Nat.zero_le _⟩ rfl (Nat.le_of_ble_eq_true rfl) (fun H locs hP hS => ?_)
                  have hP : va_P D vwCl ((wR a0 a1 a2 a3 cI r79.1 r79.2.1 r79.2.2 k17) ++ (wR b0 b1 b2 b3 cI whenV2 planeV2 stripV2 sizeV2)) H := hP
                  refine z_aload_n C0 dX2_fillShifted_163 rfl (lv_at hl 1 rfl) ?_
                  refine z_iload_n C0 dX2_fillShifted_164 rfl (lv_at hl 3 rfl) ?_
                  refine z_iload C0 dX2_fillShifted_165 (lv_at hl 7 rfl) ?_
                  refine z_iconst C0 dX2_fillShifted_167 ?_
                  refine z_iadd C0 dX2_fillShifted_168 ?_
                  refine z_iload_n C0 dX2_fillShifted_169 rfl (lv_at hl 2 rfl) ?_
                  obtain ⟨r81, hc82, hf⟩ := zbind hf
                  refine z_callVi (rest := []) C0 hP (zD hD rfl) hS [4, 5, 6, 7] rfl (zmX2_nextOf l D cI cZ b0 b1 b2 b3 _ whenV2 planeV2 stripV2 sizeV2 p3 (i13 + 1) p2 r81 hc82) (zkX2_39 ⟨by decide, by decide⟩ C0.2.2.2.2.1) rfl 2 rfl rfl rfl rfl hl.1 (Nat.le_of_ble_eq_true rfl) dX2_fillShifted_170 ⟨Nat.zero_le _, Nat.zero_le _⟩ rfl (Nat.le_of_ble_eq_true rfl) (fun H locs hP hS => ?_)
                  have hP : va_P D vwCl ((wR a0 a1 a2 a3 cI r79.1 r79.2.1 r79.2.2 k17) ++ (wR b0 b1 b2 b3 cI whenV2 planeV2 stripV2 sizeV2)) H := hP
                  refine z_istore C0 [(7, .int (zI r81)), (0, .ref a0), (1, .ref b0), (2, .int (zI p2)), (3, .int (zI p3)), (4, .int (zI p4)), (5, .int (zI v1)), (6, .int (zI i12))] dX2_fillShifted_173 hl (by decide) rfl (fun ls hl => ?_)
                  cases hf
                  exact J59 _ _ hP hS ls (lv_sub hl [1, 2, 3, 4, 5, 6, 7, 0] rfl)
                · have hf := zif_neg hf c90
                  refine z_aload_n C0 dX2_fillShifted_86 rfl (lv_at hl 0 rfl) ?_
                  refine z_aload_n C0 dX2_fillShifted_87 rfl (lv_at hl 0 rfl) ?_
                  refine zgX2_21 C0 hP 0 rfl (.int (zI k17)) rfl dX2_fillShifted_88 ?_
                  refine z_aload_n C0 dX2_fillShifted_91 rfl (lv_at hl 1 rfl) ?_
                  refine zgX2_9 C0 hP 4 rfl (.ref b1) rfl dX2_fillShifted_92 ?_
                  refine z_iload C0 dX2_fillShifted_95 (lv_at hl 6 rfl) ?_
                  obtain ⟨g83, hf⟩ := zg_some hf
                  refine z_iald C0 hP 5 rfl (Nat.le_of_ble_eq_true rfl) g83 dX2_fillShifted_97 ?_
                  refine z_aload_n C0 dX2_fillShifted_98 rfl (lv_at hl 1 rfl) ?_
                  refine zgX2_15 C0 hP 4 rfl (.ref b2) rfl dX2_fillShifted_99 ?_
                  refine z_iload C0 dX2_fillShifted_102 (lv_at hl 6 rfl) ?_
                  obtain ⟨g84, hf⟩ := zg_some hf
                  refine z_iald C0 hP 6 rfl (Nat.le_of_ble_eq_true rfl) g84 dX2_fillShifted_104 ?_
                  refine z_aload_n C0 dX2_fillShifted_105 rfl (lv_at hl 1 rfl) ?_
                  refine zgX2_18 C0 hP 4 rfl (.ref b3) rfl dX2_fillShifted_106 ?_
                  refine z_iload C0 dX2_fillShifted_109 (lv_at hl 6 rfl) ?_
                  obtain ⟨g85, hf⟩ := zg_some hf
                  refine z_iald C0 hP 7 rfl (Nat.le_of_ble_eq_true rfl) g85 dX2_fillShifted_111 ?_
                  obtain ⟨r86, hc87, hf⟩ := zbind hf
                  refine z_callVv (rest := []) C0 hP (zD hD rfl) hS [0, 1, 2, 3] rfl (zmX2_put l D cI cZ a0 a1 a2 a3 _ k14 k15 k16 k17 k17 (whenV2 (Int.toNat i12)) (planeV2 (Int.toNat i12)) (stripV2 (Int.toNat i12)) r86 hc87) (zkX2_29 ⟨by decide, by decide⟩ C0.2.2.2.2.1) rfl 2 rfl rfl rfl rfl hl.1 (Nat.le_of_ble_eq_true rfl) dX2_fillShifted_112 ⟨Nat.zero_le _, Nat.zero_le _⟩ rfl (Nat.le_of_ble_eq_true rfl) (fun H locs hP hS => ?_)
                  have hP : va_P D vwCl ((wR a0 a1 a2 a3 cI r86.1 r86.2.1 r86.2.2 k17) ++ (wR b0 b1 b2 b3 cI whenV2 planeV2 stripV2 sizeV2)) H := hP
                  refine z_aload_n C0 dX2_fillShifted_115 rfl (lv_at hl 1 rfl) ?_
                  refine z_iload C0 dX2_fillShifted_116 (lv_at hl 5 rfl) ?_
                  refine z_iload C0 dX2_fillShifted_118 (lv_at hl 6 rfl) ?_
                  refine z_iconst C0 dX2_fillShifted_120 ?_
                  refine z_iadd C0 dX2_fillShifted_121 ?_
                  refine z_iload_n C0 dX2_fillShifted_122 rfl (lv_at hl 2 rfl) ?_
                  obtain ⟨r88, hc89, hf⟩ := zbind hf
                  refine z_callVi (rest := []) C0 hP (zD hD rfl) hS [4, 5, 6, 7] rfl (zmX2_nextOf l D cI cZ b0 b1 b2 b3 _ whenV2 planeV2 stripV2 sizeV2 v1 (i12 + 1) p2 r88 hc89) (zkX2_39 ⟨by decide, by decide⟩ C0.2.2.2.2.1) rfl 2 rfl rfl rfl rfl hl.1 (Nat.le_of_ble_eq_true rfl) dX2_fillShifted_123 ⟨Nat.zero_le _, Nat.zero_le _⟩ rfl (Nat.le_of_ble_eq_true rfl) (fun H locs hP hS => ?_)
                  have hP : va_P D vwCl ((wR a0 a1 a2 a3 cI r86.1 r86.2.1 r86.2.2 k17) ++ (wR b0 b1 b2 b3 cI whenV2 planeV2 stripV2 sizeV2)) H := hP
                  refine z_istore C0 [(6, .int (zI r88)), (0, .ref a0), (1, .ref b0), (2, .int (zI p2)), (3, .int (zI p3)), (4, .int (zI p4)), (5, .int (zI v1)), (7, .int (zI i13))] dX2_fillShifted_126 hl (by decide) rfl (fun ls hl => ?_)
                  refine z_goto C0 175 dX2_fillShifted_128 (by decide) ?_
                  cases hf
                  exact J59 _ _ hP hS ls (lv_sub hl [1, 2, 3, 4, 5, 6, 0, 7] rfl)
  obtain ⟨r98, hE99, hf⟩ := zbind hf
  refine L97 _ r2 r4 whenV planeV stripV 0 r98 hE99 ?_ _ _ hP hS ls (lv_sub hl [3, 4, 5, 6, 7, 2, 1, 0] rfl)
  intro H locs hP hS ls hl
  cases hf
  exact hret hP hS dX2_fillShifted_188
