set_option maxHeartbeats 4000000 in
set_option maxRecDepth 100000 in
theorem zmX2_has (l : Launch) (D : va_G) (cI cZ : ClassId) (a0 : Nat) (a1 : Nat) (a2 : Nat) (a3 : Nat) (sz : Nat) (whenV : (Nat → Int)) (planeV : (Nat → Int)) (stripV : (Nat → Int)) (sizeV : Int) (p1 : Int) (o : Int) (hf : fX2_has (zk_R whenV planeV stripV sizeV) p1 = some o) : Met l yX2_has (zW yX2_has cX2_has 2 (some .boolean)) rmX2_has (va_Pc [.ref a0, .int (zI p1)] (zPre D cI cZ ((wR a0 a1 a2 a3 cI whenV planeV stripV sizeV)) sz)) (va_Qi (fun r' (_ : Unit) => r' = zI o) (fun _ t => va_P D vwCl ((wR a0 a1 a2 a3 cI whenV planeV stripV sizeV)) t.heap) (va_A ((wR a0 a1 a2 a3 cI whenV planeV stripV sizeV)) sz)) 0 0 (va_A ((wR a0 a1 a2 a3 cI whenV planeV stripV sizeV)) sz) := by
  unfold fX2_has at hf
  refine z_enter_z (own := RX2) (by decide +kernel) rfl (Nat.le_of_ble_eq_true rfl) ?_
  intro p e s m args below meth c A Q C0 hP hD hS hret ls hl
  have hl : lv_has ls 2 [(0, .ref a0), (1, .int (zI p1))] := hl
  refine z_iload_n C0 dX2_has_0 rfl (lv_at hl 1 rfl) ?_
  refine z_iflt C0 16 dX2_has_1 (by decide) (fun c2 => ?_) (fun c2 => ?_)
  · have hf := zif_pos hf c2
    refine z_iconst C0 dX2_has_16 ?_
    cases hf
    exact hret (Or.inl rfl) hP hS dX2_has_17
  · have hf := zif_neg hf c2
    refine z_iload_n C0 dX2_has_4 rfl (lv_at hl 1 rfl) ?_
    refine z_aload_n C0 dX2_has_5 rfl (lv_at hl 0 rfl) ?_
    refine zgX2_21 C0 hP 0 rfl (.int (zI sizeV)) rfl dX2_has_6 ?_
    refine z_icmpge C0 16 dX2_has_9 (by decide) (fun c1 => ?_) (fun c1 => ?_)
    · have hf := zif_pos hf c1
      refine z_iconst C0 dX2_has_16 ?_
      cases hf
      exact hret (Or.inl rfl) hP hS dX2_has_17
    · have hf := zif_neg hf c1
      refine z_iconst C0 dX2_has_12 ?_
      refine z_goto C0 17 dX2_has_13 (by decide) ?_
      cases hf
      exact hret (Or.inr rfl) hP hS dX2_has_17
set_option maxHeartbeats 4000000 in
set_option maxRecDepth 100000 in
theorem zmX2_whenAt (l : Launch) (D : va_G) (cI cZ : ClassId) (a0 : Nat) (a1 : Nat) (a2 : Nat) (a3 : Nat) (sz : Nat) (whenV : (Nat → Int)) (planeV : (Nat → Int)) (stripV : (Nat → Int)) (sizeV : Int) (p1 : Int) (o : Int) (hf : fX2_whenAt (zk_R whenV planeV stripV sizeV) p1 = some o) : Met l yX2_whenAt (zW yX2_whenAt cX2_whenAt 2 (some .int)) rmX2_whenAt (va_Pc [.ref a0, .int (zI p1)] (zPre D cI cZ ((wR a0 a1 a2 a3 cI whenV planeV stripV sizeV)) sz)) (va_Qi (fun r' (_ : Unit) => r' = zI o) (fun _ t => va_P D vwCl ((wR a0 a1 a2 a3 cI whenV planeV stripV sizeV)) t.heap) (va_A ((wR a0 a1 a2 a3 cI whenV planeV stripV sizeV)) sz)) 0 0 (va_A ((wR a0 a1 a2 a3 cI whenV planeV stripV sizeV)) sz) := by
  unfold fX2_whenAt at hf
  refine z_enter_i (own := RX2) (by decide +kernel) rfl (Nat.le_of_ble_eq_true rfl) ?_
  intro p e s m args below meth c A Q C0 hP hD hS hret ls hl
  have hl : lv_has ls 2 [(0, .ref a0), (1, .int (zI p1))] := hl
  refine z_aload_n C0 dX2_whenAt_0 rfl (lv_at hl 0 rfl) ?_
  refine z_iload_n C0 dX2_whenAt_1 rfl (lv_at hl 1 rfl) ?_
  obtain ⟨r1, hc2, hf⟩ := zbind hf
  refine z_callFi (rest := []) C0 hP (zD hD rfl) hS (zmX2_has l D cI cZ a0 a1 a2 a3 _ whenV planeV stripV sizeV p1 r1 hc2) (zkX2_25 ⟨by decide, by decide⟩ C0.2.2.2.2.1) 2 rfl rfl rfl rfl hl.1 (Nat.le_of_ble_eq_true rfl) dX2_whenAt_2 ⟨Nat.zero_le _, Nat.zero_le _⟩ (fun H locs hP hS => ?_)
  have hP : va_P D vwCl ((wR a0 a1 a2 a3 cI whenV planeV stripV sizeV)) H := hP
  refine z_ifeq C0 17 dX2_whenAt_5 (by decide) (fun c4 => ?_) (fun c4 => ?_)
  · have hf := zif_pos hf c4
    refine z_iconst C0 dX2_whenAt_17 ?_
    cases hf
    exact hret hP hS dX2_whenAt_18
  · have hf := zif_neg hf c4
    refine z_aload_n C0 dX2_whenAt_8 rfl (lv_at hl 0 rfl) ?_
    refine zgX2_9 C0 hP 0 rfl (.ref a1) rfl dX2_whenAt_9 ?_
    refine z_iload_n C0 dX2_whenAt_12 rfl (lv_at hl 1 rfl) ?_
    obtain ⟨g3, hf⟩ := zg_some hf
    refine z_iald C0 hP 1 rfl (Nat.le_of_ble_eq_true rfl) g3 dX2_whenAt_13 ?_
    refine z_goto C0 18 dX2_whenAt_14 (by decide) ?_
    cases hf
    exact hret hP hS dX2_whenAt_18
set_option maxHeartbeats 4000000 in
set_option maxRecDepth 100000 in
theorem zmX2_isBehind (l : Launch) (D : va_G) (cI cZ : ClassId) (a0 : Nat) (a1 : Nat) (a2 : Nat) (a3 : Nat) (sz : Nat) (whenV : (Nat → Int)) (planeV : (Nat → Int)) (stripV : (Nat → Int)) (sizeV : Int) (p1 : Int) (p2 : Int) (p3 : Int) (p4 : Int) (o : Int) (hf : fX2_isBehind (zk_R whenV planeV stripV sizeV) p1 p2 p3 p4 = some o) : Met l yX2_isBehind (zW yX2_isBehind cX2_isBehind 5 (some .boolean)) rmX2_isBehind (va_Pc [.ref a0, .int (zI p1), .int (zI p2), .int (zI p3), .int (zI p4)] (zPre D cI cZ ((wR a0 a1 a2 a3 cI whenV planeV stripV sizeV)) sz)) (va_Qi (fun r' (_ : Unit) => r' = zI o) (fun _ t => va_P D vwCl ((wR a0 a1 a2 a3 cI whenV planeV stripV sizeV)) t.heap) (va_A ((wR a0 a1 a2 a3 cI whenV planeV stripV sizeV)) sz)) 0 0 (va_A ((wR a0 a1 a2 a3 cI whenV planeV stripV sizeV)) sz) := by
  unfold fX2_isBehind at hf
  refine z_enter_z (own := RX2) (by decide +kernel) rfl (Nat.le_of_ble_eq_true rfl) ?_
  intro p e s m args below meth c A Q C0 hP hD hS hret ls hl
  have hl : lv_has ls 5 [(0, .ref a0), (1, .int (zI p1)), (2, .int (zI p2)), (3, .int (zI p3)), (4, .int (zI p4))] := hl
  refine z_aload_n C0 dX2_isBehind_0 rfl (lv_at hl 0 rfl) ?_
  refine zgX2_9 C0 hP 0 rfl (.ref a1) rfl dX2_isBehind_1 ?_
  refine z_iload_n C0 dX2_isBehind_4 rfl (lv_at hl 1 rfl) ?_
  obtain ⟨g1, hf⟩ := zg_some hf
  refine z_iald C0 hP 1 rfl (Nat.le_of_ble_eq_true rfl) g1 dX2_isBehind_5 ?_
  refine z_iload_n C0 dX2_isBehind_6 rfl (lv_at hl 2 rfl) ?_
  refine z_icmpeq C0 26 dX2_isBehind_7 (by decide) (fun c10 => ?_) (fun c10 => ?_)
  · have hf := zif_pos hf c10
    refine z_aload_n C0 dX2_isBehind_26 rfl (lv_at hl 0 rfl) ?_
    refine zgX2_15 C0 hP 0 rfl (.ref a2) rfl dX2_isBehind_27 ?_
    refine z_iload_n C0 dX2_isBehind_30 rfl (lv_at hl 1 rfl) ?_
    obtain ⟨g2, hf⟩ := zg_some hf
    refine z_iald C0 hP 2 rfl (Nat.le_of_ble_eq_true rfl) g2 dX2_isBehind_31 ?_
    refine z_iload_n C0 dX2_isBehind_32 rfl (lv_at hl 3 rfl) ?_
    refine z_icmpeq C0 52 dX2_isBehind_33 (by decide) (fun c7 => ?_) (fun c7 => ?_)
    · have hf := zif_pos hf c7
      refine z_aload_n C0 dX2_isBehind_52 rfl (lv_at hl 0 rfl) ?_
      refine zgX2_18 C0 hP 0 rfl (.ref a3) rfl dX2_isBehind_53 ?_
      refine z_iload_n C0 dX2_isBehind_56 rfl (lv_at hl 1 rfl) ?_
      obtain ⟨g3, hf⟩ := zg_some hf
      refine z_iald C0 hP 3 rfl (Nat.le_of_ble_eq_true rfl) g3 dX2_isBehind_57 ?_
      refine z_iload C0 dX2_isBehind_58 (lv_at hl 4 rfl) ?_
      refine z_icmple C0 67 dX2_isBehind_60 (by decide) (fun c4 => ?_) (fun c4 => ?_)
      · have hf := zif_pos hf c4
        refine z_iconst C0 dX2_isBehind_67 ?_
        cases hf
        exact hret (Or.inl rfl) hP hS dX2_isBehind_68
      · have hf := zif_neg hf c4
        refine z_iconst C0 dX2_isBehind_63 ?_
        refine z_goto C0 68 dX2_isBehind_64 (by decide) ?_
        cases hf
        exact hret (Or.inr rfl) hP hS dX2_isBehind_68
    · have hf := zif_neg hf c7
      refine z_aload_n C0 dX2_isBehind_36 rfl (lv_at hl 0 rfl) ?_
      refine zgX2_15 C0 hP 0 rfl (.ref a2) rfl dX2_isBehind_37 ?_
      refine z_iload_n C0 dX2_isBehind_40 rfl (lv_at hl 1 rfl) ?_
      obtain ⟨g5, hf⟩ := zg_some hf
      refine z_iald C0 hP 2 rfl (Nat.le_of_ble_eq_true rfl) g5 dX2_isBehind_41 ?_
      refine z_iload_n C0 dX2_isBehind_42 rfl (lv_at hl 3 rfl) ?_
      refine z_icmple C0 50 dX2_isBehind_43 (by decide) (fun c6 => ?_) (fun c6 => ?_)
      · have hf := zif_pos hf c6
        refine z_iconst C0 dX2_isBehind_50 ?_
        cases hf
        exact hret (Or.inl rfl) hP hS dX2_isBehind_51
      · have hf := zif_neg hf c6
        refine z_iconst C0 dX2_isBehind_46 ?_
        refine z_goto C0 51 dX2_isBehind_47 (by decide) ?_
        cases hf
        exact hret (Or.inr rfl) hP hS dX2_isBehind_51
  · have hf := zif_neg hf c10
    refine z_aload_n C0 dX2_isBehind_10 rfl (lv_at hl 0 rfl) ?_
    refine zgX2_9 C0 hP 0 rfl (.ref a1) rfl dX2_isBehind_11 ?_
    refine z_iload_n C0 dX2_isBehind_14 rfl (lv_at hl 1 rfl) ?_
    obtain ⟨g8, hf⟩ := zg_some hf
    refine z_iald C0 hP 1 rfl (Nat.le_of_ble_eq_true rfl) g8 dX2_isBehind_15 ?_
    refine z_iload_n C0 dX2_isBehind_16 rfl (lv_at hl 2 rfl) ?_
    refine z_icmple C0 24 dX2_isBehind_17 (by decide) (fun c9 => ?_) (fun c9 => ?_)
    · have hf := zif_pos hf c9
      refine z_iconst C0 dX2_isBehind_24 ?_
      cases hf
      exact hret (Or.inl rfl) hP hS dX2_isBehind_25
    · have hf := zif_neg hf c9
      refine z_iconst C0 dX2_isBehind_20 ?_
      refine z_goto C0 25 dX2_isBehind_21 (by decide) ?_
      cases hf
      exact hret (Or.inr rfl) hP hS dX2_isBehind_25
set_option maxHeartbeats 4000000 in
set_option maxRecDepth 100000 in
theorem zmX2_put (l : Launch) (D : va_G) (cI cZ : ClassId) (a0 : Nat) (a1 : Nat) (a2 : Nat) (a3 : Nat) (sz : Nat) (whenV : (Nat → Int)) (planeV : (Nat → Int)) (stripV : (Nat → Int)) (sizeV : Int) (p1 : Int) (p2 : Int) (p3 : Int) (p4 : Int) (o : (Nat → Int) × (Nat → Int) × (Nat → Int)) (hf : fX2_put (zk_R whenV planeV stripV sizeV) p1 p2 p3 p4 = some o) : Met l yX2_put (zW yX2_put cX2_put 5 none) rmX2_put (va_Pc [.ref a0, .int (zI p1), .int (zI p2), .int (zI p3), .int (zI p4)] (zPre D cI cZ ((wR a0 a1 a2 a3 cI whenV planeV stripV sizeV)) sz)) (va_Qv (fun (_ : Unit) => True) (fun _ t => va_P D vwCl ((wR a0 a1 a2 a3 cI o.1 o.2.1 o.2.2 sizeV)) t.heap) (va_A ((wR a0 a1 a2 a3 cI whenV planeV stripV sizeV)) sz)) 0 0 (va_A ((wR a0 a1 a2 a3 cI whenV planeV stripV sizeV)) sz) := by
  unfold fX2_put at hf
  refine z_enter_v (own := RX2) (by decide +kernel) rfl (Nat.le_of_ble_eq_true rfl) ?_
  intro p e s m args below meth c A Q C0 hP hD hS hret ls hl
  have hl : lv_has ls 5 [(0, .ref a0), (1, .int (zI p1)), (2, .int (zI p2)), (3, .int (zI p3)), (4, .int (zI p4))] := hl
  refine z_aload_n C0 dX2_put_0 rfl (lv_at hl 0 rfl) ?_
  refine zgX2_9 C0 hP 0 rfl (.ref a1) rfl dX2_put_1 ?_
  refine z_iload_n C0 dX2_put_4 rfl (lv_at hl 1 rfl) ?_
  refine z_iload_n C0 dX2_put_5 rfl (lv_at hl 2 rfl) ?_
  obtain ⟨g1, hf⟩ := zg_some hf
  refine z_iast C0 hP (zD hD rfl) hS 1 rfl (Nat.le_of_ble_eq_true rfl) g1 dX2_put_6 (fun H locs hP hS => ?_)
  have hP : va_P D vwCl ((wR a0 a1 a2 a3 cI (zu whenV p1 p2) planeV stripV sizeV)) H := hP
  refine z_aload_n C0 dX2_put_7 rfl (lv_at hl 0 rfl) ?_
  refine zgX2_15 C0 hP 0 rfl (.ref a2) rfl dX2_put_8 ?_
  refine z_iload_n C0 dX2_put_11 rfl (lv_at hl 1 rfl) ?_
  refine z_iload_n C0 dX2_put_12 rfl (lv_at hl 3 rfl) ?_
  obtain ⟨g2, hf⟩ := zg_some hf
  refine z_iast C0 hP (zD hD rfl) hS 2 rfl (Nat.le_of_ble_eq_true rfl) g2 dX2_put_13 (fun H locs hP hS => ?_)
  have hP : va_P D vwCl ((wR a0 a1 a2 a3 cI (zu whenV p1 p2) (zu planeV p1 p3) stripV sizeV)) H := hP
  refine z_aload_n C0 dX2_put_14 rfl (lv_at hl 0 rfl) ?_
  refine zgX2_18 C0 hP 0 rfl (.ref a3) rfl dX2_put_15 ?_
  refine z_iload_n C0 dX2_put_18 rfl (lv_at hl 1 rfl) ?_
  refine z_iload C0 dX2_put_19 (lv_at hl 4 rfl) ?_
  obtain ⟨g3, hf⟩ := zg_some hf
  refine z_iast C0 hP (zD hD rfl) hS 3 rfl (Nat.le_of_ble_eq_true rfl) g3 dX2_put_21 (fun H locs hP hS => ?_)
  have hP : va_P D vwCl ((wR a0 a1 a2 a3 cI (zu whenV p1 p2) (zu planeV p1 p3) (zu stripV p1 p4) sizeV)) H := hP
  cases hf
  exact hret hP hS dX2_put_22
set_option maxHeartbeats 4000000 in
set_option maxRecDepth 100000 in
theorem zmX2_insert (l : Launch) (D : va_G) (cI cZ : ClassId) (a0 : Nat) (a1 : Nat) (a2 : Nat) (a3 : Nat) (sz : Nat) (whenV : (Nat → Int)) (planeV : (Nat → Int)) (stripV : (Nat → Int)) (sizeV : Int) (p1 : Int) (p2 : Int) (p3 : Int) (o : (Nat → Int) × (Nat → Int) × (Nat → Int) × Int) (hf : fX2_insert (zk_R whenV planeV stripV sizeV) p1 p2 p3 = some o) : Met l yX2_insert (zW yX2_insert cX2_insert 5 none) rmX2_insert (va_Pc [.ref a0, .int (zI p1), .int (zI p2), .int (zI p3)] (zPre D cI cZ ((wR a0 a1 a2 a3 cI whenV planeV stripV sizeV)) sz)) (va_Qv (fun (_ : Unit) => True) (fun _ t => va_P D vwCl ((wR a0 a1 a2 a3 cI o.1 o.2.1 o.2.2.1 o.2.2.2)) t.heap) (va_A ((wR a0 a1 a2 a3 cI whenV planeV stripV sizeV)) sz)) 0 0 (va_A ((wR a0 a1 a2 a3 cI whenV planeV stripV sizeV)) sz) := by
  unfold fX2_insert at hf
  refine z_enter_v (own := RX2) (by decide +kernel) rfl (Nat.le_of_ble_eq_true rfl) ?_
  intro p e s m args below meth c A Q C0 hP hD hS hret ls hl
  have hl : lv_has ls 5 [(0, .ref a0), (1, .int (zI p1)), (2, .int (zI p2)), (3, .int (zI p3))] := hl
  refine z_aload_n C0 dX2_insert_0 rfl (lv_at hl 0 rfl) ?_
  refine zgX2_21 C0 hP 0 rfl (.int (zI sizeV)) rfl dX2_insert_1 ?_
  refine z_sipush C0 dX2_insert_4 (by decide +kernel) ?_
  refine z_icmplt C0 11 dX2_insert_7 (by decide) (fun c24 => ?_) (fun c24 => ?_)
  · have hf := zif_pos hf c24
    refine z_aload_n C0 dX2_insert_11 rfl (lv_at hl 0 rfl) ?_
    refine zgX2_21 C0 hP 0 rfl (.int (zI sizeV)) rfl dX2_insert_12 ?_
    refine z_istore C0 [(4, .int (zI sizeV)), (0, .ref a0), (1, .int (zI p1)), (2, .int (zI p2)), (3, .int (zI p3))] dX2_insert_15 hl (by decide) rfl (fun ls hl => ?_)
    have L19 : ∀ (zn : Nat) (i5 : Int) (k6 : (Nat → Int)) (k7 : (Nat → Int)) (k8 : (Nat → Int)) (out : Int × (Nat → Int) × (Nat → Int) × (Nat → Int)), fX2_insert_L17 zn (zk_R whenV planeV stripV sizeV) p1 p2 p3 i5 k6 k7 k8 = some out → (∀ (H : Heap) (locs : List Loc), va_P D vwCl ((wR a0 a1 a2 a3 cI out.2.1 out.2.2.1 out.2.2.2 sizeV)) H → va_S A s.heap H locs → ∀ ls : Array Slot, lv_has ls 5 [(0, .ref a0), (1, .int (zI p1)), (2, .int (zI p2)), (3, .int (zI p3)), (4, .int (zI out.1))] → W p l e rmX2_insert s m args below meth c H locs 0 0 Q (F0 m 75 ls [])) → ∀ (H : Heap) (locs : List Loc), va_P D vwCl ((wR a0 a1 a2 a3 cI k6 k7 k8 sizeV)) H → va_S A s.heap H locs → ∀ ls : Array Slot, lv_has ls 5 [(0, .ref a0), (1, .int (zI p1)), (2, .int (zI p2)), (3, .int (zI p3)), (4, .int (zI i5))] → W p l e rmX2_insert s m args below meth c H locs 0 0 Q (F0 m 17 ls []) := by
      intro zn
      induction zn with
      | zero =>
        intro i5 k6 k7 k8 out hf
        rw [fX2_insert_L17_z] at hf
        cases hf
      | succ zn ih =>
        intro i5 k6 k7 k8 out hf K H locs hP hS ls hl
        rw [fX2_insert_L17_s] at hf
        refine z_iload C0 dX2_insert_17 (lv_at hl 4 rfl) ?_
        refine z_ifle C0 75 dX2_insert_19 (by decide) (fun c18 => ?_) (fun c18 => ?_)
        · have hf := zif_pos hf c18
          cases hf
          exact K _ _ hP hS ls (lv_sub hl [0, 1, 2, 3, 4] rfl)
        · have hf := zif_neg hf c18
          refine z_aload_n C0 dX2_insert_22 rfl (lv_at hl 0 rfl) ?_
          refine z_iload C0 dX2_insert_23 (lv_at hl 4 rfl) ?_
          refine z_iconst C0 dX2_insert_25 ?_
          refine z_isub C0 dX2_insert_26 ?_
          refine z_iload_n C0 dX2_insert_27 rfl (lv_at hl 1 rfl) ?_
          refine z_iload_n C0 dX2_insert_28 rfl (lv_at hl 2 rfl) ?_
          refine z_iload_n C0 dX2_insert_29 rfl (lv_at hl 3 rfl) ?_
          obtain ⟨r10, hc11, hf⟩ := zbind hf
          refine z_callFi (rest := []) C0 hP (zD hD rfl) hS (zmX2_isBehind l D cI cZ a0 a1 a2 a3 _ k6 k7 k8 sizeV (i5 - 1) p1 p2 p3 r10 hc11) (zkX2_29 ⟨by decide, by decide⟩ C0.2.2.2.2.1) 2 rfl rfl rfl rfl hl.1 (Nat.le_of_ble_eq_true rfl) dX2_insert_30 ⟨Nat.zero_le _, Nat.zero_le _⟩ (fun H locs hP hS => ?_)
          have hP : va_P D vwCl ((wR a0 a1 a2 a3 cI k6 k7 k8 sizeV)) H := hP
          refine z_ifeq C0 75 dX2_insert_33 (by decide) (fun c17 => ?_) (fun c17 => ?_)
          · have hf := zif_pos hf c17
            cases hf
            exact K _ _ hP hS ls (lv_sub hl [0, 1, 2, 3, 4] rfl)
          · have hf := zif_neg hf c17
            refine z_aload_n C0 dX2_insert_36 rfl (lv_at hl 0 rfl) ?_
            refine z_iload C0 dX2_insert_37 (lv_at hl 4 rfl) ?_
            refine z_aload_n C0 dX2_insert_39 rfl (lv_at hl 0 rfl) ?_
            refine zgX2_9 C0 hP 0 rfl (.ref a1) rfl dX2_insert_40 ?_
            refine z_iload C0 dX2_insert_43 (lv_at hl 4 rfl) ?_
            refine z_iconst C0 dX2_insert_45 ?_
            refine z_isub C0 dX2_insert_46 ?_
            obtain ⟨g12, hf⟩ := zg_some hf
            refine z_iald C0 hP 1 rfl (Nat.le_of_ble_eq_true rfl) g12 dX2_insert_47 ?_
            refine z_aload_n C0 dX2_insert_48 rfl (lv_at hl 0 rfl) ?_
            refine zgX2_15 C0 hP 0 rfl (.ref a2) rfl dX2_insert_49 ?_
            refine z_iload C0 dX2_insert_52 (lv_at hl 4 rfl) ?_
            refine z_iconst C0 dX2_insert_54 ?_
            refine z_isub C0 dX2_insert_55 ?_
            obtain ⟨g13, hf⟩ := zg_some hf
            refine z_iald C0 hP 2 rfl (Nat.le_of_ble_eq_true rfl) g13 dX2_insert_56 ?_
            refine z_aload_n C0 dX2_insert_57 rfl (lv_at hl 0 rfl) ?_
            refine zgX2_18 C0 hP 0 rfl (.ref a3) rfl dX2_insert_58 ?_
            refine z_iload C0 dX2_insert_61 (lv_at hl 4 rfl) ?_
            refine z_iconst C0 dX2_insert_63 ?_
            refine z_isub C0 dX2_insert_64 ?_
            obtain ⟨g14, hf⟩ := zg_some hf
            refine z_iald C0 hP 3 rfl (Nat.le_of_ble_eq_true rfl) g14 dX2_insert_65 ?_
            obtain ⟨r15, hc16, hf⟩ := zbind hf
            refine z_callFv (rest := []) C0 hP (zD hD rfl) hS (zmX2_put l D cI cZ a0 a1 a2 a3 _ k6 k7 k8 sizeV i5 (k6 (Int.toNat (i5 - 1))) (k7 (Int.toNat (i5 - 1))) (k8 (Int.toNat (i5 - 1))) r15 hc16) (zkX2_33 ⟨by decide, by decide⟩ C0.2.2.2.2.1) 2 rfl rfl rfl rfl hl.1 (Nat.le_of_ble_eq_true rfl) dX2_insert_66 ⟨Nat.zero_le _, Nat.zero_le _⟩ (fun H locs hP hS => ?_)
            have hP : va_P D vwCl ((wR a0 a1 a2 a3 cI r15.1 r15.2.1 r15.2.2 sizeV)) H := hP
            refine z_iinc C0 [(4, .int (zI (i5 + (-1)))), (0, .ref a0), (1, .int (zI p1)), (2, .int (zI p2)), (3, .int (zI p3))] dX2_insert_69 hl 4 rfl (by decide) rfl (fun ls hl => ?_)
            refine z_goto C0 17 dX2_insert_72 (by decide) ?_
            exact ih (i5 + (-1)) r15.1 r15.2.1 r15.2.2 out hf K _ _ hP hS ls (lv_sub hl [1, 2, 3, 4, 0] rfl)
    obtain ⟨r20, hE21, hf⟩ := zbind hf
    refine L19 _ sizeV whenV planeV stripV r20 hE21 ?_ _ _ hP hS ls (lv_sub hl [1, 2, 3, 4, 0] rfl)
    intro H locs hP hS ls hl
    refine z_aload_n C0 dX2_insert_75 rfl (lv_at hl 0 rfl) ?_
    refine z_iload C0 dX2_insert_76 (lv_at hl 4 rfl) ?_
    refine z_iload_n C0 dX2_insert_78 rfl (lv_at hl 1 rfl) ?_
    refine z_iload_n C0 dX2_insert_79 rfl (lv_at hl 2 rfl) ?_
    refine z_iload_n C0 dX2_insert_80 rfl (lv_at hl 3 rfl) ?_
    obtain ⟨r22, hc23, hf⟩ := zbind hf
    refine z_callFv (rest := []) C0 hP (zD hD rfl) hS (zmX2_put l D cI cZ a0 a1 a2 a3 _ r20.2.1 r20.2.2.1 r20.2.2.2 sizeV r20.1 p1 p2 p3 r22 hc23) (zkX2_33 ⟨by decide, by decide⟩ C0.2.2.2.2.1) 2 rfl rfl rfl rfl hl.1 (Nat.le_of_ble_eq_true rfl) dX2_insert_81 ⟨Nat.zero_le _, Nat.zero_le _⟩ (fun H locs hP hS => ?_)
    have hP : va_P D vwCl ((wR a0 a1 a2 a3 cI r22.1 r22.2.1 r22.2.2 sizeV)) H := hP
    refine z_aload_n C0 dX2_insert_84 rfl (lv_at hl 0 rfl) ?_
    refine z_dup C0 dX2_insert_85 rfl ?_
    refine zgX2_21 C0 hP 0 rfl (.int (zI sizeV)) rfl dX2_insert_86 ?_
    refine z_iconst C0 dX2_insert_89 ?_
    refine z_iadd C0 dX2_insert_90 ?_
    refine zpX2_21 C0 hP (zD hD rfl) hS 0 rfl (Nat.le_of_ble_eq_true rfl) dX2_insert_91 (fun H locs hP hS => ?_)
    have hP : va_P D vwCl ((wR a0 a1 a2 a3 cI r22.1 r22.2.1 r22.2.2 (sizeV + 1))) H := hP
    cases hf
    exact hret hP hS dX2_insert_94
  · have hf := zif_neg hf c24
    cases hf
    exact hret hP hS dX2_insert_10
set_option maxHeartbeats 4000000 in
set_option maxRecDepth 100000 in
theorem zmX2_countOf (l : Launch) (D : va_G) (cI cZ : ClassId) (a0 : Nat) (a1 : Nat) (a2 : Nat) (a3 : Nat) (sz : Nat) (whenV : (Nat → Int)) (planeV : (Nat → Int)) (stripV : (Nat → Int)) (sizeV : Int) (p1 : Int) (p2 : Int) (o : Int) (hf : fX2_countOf (zk_R whenV planeV stripV sizeV) p1 p2 = some o) : Met l yX2_countOf (zW yX2_countOf cX2_countOf 5 (some .int)) rmX2_countOf (va_Pc [.ref a0, .int (zI p1), .int (zI p2)] (zPre D cI cZ ((wR a0 a1 a2 a3 cI whenV planeV stripV sizeV)) sz)) (va_Qi (fun r' (_ : Unit) => r' = zI o) (fun _ t => va_P D vwCl ((wR a0 a1 a2 a3 cI whenV planeV stripV sizeV)) t.heap) (va_A ((wR a0 a1 a2 a3 cI whenV planeV stripV sizeV)) sz)) 0 0 (va_A ((wR a0 a1 a2 a3 cI whenV planeV stripV sizeV)) sz) := by
  unfold fX2_countOf at hf
  refine z_enter_i (own := RX2) (by decide +kernel) rfl (Nat.le_of_ble_eq_true rfl) ?_
  intro p e s m args below meth c A Q C0 hP hD hS hret ls hl
  have hl : lv_has ls 5 [(0, .ref a0), (1, .int (zI p1)), (2, .int (zI p2))] := hl
  refine z_iconst C0 dX2_countOf_0 ?_
  refine z_istore_n C0 [(3, .int (zI 0)), (0, .ref a0), (1, .int (zI p1)), (2, .int (zI p2))] dX2_countOf_1 rfl hl (by decide) rfl (fun ls hl => ?_)
  refine z_iconst C0 dX2_countOf_2 ?_
  refine z_istore C0 [(4, .int (zI 0)), (3, .int (zI 0)), (0, .ref a0), (1, .int (zI p1)), (2, .int (zI p2))] dX2_countOf_3 hl (by decide) rfl (fun ls hl => ?_)
  have L19 : ∀ (zn : Nat) (i4 : Int) (i5 : Int) (out : Int), fX2_countOf_L5 zn (zk_R whenV planeV stripV sizeV) p1 p2 i4 i5 = some out → (∀ (H : Heap) (locs : List Loc), va_P D vwCl ((wR a0 a1 a2 a3 cI whenV planeV stripV sizeV)) H → va_S A s.heap H locs → ∀ ls : Array Slot, lv_has ls 5 [(3, .int (zI out))] → W p l e rmX2_countOf s m args below meth c H locs 0 0 Q (F0 m 40 ls [])) → ∀ (H : Heap) (locs : List Loc), va_P D vwCl ((wR a0 a1 a2 a3 cI whenV planeV stripV sizeV)) H → va_S A s.heap H locs → ∀ ls : Array Slot, lv_has ls 5 [(0, .ref a0), (1, .int (zI p1)), (2, .int (zI p2)), (3, .int (zI i4)), (4, .int (zI i5))] → W p l e rmX2_countOf s m args below meth c H locs 0 0 Q (F0 m 5 ls []) := by
    intro zn
    induction zn with
    | zero =>
      intro i4 i5 out hf
      rw [fX2_countOf_L5_z] at hf
      cases hf
    | succ zn ih =>
      intro i4 i5 out hf K H locs hP hS ls hl
      rw [fX2_countOf_L5_s] at hf
      refine z_iload C0 dX2_countOf_5 (lv_at hl 4 rfl) ?_
      refine z_iload_n C0 dX2_countOf_7 rfl (lv_at hl 2 rfl) ?_
      refine z_icmpge C0 40 dX2_countOf_8 (by decide) (fun c18 => ?_) (fun c18 => ?_)
      · have hf := zif_pos hf c18
        cases hf
        exact K _ _ hP hS ls (lv_sub hl [3] rfl)
      · have hf := zif_neg hf c18
        refine z_aload_n C0 dX2_countOf_11 rfl (lv_at hl 0 rfl) ?_
        refine z_iload C0 dX2_countOf_12 (lv_at hl 4 rfl) ?_
        obtain ⟨r10, hc11, hf⟩ := zbind hf
        refine z_callFi (rest := []) C0 hP (zD hD rfl) hS (zmX2_has l D cI cZ a0 a1 a2 a3 _ whenV planeV stripV sizeV i5 r10 hc11) (zkX2_25 ⟨by decide, by decide⟩ C0.2.2.2.2.1) 2 rfl rfl rfl rfl hl.1 (Nat.le_of_ble_eq_true rfl) dX2_countOf_14 ⟨Nat.zero_le _, Nat.zero_le _⟩ (fun H locs hP hS => ?_)
        have hP : va_P D vwCl ((wR a0 a1 a2 a3 cI whenV planeV stripV sizeV)) H := hP
        refine z_ifeq C0 40 dX2_countOf_17 (by decide) (fun c17 => ?_) (fun c17 => ?_)
        · have hf := zif_pos hf c17
          cases hf
          exact K _ _ hP hS ls (lv_sub hl [3] rfl)
        · have hf := zif_neg hf c17
          refine z_aload_n C0 dX2_countOf_20 rfl (lv_at hl 0 rfl) ?_
          refine zgX2_15 C0 hP 0 rfl (.ref a2) rfl dX2_countOf_21 ?_
          refine z_iload C0 dX2_countOf_24 (lv_at hl 4 rfl) ?_
          obtain ⟨g12, hf⟩ := zg_some hf
          refine z_iald C0 hP 2 rfl (Nat.le_of_ble_eq_true rfl) g12 dX2_countOf_26 ?_
          refine z_iload_n C0 dX2_countOf_27 rfl (lv_at hl 1 rfl) ?_
          obtain ⟨r13, hE16, hf⟩ := zbind hf
          have J14 : ∀ (H : Heap) (locs : List Loc), va_P D vwCl ((wR a0 a1 a2 a3 cI whenV planeV stripV sizeV)) H → va_S A s.heap H locs → ∀ ls : Array Slot, lv_has ls 5 [(0, .ref a0), (1, .int (zI p1)), (2, .int (zI p2)), (3, .int (zI r13)), (4, .int (zI i5))] → W p l e rmX2_countOf s m args below meth c H locs 0 0 Q (F0 m 34 ls []) := by
            intro H locs hP hS ls hl
            refine z_iinc C0 [(4, .int (zI (i5 + 1))), (0, .ref a0), (1, .int (zI p1)), (2, .int (zI p2)), (3, .int (zI r13))] dX2_countOf_34 hl 4 rfl (by decide) rfl (fun ls hl => ?_)
            refine z_goto C0 5 dX2_countOf_37 (by decide) ?_
            exact ih r13 (i5 + 1) out hf K _ _ hP hS ls (lv_sub hl [1, 2, 3, 4, 0] rfl)
          have hf := hE16
          refine z_icmpne C0 34 dX2_countOf_28 (by decide) (fun c15 => ?_) (fun c15 => ?_)
          · have hf := zif_neg hf c15
            cases hf
            exact J14 _ _ hP hS ls (lv_sub hl [0, 1, 2, 3, 4] rfl)
          · have hf := zif_pos hf c15
            refine z_iinc C0 [(3, .int (zI (i4 + 1))), (0, .ref a0), (1, .int (zI p1)), (2, .int (zI p2)), (4, .int (zI i5))] dX2_countOf_31 hl 3 rfl (by decide) rfl (fun ls hl => ?_)
            cases hf
            exact J14 _ _ hP hS ls (lv_sub hl [1, 2, 3, 0, 4] rfl)
  obtain ⟨r20, hE21, hf⟩ := zbind hf
  refine L19 _ 0 0 r20 hE21 ?_ _ _ hP hS ls (lv_sub hl [2, 3, 4, 1, 0] rfl)
  intro H locs hP hS ls hl
  refine z_iload_n C0 dX2_countOf_40 rfl (lv_at hl 0 rfl) ?_
  cases hf
  exact hret hP hS dX2_countOf_41
set_option maxHeartbeats 4000000 in
set_option maxRecDepth 100000 in
theorem zmX2_countApart (l : Launch) (D : va_G) (cI cZ : ClassId) (a0 : Nat) (a1 : Nat) (a2 : Nat) (a3 : Nat) (sz : Nat) (whenV : (Nat → Int)) (planeV : (Nat → Int)) (stripV : (Nat → Int)) (sizeV : Int) (p1 : Int) (p2 : Int) (p3 : Int) (p4 : Int) (o : Int) (hf : fX2_countApart (zk_R whenV planeV stripV sizeV) p1 p2 p3 p4 = some o) : Met l yX2_countApart (zW yX2_countApart cX2_countApart 10 (some .int)) rmX2_countApart (va_Pc [.ref a0, .int (zI p1), .int (zI p2), .int (zI p3), .int (zI p4)] (zPre D cI cZ ((wR a0 a1 a2 a3 cI whenV planeV stripV sizeV)) sz)) (va_Qi (fun r' (_ : Unit) => r' = zI o) (fun _ t => va_P D vwCl ((wR a0 a1 a2 a3 cI whenV planeV stripV sizeV)) t.heap) (va_A ((wR a0 a1 a2 a3 cI whenV planeV stripV sizeV)) sz)) 0 0 (va_A ((wR a0 a1 a2 a3 cI whenV planeV stripV sizeV)) sz) := by
  unfold fX2_countApart at hf
  refine z_enter_i (own := RX2) (by decide +kernel) rfl (Nat.le_of_ble_eq_true rfl) ?_
  intro p e s m args below meth c A Q C0 hP hD hS hret ls hl
  have hl : lv_has ls 10 [(0, .ref a0), (1, .int (zI p1)), (2, .int (zI p2)), (3, .int (zI p3)), (4, .int (zI p4))] := hl
  refine z_iconst C0 dX2_countApart_0 ?_
  refine z_istore C0 [(5, .int (zI 0)), (0, .ref a0), (1, .int (zI p1)), (2, .int (zI p2)), (3, .int (zI p3)), (4, .int (zI p4))] dX2_countApart_1 hl (by decide) rfl (fun ls hl => ?_)
  refine z_iconst C0 dX2_countApart_3 ?_
  refine z_istore C0 [(6, .int (zI 0)), (5, .int (zI 0)), (0, .ref a0), (1, .int (zI p1)), (2, .int (zI p2)), (3, .int (zI p3)), (4, .int (zI p4))] dX2_countApart_4 hl (by decide) rfl (fun ls hl => ?_)
  refine z_iconst C0 dX2_countApart_6 ?_
  refine z_istore C0 [(7, .int (zI 0)), (6, .int (zI 0)), (5, .int (zI 0)), (0, .ref a0), (1, .int (zI p1)), (2, .int (zI p2)), (3, .int (zI p3)), (4, .int (zI p4))] dX2_countApart_7 hl (by decide) rfl (fun ls hl => ?_)
  have L74 : ∀ (zn : Nat) (i6 : Int) (i7 : Int) (i8 : Int) (out : Int), fX2_countApart_L9 zn (zk_R whenV planeV stripV sizeV) p1 p2 p3 p4 i6 i7 i8 = some out → (∀ (H : Heap) (locs : List Loc), va_P D vwCl ((wR a0 a1 a2 a3 cI whenV planeV stripV sizeV)) H → va_S A s.heap H locs → ∀ ls : Array Slot, lv_has ls 10 [(5, .int (zI out))] → W p l e rmX2_countApart s m args below meth c H locs 0 0 Q (F0 m 142 ls [])) → ∀ (H : Heap) (locs : List Loc), va_P D vwCl ((wR a0 a1 a2 a3 cI whenV planeV stripV sizeV)) H → va_S A s.heap H locs → ∀ ls : Array Slot, lv_has ls 10 [(0, .ref a0), (1, .int (zI p1)), (2, .int (zI p2)), (3, .int (zI p3)), (4, .int (zI p4)), (5, .int (zI i6)), (6, .int (zI i7)), (7, .int (zI i8))] → W p l e rmX2_countApart s m args below meth c H locs 0 0 Q (F0 m 9 ls []) := by
    intro zn
    induction zn with
    | zero =>
      intro i6 i7 i8 out hf
      rw [fX2_countApart_L9_z] at hf
      cases hf
    | succ zn ih =>
      intro i6 i7 i8 out hf K H locs hP hS ls hl
      rw [fX2_countApart_L9_s] at hf
      refine z_iload C0 dX2_countApart_9 (lv_at hl 7 rfl) ?_
      refine z_iload C0 dX2_countApart_11 (lv_at hl 4 rfl) ?_
      refine z_icmpge C0 142 dX2_countApart_13 (by decide) (fun c73 => ?_) (fun c73 => ?_)
      · have hf := zif_pos hf c73
        cases hf
        exact K _ _ hP hS ls (lv_sub hl [5] rfl)
      · have hf := zif_neg hf c73
        refine z_aload_n C0 dX2_countApart_16 rfl (lv_at hl 0 rfl) ?_
        refine z_iload C0 dX2_countApart_17 (lv_at hl 7 rfl) ?_
        obtain ⟨r13, hc14, hf⟩ := zbind hf
        refine z_callFi (rest := []) C0 hP (zD hD rfl) hS (zmX2_has l D cI cZ a0 a1 a2 a3 _ whenV planeV stripV sizeV i8 r13 hc14) (zkX2_25 ⟨by decide, by decide⟩ C0.2.2.2.2.1) 2 rfl rfl rfl rfl hl.1 (Nat.le_of_ble_eq_true rfl) dX2_countApart_19 ⟨Nat.zero_le _, Nat.zero_le _⟩ (fun H locs hP hS => ?_)
        have hP : va_P D vwCl ((wR a0 a1 a2 a3 cI whenV planeV stripV sizeV)) H := hP
        refine z_ifeq C0 142 dX2_countApart_22 (by decide) (fun c72 => ?_) (fun c72 => ?_)
        · have hf := zif_pos hf c72
          cases hf
          exact K _ _ hP hS ls (lv_sub hl [5] rfl)
        · have hf := zif_neg hf c72
          refine z_aload_n C0 dX2_countApart_25 rfl (lv_at hl 0 rfl) ?_
          refine zgX2_15 C0 hP 0 rfl (.ref a2) rfl dX2_countApart_26 ?_
          refine z_iload C0 dX2_countApart_29 (lv_at hl 7 rfl) ?_
          obtain ⟨g15, hf⟩ := zg_some hf
          refine z_iald C0 hP 2 rfl (Nat.le_of_ble_eq_true rfl) g15 dX2_countApart_31 ?_
          refine z_iload_n C0 dX2_countApart_32 rfl (lv_at hl 1 rfl) ?_
          obtain ⟨r16, hE71, hf⟩ := zbind hf
          have J17 : ∀ (H : Heap) (locs : List Loc), va_P D vwCl ((wR a0 a1 a2 a3 cI whenV planeV stripV sizeV)) H → va_S A s.heap H locs → ∀ ls : Array Slot, lv_has ls 10 [(0, .ref a0), (1, .int (zI p1)), (2, .int (zI p2)), (3, .int (zI p3)), (4, .int (zI p4)), (5, .int (zI r16.1)), (6, .int (zI r16.2)), (7, .int (zI i8))] → W p l e rmX2_countApart s m args below meth c H locs 0 0 Q (F0 m 136 ls []) := by
            intro H locs hP hS ls hl
            refine z_iinc C0 [(7, .int (zI (i8 + 1))), (0, .ref a0), (1, .int (zI p1)), (2, .int (zI p2)), (3, .int (zI p3)), (4, .int (zI p4)), (5, .int (zI r16.1)), (6, .int (zI r16.2))] dX2_countApart_136 hl 7 rfl (by decide) rfl (fun ls hl => ?_)
            refine z_goto C0 9 dX2_countApart_139 (by decide) ?_
            exact ih r16.1 r16.2 (i8 + 1) out hf K _ _ hP hS ls (lv_sub hl [1, 2, 3, 4, 5, 6, 7, 0] rfl)
          have hf := hE71
          refine z_icmpeq C0 39 dX2_countApart_33 (by decide) (fun c70 => ?_) (fun c70 => ?_)
          · have hf := zif_pos hf c70
            refine z_aload_n C0 dX2_countApart_39 rfl (lv_at hl 0 rfl) ?_
            refine zgX2_9 C0 hP 0 rfl (.ref a1) rfl dX2_countApart_40 ?_
            refine z_iload C0 dX2_countApart_43 (lv_at hl 7 rfl) ?_
            obtain ⟨g18, hf⟩ := zg_some hf
            refine z_iald C0 hP 1 rfl (Nat.le_of_ble_eq_true rfl) g18 dX2_countApart_45 ?_
            refine z_iload_n C0 dX2_countApart_46 rfl (lv_at hl 3 rfl) ?_
            refine z_iadd C0 dX2_countApart_47 ?_
            obtain ⟨v19, hv19, hf⟩ := zl_some hf
            refine z_name hv19 ?_
            refine z_istore C0 [(8, .int (zI v19)), (0, .ref a0), (1, .int (zI p1)), (2, .int (zI p2)), (3, .int (zI p3)), (4, .int (zI p4)), (5, .int (zI i6)), (6, .int (zI i7)), (7, .int (zI i8))] dX2_countApart_48 hl (by decide) rfl (fun ls hl => ?_)
            have L39 : ∀ (zn : Nat) (i26 : Int) (out : Int), fX2_countApart_L50 zn (zk_R whenV planeV stripV sizeV) p1 p2 p3 p4 i6 i8 v19 i26 = some out → (∀ (H : Heap) (locs : List Loc), va_P D vwCl ((wR a0 a1 a2 a3 cI whenV planeV stripV sizeV)) H → va_S A s.heap H locs → ∀ ls : Array Slot, lv_has ls 10 [(0, .ref a0), (1, .int (zI p1)), (2, .int (zI p2)), (3, .int (zI p3)), (4, .int (zI p4)), (5, .int (zI i6)), (6, .int (zI out)), (7, .int (zI i8)), (8, .int (zI v19))] → W p l e rmX2_countApart s m args below meth c H locs 0 0 Q (F0 m 84 ls [])) → ∀ (H : Heap) (locs : List Loc), va_P D vwCl ((wR a0 a1 a2 a3 cI whenV planeV stripV sizeV)) H → va_S A s.heap H locs → ∀ ls : Array Slot, lv_has ls 10 [(0, .ref a0), (1, .int (zI p1)), (2, .int (zI p2)), (3, .int (zI p3)), (4, .int (zI p4)), (5, .int (zI i6)), (6, .int (zI i26)), (7, .int (zI i8)), (8, .int (zI v19))] → W p l e rmX2_countApart s m args below meth c H locs 0 0 Q (F0 m 50 ls []) := by
              intro zn
              induction zn with
              | zero =>
                intro i26 out hf
                rw [fX2_countApart_L50_z] at hf
                cases hf
              | succ zn ih =>
                intro i26 out hf K H locs hP hS ls hl
                rw [fX2_countApart_L50_s] at hf
                refine z_iload C0 dX2_countApart_50 (lv_at hl 6 rfl) ?_
                refine z_iload C0 dX2_countApart_52 (lv_at hl 4 rfl) ?_
                refine z_icmpge C0 84 dX2_countApart_54 (by decide) (fun c38 => ?_) (fun c38 => ?_)
                · have hf := zif_pos hf c38
                  cases hf
                  exact K _ _ hP hS ls (lv_sub hl [0, 1, 2, 3, 4, 5, 6, 7, 8] rfl)
                · have hf := zif_neg hf c38
                  refine z_aload_n C0 dX2_countApart_57 rfl (lv_at hl 0 rfl) ?_
                  refine z_iload C0 dX2_countApart_58 (lv_at hl 6 rfl) ?_
                  obtain ⟨r33, hc34, hf⟩ := zbind hf
                  refine z_callFi (rest := []) C0 hP (zD hD rfl) hS (zmX2_has l D cI cZ a0 a1 a2 a3 _ whenV planeV stripV sizeV i26 r33 hc34) (zkX2_25 ⟨by decide, by decide⟩ C0.2.2.2.2.1) 2 rfl rfl rfl rfl hl.1 (Nat.le_of_ble_eq_true rfl) dX2_countApart_60 ⟨Nat.zero_le _, Nat.zero_le _⟩ (fun H locs hP hS => ?_)
                  have hP : va_P D vwCl ((wR a0 a1 a2 a3 cI whenV planeV stripV sizeV)) H := hP
                  refine z_ifeq C0 84 dX2_countApart_63 (by decide) (fun c37 => ?_) (fun c37 => ?_)
                  · have hf := zif_pos hf c37
                    cases hf
                    exact K _ _ hP hS ls (lv_sub hl [0, 1, 2, 3, 4, 5, 6, 7, 8] rfl)
                  · have hf := zif_neg hf c37
                    refine z_aload_n C0 dX2_countApart_66 rfl (lv_at hl 0 rfl) ?_
                    refine zgX2_9 C0 hP 0 rfl (.ref a1) rfl dX2_countApart_67 ?_
                    refine z_iload C0 dX2_countApart_70 (lv_at hl 6 rfl) ?_
                    obtain ⟨g35, hf⟩ := zg_some hf
                    refine z_iald C0 hP 1 rfl (Nat.le_of_ble_eq_true rfl) g35 dX2_countApart_72 ?_
                    refine z_iload C0 dX2_countApart_73 (lv_at hl 8 rfl) ?_
                    refine z_icmpge C0 84 dX2_countApart_75 (by decide) (fun c36 => ?_) (fun c36 => ?_)
                    · have hf := zif_pos hf c36
                      cases hf
                      exact K _ _ hP hS ls (lv_sub hl [0, 1, 2, 3, 4, 5, 6, 7, 8] rfl)
                    · have hf := zif_neg hf c36
                      refine z_iinc C0 [(6, .int (zI (i26 + 1))), (0, .ref a0), (1, .int (zI p1)), (2, .int (zI p2)), (3, .int (zI p3)), (4, .int (zI p4)), (5, .int (zI i6)), (7, .int (zI i8)), (8, .int (zI v19))] dX2_countApart_78 hl 6 rfl (by decide) rfl (fun ls hl => ?_)
                      refine z_goto C0 50 dX2_countApart_81 (by decide) ?_
                      exact ih (i26 + 1) out hf K _ _ hP hS ls (lv_sub hl [1, 2, 3, 4, 5, 6, 0, 7, 8] rfl)
            obtain ⟨r40, hE41, hf⟩ := zbind hf
            refine L39 _ i7 r40 hE41 ?_ _ _ hP hS ls (lv_sub hl [1, 2, 3, 4, 5, 6, 7, 8, 0] rfl)
            intro H locs hP hS ls hl
            refine z_iload C0 dX2_countApart_84 (lv_at hl 6 rfl) ?_
            refine z_istore C0 [(9, .int (zI r40)), (0, .ref a0), (1, .int (zI p1)), (2, .int (zI p2)), (3, .int (zI p3)), (4, .int (zI p4)), (5, .int (zI i6)), (6, .int (zI r40)), (7, .int (zI i8)), (8, .int (zI v19))] dX2_countApart_86 hl (by decide) rfl (fun ls hl => ?_)
            have L67 : ∀ (zn : Nat) (i47 : Int) (i51 : Int) (out : Int), fX2_countApart_L88 zn (zk_R whenV planeV stripV sizeV) p1 p2 p3 p4 r40 i8 v19 i47 i51 = some out → (∀ (H : Heap) (locs : List Loc), va_P D vwCl ((wR a0 a1 a2 a3 cI whenV planeV stripV sizeV)) H → va_S A s.heap H locs → ∀ ls : Array Slot, lv_has ls 10 [(0, .ref a0), (1, .int (zI p1)), (2, .int (zI p2)), (3, .int (zI p3)), (4, .int (zI p4)), (5, .int (zI out)), (6, .int (zI r40)), (7, .int (zI i8))] → W p l e rmX2_countApart s m args below meth c H locs 0 0 Q (F0 m 136 ls [])) → ∀ (H : Heap) (locs : List Loc), va_P D vwCl ((wR a0 a1 a2 a3 cI whenV planeV stripV sizeV)) H → va_S A s.heap H locs → ∀ ls : Array Slot, lv_has ls 10 [(0, .ref a0), (1, .int (zI p1)), (2, .int (zI p2)), (3, .int (zI p3)), (4, .int (zI p4)), (5, .int (zI i47)), (6, .int (zI r40)), (7, .int (zI i8)), (8, .int (zI v19)), (9, .int (zI i51))] → W p l e rmX2_countApart s m args below meth c H locs 0 0 Q (F0 m 88 ls []) := by
              intro zn
              induction zn with
              | zero =>
                intro i47 i51 out hf
                rw [fX2_countApart_L88_z] at hf
                cases hf
              | succ zn ih =>
                intro i47 i51 out hf K H locs hP hS ls hl
                rw [fX2_countApart_L88_s] at hf
                refine z_iload C0 dX2_countApart_88 (lv_at hl 9 rfl) ?_
                refine z_iload C0 dX2_countApart_90 (lv_at hl 4 rfl) ?_
                refine z_icmpge C0 136 dX2_countApart_92 (by decide) (fun c66 => ?_) (fun c66 => ?_)
                · have hf := zif_pos hf c66
                  cases hf
                  exact K _ _ hP hS ls (lv_sub hl [0, 1, 2, 3, 4, 5, 6, 7] rfl)
                · have hf := zif_neg hf c66
                  refine z_aload_n C0 dX2_countApart_95 rfl (lv_at hl 0 rfl) ?_
                  refine z_iload C0 dX2_countApart_96 (lv_at hl 9 rfl) ?_
                  obtain ⟨r56, hc57, hf⟩ := zbind hf
                  refine z_callFi (rest := []) C0 hP (zD hD rfl) hS (zmX2_has l D cI cZ a0 a1 a2 a3 _ whenV planeV stripV sizeV i51 r56 hc57) (zkX2_25 ⟨by decide, by decide⟩ C0.2.2.2.2.1) 2 rfl rfl rfl rfl hl.1 (Nat.le_of_ble_eq_true rfl) dX2_countApart_98 ⟨Nat.zero_le _, Nat.zero_le _⟩ (fun H locs hP hS => ?_)
                  have hP : va_P D vwCl ((wR a0 a1 a2 a3 cI whenV planeV stripV sizeV)) H := hP
                  refine z_ifeq C0 136 dX2_countApart_101 (by decide) (fun c65 => ?_) (fun c65 => ?_)
                  · have hf := zif_pos hf c65
                    cases hf
                    exact K _ _ hP hS ls (lv_sub hl [0, 1, 2, 3, 4, 5, 6, 7] rfl)
                  · have hf := zif_neg hf c65
                    refine z_aload_n C0 dX2_countApart_104 rfl (lv_at hl 0 rfl) ?_
                    refine zgX2_9 C0 hP 0 rfl (.ref a1) rfl dX2_countApart_105 ?_
                    refine z_iload C0 dX2_countApart_108 (lv_at hl 9 rfl) ?_
                    obtain ⟨g58, hf⟩ := zg_some hf
                    refine z_iald C0 hP 1 rfl (Nat.le_of_ble_eq_true rfl) g58 dX2_countApart_110 ?_
                    refine z_iload C0 dX2_countApart_111 (lv_at hl 8 rfl) ?_
                    refine z_icmpne C0 136 dX2_countApart_113 (by decide) (fun c64 => ?_) (fun c64 => ?_)
                    · have hf := zif_neg hf c64
                      cases hf
                      exact K _ _ hP hS ls (lv_sub hl [0, 1, 2, 3, 4, 5, 6, 7] rfl)
                    · have hf := zif_pos hf c64
                      refine z_aload_n C0 dX2_countApart_116 rfl (lv_at hl 0 rfl) ?_
                      refine zgX2_15 C0 hP 0 rfl (.ref a2) rfl dX2_countApart_117 ?_
                      refine z_iload C0 dX2_countApart_120 (lv_at hl 9 rfl) ?_
                      obtain ⟨g59, hf⟩ := zg_some hf
                      refine z_iald C0 hP 2 rfl (Nat.le_of_ble_eq_true rfl) g59 dX2_countApart_122 ?_
                      refine z_iload_n C0 dX2_countApart_123 rfl (lv_at hl 2 rfl) ?_
                      obtain ⟨r60, hE63, hf⟩ := zbind hf
                      have J61 : ∀ (H : Heap) (locs : List Loc), va_P D vwCl ((wR a0 a1 a2 a3 cI whenV planeV stripV sizeV)) H → va_S A s.heap H locs → ∀ ls : Array Slot, lv_has ls 10 [(0, .ref a0), (1, .int (zI p1)), (2, .int (zI p2)), (3, .int (zI p3)), (4, .int (zI p4)), (5, .int (zI r60)), (6, .int (zI r40)), (7, .int (zI i8)), (8, .int (zI v19)), (9, .int (zI i51))] → W p l e rmX2_countApart s m args below meth c H locs 0 0 Q (F0 m 130 ls []) := by
                        intro H locs hP hS ls hl
                        refine z_iinc C0 [(9, .int (zI (i51 + 1))), (0, .ref a0), (1, .int (zI p1)), (2, .int (zI p2)), (3, .int (zI p3)), (4, .int (zI p4)), (5, .int (zI r60)), (6, .int (zI r40)), (7, .int (zI i8)), (8, .int (zI v19))] dX2_countApart_130 hl 9 rfl (by decide) rfl (fun ls hl => ?_)
                        refine z_goto C0 88 dX2_countApart_133 (by decide) ?_
                        exact ih r60 (i51 + 1) out hf K _ _ hP hS ls (lv_sub hl [1, 2, 3, 4, 5, 6, 7, 8, 9, 0] rfl)
                      have hf := hE63
                      refine z_icmpne C0 130 dX2_countApart_124 (by decide) (fun c62 => ?_) (fun c62 => ?_)
                      · have hf := zif_neg hf c62
                        cases hf
                        exact J61 _ _ hP hS ls (lv_sub hl [0, 1, 2, 3, 4, 5, 6, 7, 8, 9] rfl)
                      · have hf := zif_pos hf c62
                        refine z_iinc C0 [(5, .int (zI (i47 + 1))), (0, .ref a0), (1, .int (zI p1)), (2, .int (zI p2)), (3, .int (zI p3)), (4, .int (zI p4)), (6, .int (zI r40)), (7, .int (zI i8)), (8, .int (zI v19)), (9, .int (zI i51))] dX2_countApart_127 hl 5 rfl (by decide) rfl (fun ls hl => ?_)
                        cases hf
                        exact J61 _ _ hP hS ls (lv_sub hl [1, 2, 3, 4, 5, 0, 6, 7, 8, 9] rfl)
            obtain ⟨r68, hE69, hf⟩ := zbind hf
            refine L67 _ i6 r40 r68 hE69 ?_ _ _ hP hS ls (lv_sub hl [1, 2, 3, 4, 5, 6, 7, 8, 9, 0] rfl)
            intro H locs hP hS ls hl
            cases hf
            exact J17 _ _ hP hS ls (lv_sub hl [0, 1, 2, 3, 4, 5, 6, 7] rfl)
          · have hf := zif_neg hf c70
            refine z_goto C0 136 dX2_countApart_36 (by decide) ?_
            cases hf
            exact J17 _ _ hP hS ls (lv_sub hl [0, 1, 2, 3, 4, 5, 6, 7] rfl)
  obtain ⟨r75, hE76, hf⟩ := zbind hf
  refine L74 _ 0 0 0 r75 hE76 ?_ _ _ hP hS ls (lv_sub hl [3, 4, 5, 6, 7, 2, 1, 0] rfl)
  intro H locs hP hS ls hl
  refine z_iload C0 dX2_countApart_142 (lv_at hl 0 rfl) ?_
  cases hf
  exact hret hP hS dX2_countApart_144
set_option maxHeartbeats 4000000 in
set_option maxRecDepth 100000 in
theorem zmX2_indexOf (l : Launch) (D : va_G) (cI cZ : ClassId) (a0 : Nat) (a1 : Nat) (a2 : Nat) (a3 : Nat) (sz : Nat) (whenV : (Nat → Int)) (planeV : (Nat → Int)) (stripV : (Nat → Int)) (sizeV : Int) (p1 : Int) (p2 : Int) (p3 : Int) (o : Int) (hf : fX2_indexOf (zk_R whenV planeV stripV sizeV) p1 p2 p3 = some o) : Met l yX2_indexOf (zW yX2_indexOf cX2_indexOf 5 (some .int)) rmX2_indexOf (va_Pc [.ref a0, .int (zI p1), .int (zI p2), .int (zI p3)] (zPre D cI cZ ((wR a0 a1 a2 a3 cI whenV planeV stripV sizeV)) sz)) (va_Qi (fun r' (_ : Unit) => r' = zI o) (fun _ t => va_P D vwCl ((wR a0 a1 a2 a3 cI whenV planeV stripV sizeV)) t.heap) (va_A ((wR a0 a1 a2 a3 cI whenV planeV stripV sizeV)) sz)) 0 0 (va_A ((wR a0 a1 a2 a3 cI whenV planeV stripV sizeV)) sz) := by
  unfold fX2_indexOf at hf
  refine z_enter_i (own := RX2) (by decide +kernel) rfl (Nat.le_of_ble_eq_true rfl) ?_
  intro p e s m args below meth c A Q C0 hP hD hS hret ls hl
  have hl : lv_has ls 5 [(0, .ref a0), (1, .int (zI p1)), (2, .int (zI p2)), (3, .int (zI p3))] := hl
  refine z_iload_n C0 dX2_indexOf_0 rfl (lv_at hl 2 rfl) ?_
  refine z_istore C0 [(4, .int (zI p2)), (0, .ref a0), (1, .int (zI p1)), (2, .int (zI p2)), (3, .int (zI p3))] dX2_indexOf_1 hl (by decide) rfl (fun ls hl => ?_)
  have L15 : ∀ (zn : Nat) (i4 : Int), fX2_indexOf_L3 zn (zk_R whenV planeV stripV sizeV) p1 p3 i4 = some o → ∀ (H : Heap) (locs : List Loc), va_P D vwCl ((wR a0 a1 a2 a3 cI whenV planeV stripV sizeV)) H → va_S A s.heap H locs → ∀ ls : Array Slot, lv_has ls 5 [(0, .ref a0), (1, .int (zI p1)), (3, .int (zI p3)), (4, .int (zI i4))] → W p l e rmX2_indexOf s m args below meth c H locs 0 0 Q (F0 m 3 ls []) := by
    intro zn
    induction zn with
    | zero =>
      intro i4 hf
      rw [fX2_indexOf_L3_z] at hf
      cases hf
    | succ zn ih =>
      intro i4 hf H locs hP hS ls hl
      rw [fX2_indexOf_L3_s] at hf
      refine z_iload C0 dX2_indexOf_3 (lv_at hl 3 rfl) ?_
      refine z_iload_n C0 dX2_indexOf_5 rfl (lv_at hl 2 rfl) ?_
      refine z_icmpge C0 38 dX2_indexOf_6 (by decide) (fun c14 => ?_) (fun c14 => ?_)
      · have hf := zif_pos hf c14
        refine z_iconst C0 dX2_indexOf_38 ?_
        cases hf
        exact hret hP hS dX2_indexOf_39
      · have hf := zif_neg hf c14
        refine z_aload_n C0 dX2_indexOf_9 rfl (lv_at hl 0 rfl) ?_
        refine z_iload C0 dX2_indexOf_10 (lv_at hl 3 rfl) ?_
        obtain ⟨r9, hc10, hf⟩ := zbind hf
        refine z_callFi (rest := []) C0 hP (zD hD rfl) hS (zmX2_has l D cI cZ a0 a1 a2 a3 _ whenV planeV stripV sizeV i4 r9 hc10) (zkX2_25 ⟨by decide, by decide⟩ C0.2.2.2.2.1) 2 rfl rfl rfl rfl hl.1 (Nat.le_of_ble_eq_true rfl) dX2_indexOf_12 ⟨Nat.zero_le _, Nat.zero_le _⟩ (fun H locs hP hS => ?_)
        have hP : va_P D vwCl ((wR a0 a1 a2 a3 cI whenV planeV stripV sizeV)) H := hP
        refine z_ifeq C0 38 dX2_indexOf_15 (by decide) (fun c13 => ?_) (fun c13 => ?_)
        · have hf := zif_pos hf c13
          refine z_iconst C0 dX2_indexOf_38 ?_
          cases hf
          exact hret hP hS dX2_indexOf_39
        · have hf := zif_neg hf c13
          refine z_aload_n C0 dX2_indexOf_18 rfl (lv_at hl 0 rfl) ?_
          refine zgX2_15 C0 hP 0 rfl (.ref a2) rfl dX2_indexOf_19 ?_
          refine z_iload C0 dX2_indexOf_22 (lv_at hl 3 rfl) ?_
          obtain ⟨g11, hf⟩ := zg_some hf
          refine z_iald C0 hP 2 rfl (Nat.le_of_ble_eq_true rfl) g11 dX2_indexOf_24 ?_
          refine z_iload_n C0 dX2_indexOf_25 rfl (lv_at hl 1 rfl) ?_
          refine z_icmpne C0 32 dX2_indexOf_26 (by decide) (fun c12 => ?_) (fun c12 => ?_)
          · have hf := zif_neg hf c12
            refine z_iinc C0 [(4, .int (zI (i4 + 1))), (0, .ref a0), (1, .int (zI p1)), (3, .int (zI p3))] dX2_indexOf_32 hl 3 rfl (by decide) rfl (fun ls hl => ?_)
            refine z_goto C0 3 dX2_indexOf_35 (by decide) ?_
            exact ih (i4 + 1) hf _ _ hP hS ls (lv_sub hl [1, 2, 3, 0] rfl)
          · have hf := zif_pos hf c12
            refine z_iload C0 dX2_indexOf_29 (lv_at hl 3 rfl) ?_
            cases hf
            exact hret hP hS dX2_indexOf_31
  exact L15 _ p2 hf _ _ hP hS ls (lv_sub hl [1, 2, 4, 0] rfl)
set_option maxHeartbeats 4000000 in
set_option maxRecDepth 100000 in
theorem zmX2_endOfGroup (l : Launch) (D : va_G) (cI cZ : ClassId) (a0 : Nat) (a1 : Nat) (a2 : Nat) (a3 : Nat) (sz : Nat) (whenV : (Nat → Int)) (planeV : (Nat → Int)) (stripV : (Nat → Int)) (sizeV : Int) (p1 : Int) (p2 : Int) (p3 : Int) (o : Int) (hf : fX2_endOfGroup (zk_R whenV planeV stripV sizeV) p1 p2 p3 = some o) : Met l yX2_endOfGroup (zW yX2_endOfGroup cX2_endOfGroup 6 (some .int)) rmX2_endOfGroup (va_Pc [.ref a0, .int (zI p1), .int (zI p2), .int (zI p3)] (zPre D cI cZ ((wR a0 a1 a2 a3 cI whenV planeV stripV sizeV)) sz)) (va_Qi (fun r' (_ : Unit) => r' = zI o) (fun _ t => va_P D vwCl ((wR a0 a1 a2 a3 cI whenV planeV stripV sizeV)) t.heap) (va_A ((wR a0 a1 a2 a3 cI whenV planeV stripV sizeV)) sz)) 0 0 (va_A ((wR a0 a1 a2 a3 cI whenV planeV stripV sizeV)) sz) := by
  unfold fX2_endOfGroup at hf
  refine z_enter_i (own := RX2) (by decide +kernel) rfl (Nat.le_of_ble_eq_true rfl) ?_
  intro p e s m args below meth c A Q C0 hP hD hS hret ls hl
  have hl : lv_has ls 6 [(0, .ref a0), (1, .int (zI p1)), (2, .int (zI p2)), (3, .int (zI p3))] := hl
  refine z_aload_n C0 dX2_endOfGroup_0 rfl (lv_at hl 0 rfl) ?_
  refine z_iload_n C0 dX2_endOfGroup_1 rfl (lv_at hl 1 rfl) ?_
  obtain ⟨r1, hc2, hf⟩ := zbind hf
  refine z_callFi (rest := []) C0 hP (zD hD rfl) hS (zmX2_whenAt l D cI cZ a0 a1 a2 a3 _ whenV planeV stripV sizeV p1 r1 hc2) (zkX2_37 ⟨by decide, by decide⟩ C0.2.2.2.2.1) 2 rfl rfl rfl rfl hl.1 (Nat.le_of_ble_eq_true rfl) dX2_endOfGroup_2 ⟨Nat.zero_le _, Nat.zero_le _⟩ (fun H locs hP hS => ?_)
  have hP : va_P D vwCl ((wR a0 a1 a2 a3 cI whenV planeV stripV sizeV)) H := hP
  refine z_iload_n C0 dX2_endOfGroup_5 rfl (lv_at hl 3 rfl) ?_
  refine z_iadd C0 dX2_endOfGroup_6 ?_
  obtain ⟨v3, hv3, hf⟩ := zl_some hf
  refine z_name hv3 ?_
  refine z_istore C0 [(4, .int (zI v3)), (0, .ref a0), (1, .int (zI p1)), (2, .int (zI p2)), (3, .int (zI p3))] dX2_endOfGroup_7 hl (by decide) rfl (fun ls hl => ?_)
  refine z_iload_n C0 dX2_endOfGroup_9 rfl (lv_at hl 2 rfl) ?_
  refine z_iconst C0 dX2_endOfGroup_10 ?_
  refine z_iadd C0 dX2_endOfGroup_11 ?_
  obtain ⟨v4, hv4, hf⟩ := zl_some hf
  refine z_name hv4 ?_
  refine z_istore C0 [(5, .int (zI v4)), (4, .int (zI v3)), (0, .ref a0), (1, .int (zI p1)), (2, .int (zI p2)), (3, .int (zI p3))] dX2_endOfGroup_12 hl (by decide) rfl (fun ls hl => ?_)
  have L19 : ∀ (zn : Nat) (i8 : Int) (out : Int), fX2_endOfGroup_L14 zn (zk_R whenV planeV stripV sizeV) p2 v3 i8 = some out → (∀ (H : Heap) (locs : List Loc), va_P D vwCl ((wR a0 a1 a2 a3 cI whenV planeV stripV sizeV)) H → va_S A s.heap H locs → ∀ ls : Array Slot, lv_has ls 6 [(5, .int (zI out))] → W p l e rmX2_endOfGroup s m args below meth c H locs 0 0 Q (F0 m 47 ls [])) → ∀ (H : Heap) (locs : List Loc), va_P D vwCl ((wR a0 a1 a2 a3 cI whenV planeV stripV sizeV)) H → va_S A s.heap H locs → ∀ ls : Array Slot, lv_has ls 6 [(0, .ref a0), (2, .int (zI p2)), (4, .int (zI v3)), (5, .int (zI i8))] → W p l e rmX2_endOfGroup s m args below meth c H locs 0 0 Q (F0 m 14 ls []) := by
    intro zn
    induction zn with
    | zero =>
      intro i8 out hf
      rw [fX2_endOfGroup_L14_z] at hf
      cases hf
    | succ zn ih =>
      intro i8 out hf K H locs hP hS ls hl
      rw [fX2_endOfGroup_L14_s] at hf
      refine z_iload C0 dX2_endOfGroup_14 (lv_at hl 3 rfl) ?_
      refine z_iload_n C0 dX2_endOfGroup_16 rfl (lv_at hl 1 rfl) ?_
      refine z_icmpge C0 47 dX2_endOfGroup_17 (by decide) (fun c18 => ?_) (fun c18 => ?_)
      · have hf := zif_pos hf c18
        cases hf
        exact K _ _ hP hS ls (lv_sub hl [3] rfl)
      · have hf := zif_neg hf c18
        refine z_aload_n C0 dX2_endOfGroup_20 rfl (lv_at hl 0 rfl) ?_
        refine z_iload C0 dX2_endOfGroup_21 (lv_at hl 3 rfl) ?_
        obtain ⟨r13, hc14, hf⟩ := zbind hf
        refine z_callFi (rest := []) C0 hP (zD hD rfl) hS (zmX2_has l D cI cZ a0 a1 a2 a3 _ whenV planeV stripV sizeV i8 r13 hc14) (zkX2_25 ⟨by decide, by decide⟩ C0.2.2.2.2.1) 2 rfl rfl rfl rfl hl.1 (Nat.le_of_ble_eq_true rfl) dX2_endOfGroup_23 ⟨Nat.zero_le _, Nat.zero_le _⟩ (fun H locs hP hS => ?_)
        have hP : va_P D vwCl ((wR a0 a1 a2 a3 cI whenV planeV stripV sizeV)) H := hP
        refine z_ifeq C0 47 dX2_endOfGroup_26 (by decide) (fun c17 => ?_) (fun c17 => ?_)
        · have hf := zif_pos hf c17
          cases hf
          exact K _ _ hP hS ls (lv_sub hl [3] rfl)
        · have hf := zif_neg hf c17
          refine z_aload_n C0 dX2_endOfGroup_29 rfl (lv_at hl 0 rfl) ?_
          refine zgX2_9 C0 hP 0 rfl (.ref a1) rfl dX2_endOfGroup_30 ?_
          refine z_iload C0 dX2_endOfGroup_33 (lv_at hl 3 rfl) ?_
          obtain ⟨g15, hf⟩ := zg_some hf
          refine z_iald C0 hP 1 rfl (Nat.le_of_ble_eq_true rfl) g15 dX2_endOfGroup_35 ?_
          refine z_iload C0 dX2_endOfGroup_36 (lv_at hl 2 rfl) ?_
          refine z_icmpgt C0 47 dX2_endOfGroup_38 (by decide) (fun c16 => ?_) (fun c16 => ?_)
          · have hf := zif_pos hf c16
            cases hf
            exact K _ _ hP hS ls (lv_sub hl [3] rfl)
          · have hf := zif_neg hf c16
            refine z_iinc C0 [(5, .int (zI (i8 + 1))), (0, .ref a0), (2, .int (zI p2)), (4, .int (zI v3))] dX2_endOfGroup_41 hl 3 rfl (by decide) rfl (fun ls hl => ?_)
            refine z_goto C0 14 dX2_endOfGroup_44 (by decide) ?_
            exact ih (i8 + 1) out hf K _ _ hP hS ls (lv_sub hl [1, 2, 3, 0] rfl)
  obtain ⟨r20, hE21, hf⟩ := zbind hf
  refine L19 _ v4 r20 hE21 ?_ _ _ hP hS ls (lv_sub hl [2, 4, 1, 0] rfl)
  intro H locs hP hS ls hl
  refine z_iload C0 dX2_endOfGroup_47 (lv_at hl 0 rfl) ?_
  cases hf
  exact hret hP hS dX2_endOfGroup_49
set_option maxHeartbeats 4000000 in
set_option maxRecDepth 100000 in
theorem zmX2_planesOf (l : Launch) (D : va_G) (cI cZ : ClassId) (a0 : Nat) (a1 : Nat) (a2 : Nat) (a3 : Nat) (sz : Nat) (whenV : (Nat → Int)) (planeV : (Nat → Int)) (stripV : (Nat → Int)) (sizeV : Int) (p1 : Int) (p2 : Int) (o : Int) (hf : fX2_planesOf (zk_R whenV planeV stripV sizeV) p1 p2 = some o) : Met l yX2_planesOf (zW yX2_planesOf cX2_planesOf 5 (some .int)) rmX2_planesOf (va_Pc [.ref a0, .int (zI p1), .int (zI p2)] (zPre D cI cZ ((wR a0 a1 a2 a3 cI whenV planeV stripV sizeV)) sz)) (va_Qi (fun r' (_ : Unit) => r' = zI o) (fun _ t => va_P D vwCl ((wR a0 a1 a2 a3 cI whenV planeV stripV sizeV)) t.heap) (va_A ((wR a0 a1 a2 a3 cI whenV planeV stripV sizeV)) sz)) 0 0 (va_A ((wR a0 a1 a2 a3 cI whenV planeV stripV sizeV)) sz) := by
  unfold fX2_planesOf at hf
  refine z_enter_i (own := RX2) (by decide +kernel) rfl (Nat.le_of_ble_eq_true rfl) ?_
  intro p e s m args below meth c A Q C0 hP hD hS hret ls hl
  have hl : lv_has ls 5 [(0, .ref a0), (1, .int (zI p1)), (2, .int (zI p2))] := hl
  refine z_iconst C0 dX2_planesOf_0 ?_
  refine z_istore_n C0 [(3, .int (zI 0)), (0, .ref a0), (1, .int (zI p1)), (2, .int (zI p2))] dX2_planesOf_1 rfl hl (by decide) rfl (fun ls hl => ?_)
  refine z_iload_n C0 dX2_planesOf_2 rfl (lv_at hl 2 rfl) ?_
  refine z_istore C0 [(4, .int (zI p1)), (3, .int (zI 0)), (0, .ref a0), (1, .int (zI p1)), (2, .int (zI p2))] dX2_planesOf_3 hl (by decide) rfl (fun ls hl => ?_)
  have L15 : ∀ (zn : Nat) (i3 : Int) (i4 : Int) (out : Int), fX2_planesOf_L5 zn (zk_R whenV planeV stripV sizeV) p2 i3 i4 = some out → (∀ (H : Heap) (locs : List Loc), va_P D vwCl ((wR a0 a1 a2 a3 cI whenV planeV stripV sizeV)) H → va_S A s.heap H locs → ∀ ls : Array Slot, lv_has ls 5 [(3, .int (zI out))] → W p l e rmX2_planesOf s m args below meth c H locs 0 0 Q (F0 m 38 ls [])) → ∀ (H : Heap) (locs : List Loc), va_P D vwCl ((wR a0 a1 a2 a3 cI whenV planeV stripV sizeV)) H → va_S A s.heap H locs → ∀ ls : Array Slot, lv_has ls 5 [(0, .ref a0), (2, .int (zI p2)), (3, .int (zI i3)), (4, .int (zI i4))] → W p l e rmX2_planesOf s m args below meth c H locs 0 0 Q (F0 m 5 ls []) := by
    intro zn
    induction zn with
    | zero =>
      intro i3 i4 out hf
      rw [fX2_planesOf_L5_z] at hf
      cases hf
    | succ zn ih =>
      intro i3 i4 out hf K H locs hP hS ls hl
      rw [fX2_planesOf_L5_s] at hf
      refine z_iload C0 dX2_planesOf_5 (lv_at hl 3 rfl) ?_
      refine z_iload_n C0 dX2_planesOf_7 rfl (lv_at hl 1 rfl) ?_
      refine z_icmpge C0 38 dX2_planesOf_8 (by decide) (fun c14 => ?_) (fun c14 => ?_)
      · have hf := zif_pos hf c14
        cases hf
        exact K _ _ hP hS ls (lv_sub hl [2] rfl)
      · have hf := zif_neg hf c14
        refine z_aload_n C0 dX2_planesOf_11 rfl (lv_at hl 0 rfl) ?_
        refine z_iload C0 dX2_planesOf_12 (lv_at hl 3 rfl) ?_
        obtain ⟨r9, hc10, hf⟩ := zbind hf
        refine z_callFi (rest := []) C0 hP (zD hD rfl) hS (zmX2_has l D cI cZ a0 a1 a2 a3 _ whenV planeV stripV sizeV i4 r9 hc10) (zkX2_25 ⟨by decide, by decide⟩ C0.2.2.2.2.1) 2 rfl rfl rfl rfl hl.1 (Nat.le_of_ble_eq_true rfl) dX2_planesOf_14 ⟨Nat.zero_le _, Nat.zero_le _⟩ (fun H locs hP hS => ?_)
        have hP : va_P D vwCl ((wR a0 a1 a2 a3 cI whenV planeV stripV sizeV)) H := hP
        refine z_ifeq C0 38 dX2_planesOf_17 (by decide) (fun c13 => ?_) (fun c13 => ?_)
        · have hf := zif_pos hf c13
          cases hf
          exact K _ _ hP hS ls (lv_sub hl [2] rfl)
        · have hf := zif_neg hf c13
          refine z_iload_n C0 dX2_planesOf_20 rfl (lv_at hl 2 rfl) ?_
          refine z_iconst C0 dX2_planesOf_21 ?_
          refine z_aload_n C0 dX2_planesOf_22 rfl (lv_at hl 0 rfl) ?_
          refine zgX2_15 C0 hP 0 rfl (.ref a2) rfl dX2_planesOf_23 ?_
          refine z_iload C0 dX2_planesOf_26 (lv_at hl 3 rfl) ?_
          obtain ⟨g11, hf⟩ := zg_some hf
          refine z_iald C0 hP 2 rfl (Nat.le_of_ble_eq_true rfl) g11 dX2_planesOf_28 ?_
          refine z_ishl C0 dX2_planesOf_29 ?_
          refine z_ior C0 dX2_planesOf_30 ?_
          obtain ⟨v12, hv12, hf⟩ := zl_some hf
          refine z_name hv12 ?_
          refine z_istore_n C0 [(3, .int (zI v12)), (0, .ref a0), (2, .int (zI p2)), (4, .int (zI i4))] dX2_planesOf_31 rfl hl (by decide) rfl (fun ls hl => ?_)
          refine z_iinc C0 [(4, .int (zI (i4 + 1))), (3, .int (zI v12)), (0, .ref a0), (2, .int (zI p2))] dX2_planesOf_32 hl 3 rfl (by decide) rfl (fun ls hl => ?_)
          refine z_goto C0 5 dX2_planesOf_35 (by decide) ?_
          exact ih v12 (i4 + 1) out hf K _ _ hP hS ls (lv_sub hl [2, 3, 1, 0] rfl)
  obtain ⟨r16, hE17, hf⟩ := zbind hf
  refine L15 _ 0 p1 r16 hE17 ?_ _ _ hP hS ls (lv_sub hl [2, 4, 1, 0] rfl)
  intro H locs hP hS ls hl
  refine z_iload_n C0 dX2_planesOf_38 rfl (lv_at hl 0 rfl) ?_
  cases hf
  exact hret hP hS dX2_planesOf_39
set_option maxHeartbeats 4000000 in
set_option maxRecDepth 100000 in
theorem zmX2_putMemberStrips (l : Launch) (D : va_G) (cI cZ : ClassId) (a0 : Nat) (a1 : Nat) (a2 : Nat) (a3 : Nat) (b0 : Nat) (sz : Nat) (whenV : (Nat → Int)) (planeV : (Nat → Int)) (stripV : (Nat → Int)) (sizeV : Int) (arrV2 : (Nat → Int)) (p1 : Int) (p2 : Int) (o : (Nat → Int)) (hf : fX2_putMemberStrips (zk_R whenV planeV stripV sizeV) arrV2 p1 p2 = some o) : Met l yX2_putMemberStrips (zW yX2_putMemberStrips cX2_putMemberStrips 6 none) rmX2_putMemberStrips (va_Pc [.ref a0, .int (zI p1), .int (zI p2), .ref b0] (zPre D cI cZ ((wR a0 a1 a2 a3 cI whenV planeV stripV sizeV) ++ ([(b0, .inl (cI, 6, .inl (za arrV2)))] : va_W)) sz)) (va_Qv (fun (_ : Unit) => True) (fun _ t => va_P D vwCl ((wR a0 a1 a2 a3 cI whenV planeV stripV sizeV) ++ ([(b0, .inl (cI, 6, .inl (za o)))] : va_W)) t.heap) (va_A ((wR a0 a1 a2 a3 cI whenV planeV stripV sizeV) ++ ([(b0, .inl (cI, 6, .inl (za arrV2)))] : va_W)) sz)) 0 0 (va_A ((wR a0 a1 a2 a3 cI whenV planeV stripV sizeV) ++ ([(b0, .inl (cI, 6, .inl (za arrV2)))] : va_W)) sz) := by
  unfold fX2_putMemberStrips at hf
  refine z_enter_v (own := RX2) (by decide +kernel) rfl (Nat.le_of_ble_eq_true rfl) ?_
  intro p e s m args below meth c A Q C0 hP hD hS hret ls hl
  have hl : lv_has ls 6 [(0, .ref a0), (1, .int (zI p1)), (2, .int (zI p2)), (3, .ref b0)] := hl
  refine z_iconst C0 dX2_putMemberStrips_0 ?_
  refine z_istore C0 [(4, .int (zI 0)), (0, .ref a0), (1, .int (zI p1)), (2, .int (zI p2)), (3, .ref b0)] dX2_putMemberStrips_1 hl (by decide) rfl (fun ls hl => ?_)
  have L22 : ∀ (zn : Nat) (i5 : Int) (k10 : (Nat → Int)) (out : (Nat → Int)), fX2_putMemberStrips_L3 zn (zk_R whenV planeV stripV sizeV) arrV2 p1 p2 i5 k10 = some out → (∀ (H : Heap) (locs : List Loc), va_P D vwCl ((wR a0 a1 a2 a3 cI whenV planeV stripV sizeV) ++ ([(b0, .inl (cI, 6, .inl (za out)))] : va_W)) H → va_S A s.heap H locs → ∀ ls : Array Slot, lv_has ls 6 [] → W p l e rmX2_putMemberStrips s m args below meth c H locs 0 0 Q (F0 m 51 ls [])) → ∀ (H : Heap) (locs : List Loc), va_P D vwCl ((wR a0 a1 a2 a3 cI whenV planeV stripV sizeV) ++ ([(b0, .inl (cI, 6, .inl (za k10)))] : va_W)) H → va_S A s.heap H locs → ∀ ls : Array Slot, lv_has ls 6 [(0, .ref a0), (1, .int (zI p1)), (2, .int (zI p2)), (3, .ref b0), (4, .int (zI i5))] → W p l e rmX2_putMemberStrips s m args below meth c H locs 0 0 Q (F0 m 3 ls []) := by
    intro zn
    induction zn with
    | zero =>
      intro i5 k10 out hf
      rw [fX2_putMemberStrips_L3_z] at hf
      cases hf
    | succ zn ih =>
      intro i5 k10 out hf K H locs hP hS ls hl
      rw [fX2_putMemberStrips_L3_s] at hf
      refine z_iload C0 dX2_putMemberStrips_3 (lv_at hl 4 rfl) ?_
      refine z_aload_n C0 dX2_putMemberStrips_5 rfl (lv_at hl 3 rfl) ?_
      refine z_alen C0 hP 4 rfl dX2_putMemberStrips_6 ?_
      refine z_icmpge C0 51 dX2_putMemberStrips_7 (by decide) (fun c21 => ?_) (fun c21 => ?_)
      · have hf := zif_pos hf c21
        cases hf
        exact K _ _ hP hS ls (lv_sub hl [] rfl)
      · have hf := zif_neg hf c21
        refine z_aload_n C0 dX2_putMemberStrips_10 rfl (lv_at hl 0 rfl) ?_
        refine z_iload C0 dX2_putMemberStrips_11 (lv_at hl 4 rfl) ?_
        refine z_iload_n C0 dX2_putMemberStrips_13 rfl (lv_at hl 1 rfl) ?_
        refine z_iload_n C0 dX2_putMemberStrips_14 rfl (lv_at hl 2 rfl) ?_
        obtain ⟨r11, hc12, hf⟩ := zbind hf
        refine z_callVi (rest := []) C0 hP (zD hD rfl) hS [0, 1, 2, 3] rfl (zmX2_indexOf l D cI cZ a0 a1 a2 a3 _ whenV planeV stripV sizeV i5 p1 p2 r11 hc12) (zkX2_41 ⟨by decide, by decide⟩ C0.2.2.2.2.1) rfl 2 rfl rfl rfl rfl hl.1 (Nat.le_of_ble_eq_true rfl) dX2_putMemberStrips_15 ⟨Nat.zero_le _, Nat.zero_le _⟩ rfl (Nat.le_of_ble_eq_true rfl) (fun H locs hP hS => ?_)
        have hP : va_P D vwCl ((wR a0 a1 a2 a3 cI whenV planeV stripV sizeV) ++ ([(b0, .inl (cI, 6, .inl (za k10)))] : va_W)) H := hP
        refine z_istore C0 [(5, .int (zI r11)), (0, .ref a0), (1, .int (zI p1)), (2, .int (zI p2)), (3, .ref b0), (4, .int (zI i5))] dX2_putMemberStrips_18 hl (by decide) rfl (fun ls hl => ?_)
        refine z_aload_n C0 dX2_putMemberStrips_20 rfl (lv_at hl 4 rfl) ?_
        refine z_iload C0 dX2_putMemberStrips_21 (lv_at hl 5 rfl) ?_
        refine z_aload_n C0 dX2_putMemberStrips_23 rfl (lv_at hl 1 rfl) ?_
        refine z_iload C0 dX2_putMemberStrips_24 (lv_at hl 0 rfl) ?_
        obtain ⟨r13, hc14, hf⟩ := zbind hf
        refine z_callVi (rest := [.int (zI i5), .ref b0]) C0 hP (zD hD rfl) hS [0, 1, 2, 3] rfl (zmX2_has l D cI cZ a0 a1 a2 a3 _ whenV planeV stripV sizeV r11 r13 hc14) (zkX2_25 ⟨by decide, by decide⟩ C0.2.2.2.2.1) rfl 2 rfl rfl rfl rfl hl.1 (Nat.le_of_ble_eq_true rfl) dX2_putMemberStrips_26 ⟨Nat.zero_le _, Nat.zero_le _⟩ rfl (Nat.le_of_ble_eq_true rfl) (fun H locs hP hS => ?_)
        have hP : va_P D vwCl ((wR a0 a1 a2 a3 cI whenV planeV stripV sizeV) ++ ([(b0, .inl (cI, 6, .inl (za k10)))] : va_W)) H := hP
        obtain ⟨r15, hE20, hf⟩ := zbind hf
        have J16 : ∀ (H : Heap) (locs : List Loc), va_P D vwCl ((wR a0 a1 a2 a3 cI whenV planeV stripV sizeV) ++ ([(b0, .inl (cI, 6, .inl (za k10)))] : va_W)) H → va_S A s.heap H locs → ∀ ls : Array Slot, lv_has ls 6 [(0, .ref a0), (1, .int (zI p1)), (2, .int (zI p2)), (3, .ref b0), (4, .int (zI i5))] → W p l e rmX2_putMemberStrips s m args below meth c H locs 0 0 Q (F0 m 44 ls [.int (zI r15), .int (zI i5), .ref b0]) := by
          intro H locs hP hS ls hl
          obtain ⟨g17, hf⟩ := zg_some hf
          refine z_iast C0 hP (zD hD rfl) hS 4 rfl (Nat.le_of_ble_eq_true rfl) g17 dX2_putMemberStrips_44 (fun H locs hP hS => ?_)
          have hP : va_P D vwCl ((wR a0 a1 a2 a3 cI whenV planeV stripV sizeV) ++ ([(b0, .inl (cI, 6, .inl (za (zu k10 i5 r15))))] : va_W)) H := hP
          refine z_iinc C0 [(4, .int (zI (i5 + 1))), (0, .ref a0), (1, .int (zI p1)), (2, .int (zI p2)), (3, .ref b0)] dX2_putMemberStrips_45 hl 4 rfl (by decide) rfl (fun ls hl => ?_)
          refine z_goto C0 3 dX2_putMemberStrips_48 (by decide) ?_
          exact ih (i5 + 1) (zu k10 i5 r15) out hf K _ _ hP hS ls (lv_sub hl [1, 2, 3, 4, 0] rfl)
        have hf := hE20
        refine z_ifeq C0 42 dX2_putMemberStrips_29 (by decide) (fun c19 => ?_) (fun c19 => ?_)
        · have hf := zif_pos hf c19
          refine z_bipush C0 dX2_putMemberStrips_42 (by decide +kernel) ?_
          cases hf
          exact J16 _ _ hP hS ls (lv_sub hl [1, 2, 3, 4, 5] rfl)
        · have hf := zif_neg hf c19
          refine z_aload_n C0 dX2_putMemberStrips_32 rfl (lv_at hl 1 rfl) ?_
          refine zgX2_18 C0 hP 0 rfl (.ref a3) rfl dX2_putMemberStrips_33 ?_
          refine z_iload C0 dX2_putMemberStrips_36 (lv_at hl 0 rfl) ?_
          obtain ⟨g18, hf⟩ := zg_some hf
          refine z_iald C0 hP 3 rfl (Nat.le_of_ble_eq_true rfl) g18 dX2_putMemberStrips_38 ?_
          refine z_goto C0 44 dX2_putMemberStrips_39 (by decide) ?_
          cases hf
          exact J16 _ _ hP hS ls (lv_sub hl [1, 2, 3, 4, 5] rfl)
  obtain ⟨r23, hE24, hf⟩ := zbind hf
  refine L22 _ 0 arrV2 r23 hE24 ?_ _ _ hP hS ls (lv_sub hl [1, 2, 3, 4, 0] rfl)
  intro H locs hP hS ls hl
  cases hf
  exact hret hP hS dX2_putMemberStrips_51
set_option maxHeartbeats 4000000 in
set_option maxRecDepth 100000 in
theorem zmX2_nextOf (l : Launch) (D : va_G) (cI cZ : ClassId) (a0 : Nat) (a1 : Nat) (a2 : Nat) (a3 : Nat) (sz : Nat) (whenV : (Nat → Int)) (planeV : (Nat → Int)) (stripV : (Nat → Int)) (sizeV : Int) (p1 : Int) (p2 : Int) (p3 : Int) (o : Int) (hf : fX2_nextOf (zk_R whenV planeV stripV sizeV) p1 p2 p3 = some o) : Met l yX2_nextOf (zW yX2_nextOf cX2_nextOf 5 (some .int)) rmX2_nextOf (va_Pc [.ref a0, .int (zI p1), .int (zI p2), .int (zI p3)] (zPre D cI cZ ((wR a0 a1 a2 a3 cI whenV planeV stripV sizeV)) sz)) (va_Qi (fun r' (_ : Unit) => r' = zI o) (fun _ t => va_P D vwCl ((wR a0 a1 a2 a3 cI whenV planeV stripV sizeV)) t.heap) (va_A ((wR a0 a1 a2 a3 cI whenV planeV stripV sizeV)) sz)) 0 0 (va_A ((wR a0 a1 a2 a3 cI whenV planeV stripV sizeV)) sz) := by
  unfold fX2_nextOf at hf
  refine z_enter_i (own := RX2) (by decide +kernel) rfl (Nat.le_of_ble_eq_true rfl) ?_
  intro p e s m args below meth c A Q C0 hP hD hS hret ls hl
  have hl : lv_has ls 5 [(0, .ref a0), (1, .int (zI p1)), (2, .int (zI p2)), (3, .int (zI p3))] := hl
  refine z_iload_n C0 dX2_nextOf_0 rfl (lv_at hl 2 rfl) ?_
  refine z_istore C0 [(4, .int (zI p2)), (0, .ref a0), (1, .int (zI p1)), (2, .int (zI p2)), (3, .int (zI p3))] dX2_nextOf_1 hl (by decide) rfl (fun ls hl => ?_)
  have L15 : ∀ (zn : Nat) (i4 : Int) (out : Int), fX2_nextOf_L3 zn (zk_R whenV planeV stripV sizeV) p1 p3 i4 = some out → (∀ (H : Heap) (locs : List Loc), va_P D vwCl ((wR a0 a1 a2 a3 cI whenV planeV stripV sizeV)) H → va_S A s.heap H locs → ∀ ls : Array Slot, lv_has ls 5 [(4, .int (zI out))] → W p l e rmX2_nextOf s m args below meth c H locs 0 0 Q (F0 m 38 ls [])) → ∀ (H : Heap) (locs : List Loc), va_P D vwCl ((wR a0 a1 a2 a3 cI whenV planeV stripV sizeV)) H → va_S A s.heap H locs → ∀ ls : Array Slot, lv_has ls 5 [(0, .ref a0), (1, .int (zI p1)), (3, .int (zI p3)), (4, .int (zI i4))] → W p l e rmX2_nextOf s m args below meth c H locs 0 0 Q (F0 m 3 ls []) := by
    intro zn
    induction zn with
    | zero =>
      intro i4 out hf
      rw [fX2_nextOf_L3_z] at hf
      cases hf
    | succ zn ih =>
      intro i4 out hf K H locs hP hS ls hl
      rw [fX2_nextOf_L3_s] at hf
      refine z_iload C0 dX2_nextOf_3 (lv_at hl 3 rfl) ?_
      refine z_iload_n C0 dX2_nextOf_5 rfl (lv_at hl 2 rfl) ?_
      refine z_icmpge C0 38 dX2_nextOf_6 (by decide) (fun c14 => ?_) (fun c14 => ?_)
      · have hf := zif_pos hf c14
        cases hf
        exact K _ _ hP hS ls (lv_sub hl [3] rfl)
      · have hf := zif_neg hf c14
        refine z_aload_n C0 dX2_nextOf_9 rfl (lv_at hl 0 rfl) ?_
        refine z_iload C0 dX2_nextOf_10 (lv_at hl 3 rfl) ?_
        obtain ⟨r9, hc10, hf⟩ := zbind hf
        refine z_callFi (rest := []) C0 hP (zD hD rfl) hS (zmX2_has l D cI cZ a0 a1 a2 a3 _ whenV planeV stripV sizeV i4 r9 hc10) (zkX2_25 ⟨by decide, by decide⟩ C0.2.2.2.2.1) 2 rfl rfl rfl rfl hl.1 (Nat.le_of_ble_eq_true rfl) dX2_nextOf_12 ⟨Nat.zero_le _, Nat.zero_le _⟩ (fun H locs hP hS => ?_)
        have hP : va_P D vwCl ((wR a0 a1 a2 a3 cI whenV planeV stripV sizeV)) H := hP
        refine z_ifeq C0 38 dX2_nextOf_15 (by decide) (fun c13 => ?_) (fun c13 => ?_)
        · have hf := zif_pos hf c13
          cases hf
          exact K _ _ hP hS ls (lv_sub hl [3] rfl)
        · have hf := zif_neg hf c13
          refine z_iload_n C0 dX2_nextOf_18 rfl (lv_at hl 1 rfl) ?_
          refine z_aload_n C0 dX2_nextOf_19 rfl (lv_at hl 0 rfl) ?_
          refine zgX2_15 C0 hP 0 rfl (.ref a2) rfl dX2_nextOf_20 ?_
          refine z_iload C0 dX2_nextOf_23 (lv_at hl 3 rfl) ?_
          obtain ⟨g11, hf⟩ := zg_some hf
          refine z_iald C0 hP 2 rfl (Nat.le_of_ble_eq_true rfl) g11 dX2_nextOf_25 ?_
          refine z_ishr C0 dX2_nextOf_26 ?_
          refine z_iconst C0 dX2_nextOf_27 ?_
          refine z_iand C0 dX2_nextOf_28 ?_
          refine z_ifne C0 38 dX2_nextOf_29 (by decide) (fun c12 => ?_) (fun c12 => ?_)
          · have hf := zif_neg hf c12
            cases hf
            exact K _ _ hP hS ls (lv_sub hl [3] rfl)
          · have hf := zif_pos hf c12
            refine z_iinc C0 [(4, .int (zI (i4 + 1))), (0, .ref a0), (1, .int (zI p1)), (3, .int (zI p3))] dX2_nextOf_32 hl 3 rfl (by decide) rfl (fun ls hl => ?_)
            refine z_goto C0 3 dX2_nextOf_35 (by decide) ?_
            exact ih (i4 + 1) out hf K _ _ hP hS ls (lv_sub hl [1, 2, 3, 0] rfl)
  obtain ⟨r16, hE17, hf⟩ := zbind hf
  refine L15 _ p2 r16 hE17 ?_ _ _ hP hS ls (lv_sub hl [1, 2, 4, 0] rfl)
  intro H locs hP hS ls hl
  refine z_iload C0 dX2_nextOf_38 (lv_at hl 0 rfl) ?_
  cases hf
  exact hret hP hS dX2_nextOf_40
set_option maxHeartbeats 4000000 in
set_option maxRecDepth 100000 in
theorem zmX2_fillShifted (l : Launch) (D : va_G) (cI cZ : ClassId) (a0 : Nat) (a1 : Nat) (a2 : Nat) (a3 : Nat) (b0 : Nat) (b1 : Nat) (b2 : Nat) (b3 : Nat) (sz : Nat) (whenV : (Nat → Int)) (planeV : (Nat → Int)) (stripV : (Nat → Int)) (sizeV : Int) (whenV2 : (Nat → Int)) (planeV2 : (Nat → Int)) (stripV2 : (Nat → Int)) (sizeV2 : Int) (p2 : Int) (p3 : Int) (p4 : Int) (o : (Nat → Int) × (Nat → Int) × (Nat → Int) × Int) (hf : fX2_fillShifted (zk_R whenV planeV stripV sizeV) (zk_R whenV2 planeV2 stripV2 sizeV2) p2 p3 p4 = some o) : Met l yX2_fillShifted (zW yX2_fillShifted cX2_fillShifted 9 none) rmX2_fillShifted (va_Pc [.ref a0, .ref b0, .int (zI p2), .int (zI p3), .int (zI p4)] (zPre D cI cZ ((wR a0 a1 a2 a3 cI whenV planeV stripV sizeV) ++ (wR b0 b1 b2 b3 cI whenV2 planeV2 stripV2 sizeV2)) sz)) (va_Qv (fun (_ : Unit) => True) (fun _ t => va_P D vwCl ((wR a0 a1 a2 a3 cI o.1 o.2.1 o.2.2.1 o.2.2.2) ++ (wR b0 b1 b2 b3 cI whenV2 planeV2 stripV2 sizeV2)) t.heap) (va_A ((wR a0 a1 a2 a3 cI whenV planeV stripV sizeV) ++ (wR b0 b1 b2 b3 cI whenV2 planeV2 stripV2 sizeV2)) sz)) 0 0 (va_A ((wR a0 a1 a2 a3 cI whenV planeV stripV sizeV) ++ (wR b0 b1 b2 b3 cI whenV2 planeV2 stripV2 sizeV2)) sz) := by
  unfold fX2_fillShifted at hf
  refine z_enter_v (own := RX2) (by decide +kernel) rfl (Nat.le_of_ble_eq_true rfl) ?_
  intro p e s m args below meth c A Q C0 hP hD hS hret ls hl
  have hl : lv_has ls 9 [(0, .ref a0), (1, .ref b0), (2, .int (zI p2)), (3, .int (zI p3)), (4, .int (zI p4))] := hl
  refine z_iload_n C0 dX2_fillShifted_0 rfl (lv_at hl 2 rfl) ?_
  refine z_aload_n C0 dX2_fillShifted_1 rfl (lv_at hl 1 rfl) ?_
  refine zgX2_21 C0 hP 4 rfl (.int (zI sizeV2)) rfl dX2_fillShifted_2 ?_
  refine z_min C0 hl.1 zw71 zw72 zw30 zw73 (by decide) (Nat.le_of_ble_eq_true rfl) (Nat.zero_le _) (Nat.zero_le _) dX2_fillShifted_5 ?_
  obtain ⟨v1, hv1, hf⟩ := zl_some hf
  refine z_name hv1 ?_
  refine z_istore C0 [(5, .int (zI v1)), (0, .ref a0), (1, .ref b0), (2, .int (zI p2)), (3, .int (zI p3)), (4, .int (zI p4))] dX2_fillShifted_8 hl (by decide) rfl (fun ls hl => ?_)
  refine z_bipush C0 dX2_fillShifted_10 (by decide +kernel) ?_
  refine z_iload_n C0 dX2_fillShifted_12 rfl (lv_at hl 4 rfl) ?_
  refine z_iconst C0 dX2_fillShifted_13 ?_
  refine z_ixor C0 dX2_fillShifted_14 ?_
  refine z_iand C0 dX2_fillShifted_15 ?_
  obtain ⟨v2, hv2, hf⟩ := zl_some hf
  refine z_name hv2 ?_
  refine z_istore C0 [(6, .int (zI v2)), (5, .int (zI v1)), (0, .ref a0), (1, .ref b0), (2, .int (zI p2)), (3, .int (zI p3)), (4, .int (zI p4))] dX2_fillShifted_16 hl (by decide) rfl (fun ls hl => ?_)
  refine z_aload_n C0 dX2_fillShifted_18 rfl (lv_at hl 3 rfl) ?_
  refine z_iload C0 dX2_fillShifted_19 (lv_at hl 0 rfl) ?_
  refine z_iconst C0 dX2_fillShifted_21 ?_
  refine z_iload C0 dX2_fillShifted_22 (lv_at hl 1 rfl) ?_
  obtain ⟨r3, hc4, hf⟩ := zbind hf
  refine z_callVi (rest := []) C0 hP (zD hD rfl) hS [4, 5, 6, 7] rfl (zmX2_nextOf l D cI cZ b0 b1 b2 b3 _ whenV2 planeV2 stripV2 sizeV2 v2 0 v1 r3 hc4) (zkX2_51 ⟨by decide, by decide⟩ C0.2.2.2.2.1) rfl 2 rfl rfl rfl rfl hl.1 (Nat.le_of_ble_eq_true rfl) dX2_fillShifted_24 ⟨Nat.zero_le _, Nat.zero_le _⟩ rfl (Nat.le_of_ble_eq_true rfl) (fun H locs hP hS => ?_)
  have hP : va_P D vwCl ((wR a0 a1 a2 a3 cI whenV planeV stripV sizeV) ++ (wR b0 b1 b2 b3 cI whenV2 planeV2 stripV2 sizeV2)) H := hP
  refine z_istore C0 [(7, .int (zI r3)), (6, .int (zI v2)), (5, .int (zI v1)), (0, .ref a0), (1, .ref b0), (2, .int (zI p2)), (3, .int (zI p3)), (4, .int (zI p4))] dX2_fillShifted_27 hl (by decide) rfl (fun ls hl => ?_)
  refine z_aload_n C0 dX2_fillShifted_29 rfl (lv_at hl 4 rfl) ?_
  refine z_iload_n C0 dX2_fillShifted_30 rfl (lv_at hl 6 rfl) ?_
  refine z_iconst C0 dX2_fillShifted_31 ?_
  refine z_iload C0 dX2_fillShifted_32 (lv_at hl 2 rfl) ?_
  obtain ⟨r5, hc6, hf⟩ := zbind hf
  refine z_callVi (rest := []) C0 hP (zD hD rfl) hS [4, 5, 6, 7] rfl (zmX2_nextOf l D cI cZ b0 b1 b2 b3 _ whenV2 planeV2 stripV2 sizeV2 p3 0 v1 r5 hc6) (zkX2_51 ⟨by decide, by decide⟩ C0.2.2.2.2.1) rfl 2 rfl rfl rfl rfl hl.1 (Nat.le_of_ble_eq_true rfl) dX2_fillShifted_34 ⟨Nat.zero_le _, Nat.zero_le _⟩ rfl (Nat.le_of_ble_eq_true rfl) (fun H locs hP hS => ?_)
  have hP : va_P D vwCl ((wR a0 a1 a2 a3 cI whenV planeV stripV sizeV) ++ (wR b0 b1 b2 b3 cI whenV2 planeV2 stripV2 sizeV2)) H := hP
  refine z_istore C0 [(8, .int (zI r5)), (7, .int (zI r3)), (6, .int (zI v2)), (5, .int (zI v1)), (0, .ref a0), (1, .ref b0), (2, .int (zI p2)), (3, .int (zI p3)), (4, .int (zI p4))] dX2_fillShifted_37 hl (by decide) rfl (fun ls hl => ?_)
  refine z_aload_n C0 dX2_fillShifted_39 rfl (lv_at hl 4 rfl) ?_
  refine z_iconst C0 dX2_fillShifted_40 ?_
  refine zpX2_21 C0 hP (zD hD rfl) hS 0 rfl (Nat.le_of_ble_eq_true rfl) dX2_fillShifted_41 (fun H locs hP hS => ?_)
  have hP : va_P D vwCl ((wR a0 a1 a2 a3 cI whenV planeV stripV 0) ++ (wR b0 b1 b2 b3 cI whenV2 planeV2 stripV2 sizeV2)) H := hP
  have L98 : ∀ (zn : Nat) (i13 : Int) (i14 : Int) (k15 : (Nat → Int)) (k16 : (Nat → Int)) (k17 : (Nat → Int)) (k18 : Int) (out : (Nat → Int) × (Nat → Int) × (Nat → Int) × Int), fX2_fillShifted_L44 zn (zk_R whenV planeV stripV sizeV) (zk_R whenV2 planeV2 stripV2 sizeV2) p3 p4 v1 v2 i13 i14 k15 k16 k17 k18 = some out → (∀ (H : Heap) (locs : List Loc), va_P D vwCl ((wR a0 a1 a2 a3 cI out.1 out.2.1 out.2.2.1 out.2.2.2) ++ (wR b0 b1 b2 b3 cI whenV2 planeV2 stripV2 sizeV2)) H → va_S A s.heap H locs → ∀ ls : Array Slot, lv_has ls 9 [] → W p l e rmX2_fillShifted s m args below meth c H locs 0 0 Q (F0 m 206 ls [])) → ∀ (H : Heap) (locs : List Loc), va_P D vwCl ((wR a0 a1 a2 a3 cI k15 k16 k17 k18) ++ (wR b0 b1 b2 b3 cI whenV2 planeV2 stripV2 sizeV2)) H → va_S A s.heap H locs → ∀ ls : Array Slot, lv_has ls 9 [(0, .ref a0), (1, .ref b0), (3, .int (zI p3)), (4, .int (zI p4)), (5, .int (zI v1)), (6, .int (zI v2)), (7, .int (zI i13)), (8, .int (zI i14))] → W p l e rmX2_fillShifted s m args below meth c H locs 0 0 Q (F0 m 44 ls []) := by
    intro zn
    induction zn with
    | zero =>
      intro i13 i14 k15 k16 k17 k18 out hf
      rw [fX2_fillShifted_L44_z] at hf
      cases hf
    | succ zn ih =>
      intro i13 i14 k15 k16 k17 k18 out hf K H locs hP hS ls hl
      rw [fX2_fillShifted_L44_s] at hf
      refine z_aload_n C0 dX2_fillShifted_44 rfl (lv_at hl 0 rfl) ?_
      refine zgX2_21 C0 hP 0 rfl (.int (zI k18)) rfl dX2_fillShifted_45 ?_
      refine z_sipush C0 dX2_fillShifted_48 (by decide +kernel) ?_
      refine z_icmpge C0 206 dX2_fillShifted_51 (by decide) (fun c97 => ?_) (fun c97 => ?_)
      · have hf := zif_pos hf c97
        cases hf
        exact K _ _ hP hS ls (lv_sub hl [] rfl)
      · have hf := zif_neg hf c97
        refine z_iload C0 dX2_fillShifted_54 (lv_at hl 6 rfl) ?_
        refine z_iload C0 dX2_fillShifted_56 (lv_at hl 4 rfl) ?_
        refine z_icmplt C0 68 dX2_fillShifted_58 (by decide) (fun c96 => ?_) (fun c96 => ?_)
        · have hf := zif_pos hf c96
          refine z_iload C0 dX2_fillShifted_68 (lv_at hl 7 rfl) ?_
          refine z_iload C0 dX2_fillShifted_70 (lv_at hl 4 rfl) ?_
          obtain ⟨r23, hE58, hf⟩ := zbind hf
          have J24 : ∀ (H : Heap) (locs : List Loc), va_P D vwCl ((wR a0 a1 a2 a3 cI r23.2.2.1 r23.2.2.2.1 r23.2.2.2.2 k18) ++ (wR b0 b1 b2 b3 cI whenV2 planeV2 stripV2 sizeV2)) H → va_S A s.heap H locs → ∀ ls : Array Slot, lv_has ls 9 [(0, .ref a0), (1, .ref b0), (3, .int (zI p3)), (4, .int (zI p4)), (5, .int (zI v1)), (6, .int (zI v2)), (7, .int (zI r23.1)), (8, .int (zI r23.2.1))] → W p l e rmX2_fillShifted s m args below meth c H locs 0 0 Q (F0 m 193 ls []) := by
            intro H locs hP hS ls hl
            refine z_aload_n C0 dX2_fillShifted_193 rfl (lv_at hl 0 rfl) ?_
            refine z_dup C0 dX2_fillShifted_194 rfl ?_
            refine zgX2_21 C0 hP 0 rfl (.int (zI k18)) rfl dX2_fillShifted_195 ?_
            refine z_iconst C0 dX2_fillShifted_198 ?_
            refine z_iadd C0 dX2_fillShifted_199 ?_
            refine zpX2_21 C0 hP (zD hD rfl) hS 0 rfl (Nat.le_of_ble_eq_true rfl) dX2_fillShifted_200 (fun H locs hP hS => ?_)
            have hP : va_P D vwCl ((wR a0 a1 a2 a3 cI r23.2.2.1 r23.2.2.2.1 r23.2.2.2.2 (k18 + 1)) ++ (wR b0 b1 b2 b3 cI whenV2 planeV2 stripV2 sizeV2)) H := hP
            refine z_goto C0 44 dX2_fillShifted_203 (by decide) ?_
            exact ih r23.1 r23.2.1 r23.2.2.1 r23.2.2.2.1 r23.2.2.2.2 (k18 + 1) out hf K _ _ hP hS ls (lv_sub hl [0, 1, 2, 3, 4, 5, 6, 7] rfl)
          have hf := hE58
          refine z_icmpge C0 102 dX2_fillShifted_72 (by decide) (fun c57 => ?_) (fun c57 => ?_)
          · have hf := zif_pos hf c57
            refine z_aload_n C0 dX2_fillShifted_102 rfl (lv_at hl 0 rfl) ?_
            refine z_aload_n C0 dX2_fillShifted_103 rfl (lv_at hl 0 rfl) ?_
            refine zgX2_21 C0 hP 0 rfl (.int (zI k18)) rfl dX2_fillShifted_104 ?_
            refine z_aload_n C0 dX2_fillShifted_107 rfl (lv_at hl 1 rfl) ?_
            refine zgX2_9 C0 hP 4 rfl (.ref b1) rfl dX2_fillShifted_108 ?_
            refine z_iload C0 dX2_fillShifted_111 (lv_at hl 6 rfl) ?_
            obtain ⟨g25, hf⟩ := zg_some hf
            refine z_iald C0 hP 5 rfl (Nat.le_of_ble_eq_true rfl) g25 dX2_fillShifted_113 ?_
            refine z_aload_n C0 dX2_fillShifted_114 rfl (lv_at hl 1 rfl) ?_
            refine zgX2_15 C0 hP 4 rfl (.ref b2) rfl dX2_fillShifted_115 ?_
            refine z_iload C0 dX2_fillShifted_118 (lv_at hl 6 rfl) ?_
            obtain ⟨g26, hf⟩ := zg_some hf
            refine z_iald C0 hP 6 rfl (Nat.le_of_ble_eq_true rfl) g26 dX2_fillShifted_120 ?_
            refine z_aload_n C0 dX2_fillShifted_121 rfl (lv_at hl 1 rfl) ?_
            refine zgX2_18 C0 hP 4 rfl (.ref b3) rfl dX2_fillShifted_122 ?_
            refine z_iload C0 dX2_fillShifted_125 (lv_at hl 6 rfl) ?_
            obtain ⟨g27, hf⟩ := zg_some hf
            refine z_iald C0 hP 7 rfl (Nat.le_of_ble_eq_true rfl) g27 dX2_fillShifted_127 ?_
            obtain ⟨r28, hc29, hf⟩ := zbind hf
            refine z_callVv (rest := []) C0 hP (zD hD rfl) hS [0, 1, 2, 3] rfl (zmX2_put l D cI cZ a0 a1 a2 a3 _ k15 k16 k17 k18 k18 (whenV2 (Int.toNat i13)) (planeV2 (Int.toNat i13)) (stripV2 (Int.toNat i13)) r28 hc29) (zkX2_33 ⟨by decide, by decide⟩ C0.2.2.2.2.1) rfl 2 rfl rfl rfl rfl hl.1 (Nat.le_of_ble_eq_true rfl) dX2_fillShifted_128 ⟨Nat.zero_le _, Nat.zero_le _⟩ rfl (Nat.le_of_ble_eq_true rfl) (fun H locs hP hS => ?_)
            have hP : va_P D vwCl ((wR a0 a1 a2 a3 cI r28.1 r28.2.1 r28.2.2 k18) ++ (wR b0 b1 b2 b3 cI whenV2 planeV2 stripV2 sizeV2)) H := hP
            refine z_aload_n C0 dX2_fillShifted_131 rfl (lv_at hl 1 rfl) ?_
            refine z_iload C0 dX2_fillShifted_132 (lv_at hl 5 rfl) ?_
            refine z_iload C0 dX2_fillShifted_134 (lv_at hl 6 rfl) ?_
            refine z_iconst C0 dX2_fillShifted_136 ?_
            refine z_iadd C0 dX2_fillShifted_137 ?_
            refine z_iload C0 dX2_fillShifted_138 (lv_at hl 4 rfl) ?_
            obtain ⟨r30, hc31, hf⟩ := zbind hf
            refine z_callVi (rest := []) C0 hP (zD hD rfl) hS [4, 5, 6, 7] rfl (zmX2_nextOf l D cI cZ b0 b1 b2 b3 _ whenV2 planeV2 stripV2 sizeV2 v2 (i13 + 1) v1 r30 hc31) (zkX2_51 ⟨by decide, by decide⟩ C0.2.2.2.2.1) rfl 2 rfl rfl rfl rfl hl.1 (Nat.le_of_ble_eq_true rfl) dX2_fillShifted_140 ⟨Nat.zero_le _, Nat.zero_le _⟩ rfl (Nat.le_of_ble_eq_true rfl) (fun H locs hP hS => ?_)
            have hP : va_P D vwCl ((wR a0 a1 a2 a3 cI r28.1 r28.2.1 r28.2.2 k18) ++ (wR b0 b1 b2 b3 cI whenV2 planeV2 stripV2 sizeV2)) H := hP
            refine z_istore C0 [(7, .int (zI r30)), (0, .ref a0), (1, .ref b0), (3, .int (zI p3)), (4, .int (zI p4)), (5, .int (zI v1)), (6, .int (zI v2)), (8, .int (zI i14))] dX2_fillShifted_143 hl (by decide) rfl (fun ls hl => ?_)
            refine z_goto C0 193 dX2_fillShifted_145 (by decide) ?_
            cases hf
            exact J24 _ _ hP hS ls (lv_sub hl [1, 2, 3, 4, 5, 6, 0, 7] rfl)
          · have hf := zif_neg hf c57
            refine z_iload C0 dX2_fillShifted_75 (lv_at hl 6 rfl) ?_
            refine z_iload C0 dX2_fillShifted_77 (lv_at hl 4 rfl) ?_
            refine z_icmpge C0 148 dX2_fillShifted_79 (by decide) (fun c56 => ?_) (fun c56 => ?_)
            · have hf := zif_pos hf c56
              refine z_aload_n C0 dX2_fillShifted_148 rfl (lv_at hl 0 rfl) ?_
              refine z_aload_n C0 dX2_fillShifted_149 rfl (lv_at hl 0 rfl) ?_
              refine zgX2_21 C0 hP 0 rfl (.int (zI k18)) rfl dX2_fillShifted_150 ?_
              refine z_aload_n C0 dX2_fillShifted_153 rfl (lv_at hl 1 rfl) ?_
              refine zgX2_9 C0 hP 4 rfl (.ref b1) rfl dX2_fillShifted_154 ?_
              refine z_iload C0 dX2_fillShifted_157 (lv_at hl 7 rfl) ?_
              obtain ⟨g32, hf⟩ := zg_some hf
              refine z_iald C0 hP 5 rfl (Nat.le_of_ble_eq_true rfl) g32 dX2_fillShifted_159 ?_
              refine z_iload C0 dX2_fillShifted_160 (lv_at hl 3 rfl) ?_
              refine z_iadd C0 dX2_fillShifted_162 ?_
              refine z_aload_n C0 dX2_fillShifted_163 rfl (lv_at hl 1 rfl) ?_
              refine zgX2_15 C0 hP 4 rfl (.ref b2) rfl dX2_fillShifted_164 ?_
              refine z_iload C0 dX2_fillShifted_167 (lv_at hl 7 rfl) ?_
              obtain ⟨g33, hf⟩ := zg_some hf
              refine z_iald C0 hP 6 rfl (Nat.le_of_ble_eq_true rfl) g33 dX2_fillShifted_169 ?_
              refine z_aload_n C0 dX2_fillShifted_170 rfl (lv_at hl 1 rfl) ?_
              refine zgX2_18 C0 hP 4 rfl (.ref b3) rfl dX2_fillShifted_171 ?_
              refine z_iload C0 dX2_fillShifted_174 (lv_at hl 7 rfl) ?_
              obtain ⟨g34, hf⟩ := zg_some hf
              refine z_iald C0 hP 7 rfl (Nat.le_of_ble_eq_true rfl) g34 dX2_fillShifted_176 ?_
              obtain ⟨r35, hc36, hf⟩ := zbind hf
              refine z_callVv (rest := []) C0 hP (zD hD rfl) hS [0, 1, 2, 3] rfl (zmX2_put l D cI cZ a0 a1 a2 a3 _ k15 k16 k17 k18 k18 ((whenV2 (Int.toNat i14)) + p4) (planeV2 (Int.toNat i14)) (stripV2 (Int.toNat i14)) r35 hc36) (zkX2_33 ⟨by decide, by decide⟩ C0.2.2.2.2.1) rfl 2 rfl rfl rfl rfl hl.1 (Nat.le_of_ble_eq_true rfl) dX2_fillShifted_177 ⟨Nat.zero_le _, Nat.zero_le _⟩ rfl (Nat.le_of_ble_eq_true rfl) (fun H locs hP hS => ?_)
              have hP : va_P D vwCl ((wR a0 a1 a2 a3 cI r35.1 r35.2.1 r35.2.2 k18) ++ (wR b0 b1 b2 b3 cI whenV2 planeV2 stripV2 sizeV2)) H := hP
              refine z_aload_n C0 dX2_fillShifted_180 rfl (lv_at hl 1 rfl) ?_
              refine z_iload_n C0 dX2_fillShifted_181 rfl (lv_at hl 2 rfl) ?_
              refine z_iload C0 dX2_fillShifted_182 (lv_at hl 7 rfl) ?_
              refine z_iconst C0 dX2_fillShifted_184 ?_
              refine z_iadd C0 dX2_fillShifted_185 ?_
              refine z_iload C0 dX2_fillShifted_186 (lv_at hl 4 rfl) ?_
              obtain ⟨r37, hc38, hf⟩ := zbind hf
              refine z_callVi (rest := []) C0 hP (zD hD rfl) hS [4, 5, 6, 7] rfl (zmX2_nextOf l D cI cZ b0 b1 b2 b3 _ whenV2 planeV2 stripV2 sizeV2 p3 (i14 + 1) v1 r37 hc38) (zkX2_51 ⟨by decide, by decide⟩ C0.2.2.2.2.1) rfl 2 rfl rfl rfl rfl hl.1 (Nat.le_of_ble_eq_true rfl) dX2_fillShifted_188 ⟨Nat.zero_le _, Nat.zero_le _⟩ rfl (Nat.le_of_ble_eq_true rfl) (fun H locs hP hS => ?_)
              have hP : va_P D vwCl ((wR a0 a1 a2 a3 cI r35.1 r35.2.1 r35.2.2 k18) ++ (wR b0 b1 b2 b3 cI whenV2 planeV2 stripV2 sizeV2)) H := hP
              refine z_istore C0 [(8, .int (zI r37)), (0, .ref a0), (1, .ref b0), (3, .int (zI p3)), (4, .int (zI p4)), (5, .int (zI v1)), (6, .int (zI v2)), (7, .int (zI i13))] dX2_fillShifted_191 hl (by decide) rfl (fun ls hl => ?_)
              cases hf
              exact J24 _ _ hP hS ls (lv_sub hl [1, 2, 3, 4, 5, 6, 7, 0] rfl)
            · have hf := zif_neg hf c56
              refine z_aload_n C0 dX2_fillShifted_82 rfl (lv_at hl 1 rfl) ?_
              refine zgX2_9 C0 hP 4 rfl (.ref b1) rfl dX2_fillShifted_83 ?_
              refine z_iload C0 dX2_fillShifted_86 (lv_at hl 6 rfl) ?_
              obtain ⟨g39, hf⟩ := zg_some hf
              refine z_iald C0 hP 5 rfl (Nat.le_of_ble_eq_true rfl) g39 dX2_fillShifted_88 ?_
              refine z_aload_n C0 dX2_fillShifted_89 rfl (lv_at hl 1 rfl) ?_
              refine zgX2_9 C0 hP 4 rfl (.ref b1) rfl dX2_fillShifted_90 ?_
              refine z_iload C0 dX2_fillShifted_93 (lv_at hl 7 rfl) ?_
              obtain ⟨g40, hf⟩ := zg_some hf
              refine z_iald C0 hP 5 rfl (Nat.le_of_ble_eq_true rfl) g40 dX2_fillShifted_95 ?_
              refine z_iload C0 dX2_fillShifted_96 (lv_at hl 3 rfl) ?_
              refine z_iadd C0 dX2_fillShifted_98 ?_
              refine z_icmpgt C0 148 dX2_fillShifted_99 (by decide) (fun c55 => ?_) (fun c55 => ?_)
              · have hf := zif_pos hf c55
                refine z_aload_n C0 dX2_fillShifted_148 rfl (lv_at hl 0 rfl) ?_
                refine z_aload_n C0 dX2_fillShifted_149 rfl (lv_at hl 0 rfl) ?_
                refine zgX2_21 C0 hP 0 rfl (.int (zI k18)) rfl dX2_fillShifted_150 ?_
                refine z_aload_n C0 dX2_fillShifted_153 rfl (lv_at hl 1 rfl) ?_
                refine zgX2_9 C0 hP 4 rfl (.ref b1) rfl dX2_fillShifted_154 ?_
                refine z_iload C0 dX2_fillShifted_157 (lv_at hl 7 rfl) ?_
                obtain ⟨g41, hf⟩ := zg_some hf
                refine z_iald C0 hP 5 rfl (Nat.le_of_ble_eq_true rfl) g41 dX2_fillShifted_159 ?_
                refine z_iload C0 dX2_fillShifted_160 (lv_at hl 3 rfl) ?_
                refine z_iadd C0 dX2_fillShifted_162 ?_
                refine z_aload_n C0 dX2_fillShifted_163 rfl (lv_at hl 1 rfl) ?_
                refine zgX2_15 C0 hP 4 rfl (.ref b2) rfl dX2_fillShifted_164 ?_
                refine z_iload C0 dX2_fillShifted_167 (lv_at hl 7 rfl) ?_
                obtain ⟨g42, hf⟩ := zg_some hf
                refine z_iald C0 hP 6 rfl (Nat.le_of_ble_eq_true rfl) g42 dX2_fillShifted_169 ?_
                refine z_aload_n C0 dX2_fillShifted_170 rfl (lv_at hl 1 rfl) ?_
                refine zgX2_18 C0 hP 4 rfl (.ref b3) rfl dX2_fillShifted_171 ?_
                refine z_iload C0 dX2_fillShifted_174 (lv_at hl 7 rfl) ?_
                obtain ⟨g43, hf⟩ := zg_some hf
                refine z_iald C0 hP 7 rfl (Nat.le_of_ble_eq_true rfl) g43 dX2_fillShifted_176 ?_
                obtain ⟨r44, hc45, hf⟩ := zbind hf
                refine z_callVv (rest := []) C0 hP (zD hD rfl) hS [0, 1, 2, 3] rfl (zmX2_put l D cI cZ a0 a1 a2 a3 _ k15 k16 k17 k18 k18 ((whenV2 (Int.toNat i14)) + p4) (planeV2 (Int.toNat i14)) (stripV2 (Int.toNat i14)) r44 hc45) (zkX2_33 ⟨by decide, by decide⟩ C0.2.2.2.2.1) rfl 2 rfl rfl rfl rfl hl.1 (Nat.le_of_ble_eq_true rfl) dX2_fillShifted_177 ⟨Nat.zero_le _, Nat.zero_le _⟩ rfl (Nat.le_of_ble_eq_true rfl) (fun H locs hP hS => ?_)
                have hP : va_P D vwCl ((wR a0 a1 a2 a3 cI r44.1 r44.2.1 r44.2.2 k18) ++ (wR b0 b1 b2 b3 cI whenV2 planeV2 stripV2 sizeV2)) H := hP
                refine z_aload_n C0 dX2_fillShifted_180 rfl (lv_at hl 1 rfl) ?_
                refine z_iload_n C0 dX2_fillShifted_181 rfl (lv_at hl 2 rfl) ?_
                refine z_iload C0 dX2_fillShifted_182 (lv_at hl 7 rfl) ?_
                refine z_iconst C0 dX2_fillShifted_184 ?_
                refine z_iadd C0 dX2_fillShifted_185 ?_
                refine z_iload C0 dX2_fillShifted_186 (lv_at hl 4 rfl) ?_
                obtain ⟨r46, hc47, hf⟩ := zbind hf
                refine z_callVi (rest := []) C0 hP (zD hD rfl) hS [4, 5, 6, 7] rfl (zmX2_nextOf l D cI cZ b0 b1 b2 b3 _ whenV2 planeV2 stripV2 sizeV2 p3 (i14 + 1) v1 r46 hc47) (zkX2_51 ⟨by decide, by decide⟩ C0.2.2.2.2.1) rfl 2 rfl rfl rfl rfl hl.1 (Nat.le_of_ble_eq_true rfl) dX2_fillShifted_188 ⟨Nat.zero_le _, Nat.zero_le _⟩ rfl (Nat.le_of_ble_eq_true rfl) (fun H locs hP hS => ?_)
                have hP : va_P D vwCl ((wR a0 a1 a2 a3 cI r44.1 r44.2.1 r44.2.2 k18) ++ (wR b0 b1 b2 b3 cI whenV2 planeV2 stripV2 sizeV2)) H := hP
                refine z_istore C0 [(8, .int (zI r46)), (0, .ref a0), (1, .ref b0), (3, .int (zI p3)), (4, .int (zI p4)), (5, .int (zI v1)), (6, .int (zI v2)), (7, .int (zI i13))] dX2_fillShifted_191 hl (by decide) rfl (fun ls hl => ?_)
                cases hf
                exact J24 _ _ hP hS ls (lv_sub hl [1, 2, 3, 4, 5, 6, 7, 0] rfl)
              · have hf := zif_neg hf c55
                refine z_aload_n C0 dX2_fillShifted_102 rfl (lv_at hl 0 rfl) ?_
                refine z_aload_n C0 dX2_fillShifted_103 rfl (lv_at hl 0 rfl) ?_
                refine zgX2_21 C0 hP 0 rfl (.int (zI k18)) rfl dX2_fillShifted_104 ?_
                refine z_aload_n C0 dX2_fillShifted_107 rfl (lv_at hl 1 rfl) ?_
                refine zgX2_9 C0 hP 4 rfl (.ref b1) rfl dX2_fillShifted_108 ?_
                refine z_iload C0 dX2_fillShifted_111 (lv_at hl 6 rfl) ?_
                obtain ⟨g48, hf⟩ := zg_some hf
                refine z_iald C0 hP 5 rfl (Nat.le_of_ble_eq_true rfl) g48 dX2_fillShifted_113 ?_
                refine z_aload_n C0 dX2_fillShifted_114 rfl (lv_at hl 1 rfl) ?_
                refine zgX2_15 C0 hP 4 rfl (.ref b2) rfl dX2_fillShifted_115 ?_
                refine z_iload C0 dX2_fillShifted_118 (lv_at hl 6 rfl) ?_
                obtain ⟨g49, hf⟩ := zg_some hf
                refine z_iald C0 hP 6 rfl (Nat.le_of_ble_eq_true rfl) g49 dX2_fillShifted_120 ?_
                refine z_aload_n C0 dX2_fillShifted_121 rfl (lv_at hl 1 rfl) ?_
                refine zgX2_18 C0 hP 4 rfl (.ref b3) rfl dX2_fillShifted_122 ?_
                refine z_iload C0 dX2_fillShifted_125 (lv_at hl 6 rfl) ?_
                obtain ⟨g50, hf⟩ := zg_some hf
                refine z_iald C0 hP 7 rfl (Nat.le_of_ble_eq_true rfl) g50 dX2_fillShifted_127 ?_
                obtain ⟨r51, hc52, hf⟩ := zbind hf
                refine z_callVv (rest := []) C0 hP (zD hD rfl) hS [0, 1, 2, 3] rfl (zmX2_put l D cI cZ a0 a1 a2 a3 _ k15 k16 k17 k18 k18 (whenV2 (Int.toNat i13)) (planeV2 (Int.toNat i13)) (stripV2 (Int.toNat i13)) r51 hc52) (zkX2_33 ⟨by decide, by decide⟩ C0.2.2.2.2.1) rfl 2 rfl rfl rfl rfl hl.1 (Nat.le_of_ble_eq_true rfl) dX2_fillShifted_128 ⟨Nat.zero_le _, Nat.zero_le _⟩ rfl (Nat.le_of_ble_eq_true rfl) (fun H locs hP hS => ?_)
                have hP : va_P D vwCl ((wR a0 a1 a2 a3 cI r51.1 r51.2.1 r51.2.2 k18) ++ (wR b0 b1 b2 b3 cI whenV2 planeV2 stripV2 sizeV2)) H := hP
                refine z_aload_n C0 dX2_fillShifted_131 rfl (lv_at hl 1 rfl) ?_
                refine z_iload C0 dX2_fillShifted_132 (lv_at hl 5 rfl) ?_
                refine z_iload C0 dX2_fillShifted_134 (lv_at hl 6 rfl) ?_
                refine z_iconst C0 dX2_fillShifted_136 ?_
                refine z_iadd C0 dX2_fillShifted_137 ?_
                refine z_iload C0 dX2_fillShifted_138 (lv_at hl 4 rfl) ?_
                obtain ⟨r53, hc54, hf⟩ := zbind hf
                refine z_callVi (rest := []) C0 hP (zD hD rfl) hS [4, 5, 6, 7] rfl (zmX2_nextOf l D cI cZ b0 b1 b2 b3 _ whenV2 planeV2 stripV2 sizeV2 v2 (i13 + 1) v1 r53 hc54) (zkX2_51 ⟨by decide, by decide⟩ C0.2.2.2.2.1) rfl 2 rfl rfl rfl rfl hl.1 (Nat.le_of_ble_eq_true rfl) dX2_fillShifted_140 ⟨Nat.zero_le _, Nat.zero_le _⟩ rfl (Nat.le_of_ble_eq_true rfl) (fun H locs hP hS => ?_)
                have hP : va_P D vwCl ((wR a0 a1 a2 a3 cI r51.1 r51.2.1 r51.2.2 k18) ++ (wR b0 b1 b2 b3 cI whenV2 planeV2 stripV2 sizeV2)) H := hP
                refine z_istore C0 [(7, .int (zI r53)), (0, .ref a0), (1, .ref b0), (3, .int (zI p3)), (4, .int (zI p4)), (5, .int (zI v1)), (6, .int (zI v2)), (8, .int (zI i14))] dX2_fillShifted_143 hl (by decide) rfl (fun ls hl => ?_)
                refine z_goto C0 193 dX2_fillShifted_145 (by decide) ?_
                cases hf
                exact J24 _ _ hP hS ls (lv_sub hl [1, 2, 3, 4, 5, 6, 0, 7] rfl)
        · have hf := zif_neg hf c96
          refine z_iload C0 dX2_fillShifted_61 (lv_at hl 7 rfl) ?_
          refine z_iload C0 dX2_fillShifted_63 (lv_at hl 4 rfl) ?_
          refine z_icmpge C0 206 dX2_fillShifted_65 (by decide) (fun c95 => ?_) (fun c95 => ?_)
          · have hf := zif_pos hf c95
            cases hf
            exact K _ _ hP hS ls (lv_sub hl [] rfl)
          · have hf := zif_neg hf c95
            refine z_iload C0 dX2_fillShifted_68 (lv_at hl 7 rfl) ?_
            refine z_iload C0 dX2_fillShifted_70 (lv_at hl 4 rfl) ?_
            obtain ⟨r59, hE94, hf⟩ := zbind hf
            have J60 : ∀ (H : Heap) (locs : List Loc), va_P D vwCl ((wR a0 a1 a2 a3 cI r59.2.2.1 r59.2.2.2.1 r59.2.2.2.2 k18) ++ (wR b0 b1 b2 b3 cI whenV2 planeV2 stripV2 sizeV2)) H → va_S A s.heap H locs → ∀ ls : Array Slot, lv_has ls 9 [(0, .ref a0), (1, .ref b0), (3, .int (zI p3)), (4, .int (zI p4)), (5, .int (zI v1)), (6, .int (zI v2)), (7, .int (zI r59.1)), (8, .int (zI r59.2.1))] → W p l e rmX2_fillShifted s m args below meth c H locs 0 0 Q (F0 m 193 ls []) := by
              intro H locs hP hS ls hl
              refine z_aload_n C0 dX2_fillShifted_193 rfl (lv_at hl 0 rfl) ?_
              refine z_dup C0 dX2_fillShifted_194 rfl ?_
              refine zgX2_21 C0 hP 0 rfl (.int (zI k18)) rfl dX2_fillShifted_195 ?_
              refine z_iconst C0 dX2_fillShifted_198 ?_
              refine z_iadd C0 dX2_fillShifted_199 ?_
              refine zpX2_21 C0 hP (zD hD rfl) hS 0 rfl (Nat.le_of_ble_eq_true rfl) dX2_fillShifted_200 (fun H locs hP hS => ?_)
              have hP : va_P D vwCl ((wR a0 a1 a2 a3 cI r59.2.2.1 r59.2.2.2.1 r59.2.2.2.2 (k18 + 1)) ++ (wR b0 b1 b2 b3 cI whenV2 planeV2 stripV2 sizeV2)) H := hP
              refine z_goto C0 44 dX2_fillShifted_203 (by decide) ?_
              exact ih r59.1 r59.2.1 r59.2.2.1 r59.2.2.2.1 r59.2.2.2.2 (k18 + 1) out hf K _ _ hP hS ls (lv_sub hl [0, 1, 2, 3, 4, 5, 6, 7] rfl)
            have hf := hE94
            refine z_icmpge C0 102 dX2_fillShifted_72 (by decide) (fun c93 => ?_) (fun c93 => ?_)
            · have hf := zif_pos hf c93
              refine z_aload_n C0 dX2_fillShifted_102 rfl (lv_at hl 0 rfl) ?_
              refine z_aload_n C0 dX2_fillShifted_103 rfl (lv_at hl 0 rfl) ?_
              refine zgX2_21 C0 hP 0 rfl (.int (zI k18)) rfl dX2_fillShifted_104 ?_
              refine z_aload_n C0 dX2_fillShifted_107 rfl (lv_at hl 1 rfl) ?_
              refine zgX2_9 C0 hP 4 rfl (.ref b1) rfl dX2_fillShifted_108 ?_
              refine z_iload C0 dX2_fillShifted_111 (lv_at hl 6 rfl) ?_
              obtain ⟨g61, hf⟩ := zg_some hf
              refine z_iald C0 hP 5 rfl (Nat.le_of_ble_eq_true rfl) g61 dX2_fillShifted_113 ?_
              refine z_aload_n C0 dX2_fillShifted_114 rfl (lv_at hl 1 rfl) ?_
              refine zgX2_15 C0 hP 4 rfl (.ref b2) rfl dX2_fillShifted_115 ?_
              refine z_iload C0 dX2_fillShifted_118 (lv_at hl 6 rfl) ?_
              obtain ⟨g62, hf⟩ := zg_some hf
              refine z_iald C0 hP 6 rfl (Nat.le_of_ble_eq_true rfl) g62 dX2_fillShifted_120 ?_
              refine z_aload_n C0 dX2_fillShifted_121 rfl (lv_at hl 1 rfl) ?_
              refine zgX2_18 C0 hP 4 rfl (.ref b3) rfl dX2_fillShifted_122 ?_
              refine z_iload C0 dX2_fillShifted_125 (lv_at hl 6 rfl) ?_
              obtain ⟨g63, hf⟩ := zg_some hf
              refine z_iald C0 hP 7 rfl (Nat.le_of_ble_eq_true rfl) g63 dX2_fillShifted_127 ?_
              obtain ⟨r64, hc65, hf⟩ := zbind hf
              refine z_callVv (rest := []) C0 hP (zD hD rfl) hS [0, 1, 2, 3] rfl (zmX2_put l D cI cZ a0 a1 a2 a3 _ k15 k16 k17 k18 k18 (whenV2 (Int.toNat i13)) (planeV2 (Int.toNat i13)) (stripV2 (Int.toNat i13)) r64 hc65) (zkX2_33 ⟨by decide, by decide⟩ C0.2.2.2.2.1) rfl 2 rfl rfl rfl rfl hl.1 (Nat.le_of_ble_eq_true rfl) dX2_fillShifted_128 ⟨Nat.zero_le _, Nat.zero_le _⟩ rfl (Nat.le_of_ble_eq_true rfl) (fun H locs hP hS => ?_)
              have hP : va_P D vwCl ((wR a0 a1 a2 a3 cI r64.1 r64.2.1 r64.2.2 k18) ++ (wR b0 b1 b2 b3 cI whenV2 planeV2 stripV2 sizeV2)) H := hP
              refine z_aload_n C0 dX2_fillShifted_131 rfl (lv_at hl 1 rfl) ?_
              refine z_iload C0 dX2_fillShifted_132 (lv_at hl 5 rfl) ?_
              refine z_iload C0 dX2_fillShifted_134 (lv_at hl 6 rfl) ?_
              refine z_iconst C0 dX2_fillShifted_136 ?_
              refine z_iadd C0 dX2_fillShifted_137 ?_
              refine z_iload C0 dX2_fillShifted_138 (lv_at hl 4 rfl) ?_
              obtain ⟨r66, hc67, hf⟩ := zbind hf
              refine z_callVi (rest := []) C0 hP (zD hD rfl) hS [4, 5, 6, 7] rfl (zmX2_nextOf l D cI cZ b0 b1 b2 b3 _ whenV2 planeV2 stripV2 sizeV2 v2 (i13 + 1) v1 r66 hc67) (zkX2_51 ⟨by decide, by decide⟩ C0.2.2.2.2.1) rfl 2 rfl rfl rfl rfl hl.1 (Nat.le_of_ble_eq_true rfl) dX2_fillShifted_140 ⟨Nat.zero_le _, Nat.zero_le _⟩ rfl (Nat.le_of_ble_eq_true rfl) (fun H locs hP hS => ?_)
              have hP : va_P D vwCl ((wR a0 a1 a2 a3 cI r64.1 r64.2.1 r64.2.2 k18) ++ (wR b0 b1 b2 b3 cI whenV2 planeV2 stripV2 sizeV2)) H := hP
              refine z_istore C0 [(7, .int (zI r66)), (0, .ref a0), (1, .ref b0), (3, .int (zI p3)), (4, .int (zI p4)), (5, .int (zI v1)), (6, .int (zI v2)), (8, .int (zI i14))] dX2_fillShifted_143 hl (by decide) rfl (fun ls hl => ?_)
              refine z_goto C0 193 dX2_fillShifted_145 (by decide) ?_
              cases hf
              exact J60 _ _ hP hS ls (lv_sub hl [1, 2, 3, 4, 5, 6, 0, 7] rfl)
            · have hf := zif_neg hf c93
              refine z_iload C0 dX2_fillShifted_75 (lv_at hl 6 rfl) ?_
              refine z_iload C0 dX2_fillShifted_77 (lv_at hl 4 rfl) ?_
              refine z_icmpge C0 148 dX2_fillShifted_79 (by decide) (fun c92 => ?_) (fun c92 => ?_)
              · have hf := zif_pos hf c92
                refine z_aload_n C0 dX2_fillShifted_148 rfl (lv_at hl 0 rfl) ?_
                refine z_aload_n C0 dX2_fillShifted_149 rfl (lv_at hl 0 rfl) ?_
                refine zgX2_21 C0 hP 0 rfl (.int (zI k18)) rfl dX2_fillShifted_150 ?_
                refine z_aload_n C0 dX2_fillShifted_153 rfl (lv_at hl 1 rfl) ?_
                refine zgX2_9 C0 hP 4 rfl (.ref b1) rfl dX2_fillShifted_154 ?_
                refine z_iload C0 dX2_fillShifted_157 (lv_at hl 7 rfl) ?_
                obtain ⟨g68, hf⟩ := zg_some hf
                refine z_iald C0 hP 5 rfl (Nat.le_of_ble_eq_true rfl) g68 dX2_fillShifted_159 ?_
                refine z_iload C0 dX2_fillShifted_160 (lv_at hl 3 rfl) ?_
                refine z_iadd C0 dX2_fillShifted_162 ?_
                refine z_aload_n C0 dX2_fillShifted_163 rfl (lv_at hl 1 rfl) ?_
                refine zgX2_15 C0 hP 4 rfl (.ref b2) rfl dX2_fillShifted_164 ?_
                refine z_iload C0 dX2_fillShifted_167 (lv_at hl 7 rfl) ?_
                obtain ⟨g69, hf⟩ := zg_some hf
                refine z_iald C0 hP 6 rfl (Nat.le_of_ble_eq_true rfl) g69 dX2_fillShifted_169 ?_
                refine z_aload_n C0 dX2_fillShifted_170 rfl (lv_at hl 1 rfl) ?_
                refine zgX2_18 C0 hP 4 rfl (.ref b3) rfl dX2_fillShifted_171 ?_
                refine z_iload C0 dX2_fillShifted_174 (lv_at hl 7 rfl) ?_
                obtain ⟨g70, hf⟩ := zg_some hf
                refine z_iald C0 hP 7 rfl (Nat.le_of_ble_eq_true rfl) g70 dX2_fillShifted_176 ?_
                obtain ⟨r71, hc72, hf⟩ := zbind hf
                refine z_callVv (rest := []) C0 hP (zD hD rfl) hS [0, 1, 2, 3] rfl (zmX2_put l D cI cZ a0 a1 a2 a3 _ k15 k16 k17 k18 k18 ((whenV2 (Int.toNat i14)) + p4) (planeV2 (Int.toNat i14)) (stripV2 (Int.toNat i14)) r71 hc72) (zkX2_33 ⟨by decide, by decide⟩ C0.2.2.2.2.1) rfl 2 rfl rfl rfl rfl hl.1 (Nat.le_of_ble_eq_true rfl) dX2_fillShifted_177 ⟨Nat.zero_le _, Nat.zero_le _⟩ rfl (Nat.le_of_ble_eq_true rfl) (fun H locs hP hS => ?_)
                have hP : va_P D vwCl ((wR a0 a1 a2 a3 cI r71.1 r71.2.1 r71.2.2 k18) ++ (wR b0 b1 b2 b3 cI whenV2 planeV2 stripV2 sizeV2)) H := hP
                refine z_aload_n C0 dX2_fillShifted_180 rfl (lv_at hl 1 rfl) ?_
                refine z_iload_n C0 dX2_fillShifted_181 rfl (lv_at hl 2 rfl) ?_
                refine z_iload C0 dX2_fillShifted_182 (lv_at hl 7 rfl) ?_
                refine z_iconst C0 dX2_fillShifted_184 ?_
                refine z_iadd C0 dX2_fillShifted_185 ?_
                refine z_iload C0 dX2_fillShifted_186 (lv_at hl 4 rfl) ?_
                obtain ⟨r73, hc74, hf⟩ := zbind hf
                refine z_callVi (rest := []) C0 hP (zD hD rfl) hS [4, 5, 6, 7] rfl (zmX2_nextOf l D cI cZ b0 b1 b2 b3 _ whenV2 planeV2 stripV2 sizeV2 p3 (i14 + 1) v1 r73 hc74) (zkX2_51 ⟨by decide, by decide⟩ C0.2.2.2.2.1) rfl 2 rfl rfl rfl rfl hl.1 (Nat.le_of_ble_eq_true rfl) dX2_fillShifted_188 ⟨Nat.zero_le _, Nat.zero_le _⟩ rfl (Nat.le_of_ble_eq_true rfl) (fun H locs hP hS => ?_)
                have hP : va_P D vwCl ((wR a0 a1 a2 a3 cI r71.1 r71.2.1 r71.2.2 k18) ++ (wR b0 b1 b2 b3 cI whenV2 planeV2 stripV2 sizeV2)) H := hP
                refine z_istore C0 [(8, .int (zI r73)), (0, .ref a0), (1, .ref b0), (3, .int (zI p3)), (4, .int (zI p4)), (5, .int (zI v1)), (6, .int (zI v2)), (7, .int (zI i13))] dX2_fillShifted_191 hl (by decide) rfl (fun ls hl => ?_)
                cases hf
                exact J60 _ _ hP hS ls (lv_sub hl [1, 2, 3, 4, 5, 6, 7, 0] rfl)
              · have hf := zif_neg hf c92
                refine z_aload_n C0 dX2_fillShifted_82 rfl (lv_at hl 1 rfl) ?_
                refine zgX2_9 C0 hP 4 rfl (.ref b1) rfl dX2_fillShifted_83 ?_
                refine z_iload C0 dX2_fillShifted_86 (lv_at hl 6 rfl) ?_
                obtain ⟨g75, hf⟩ := zg_some hf
                refine z_iald C0 hP 5 rfl (Nat.le_of_ble_eq_true rfl) g75 dX2_fillShifted_88 ?_
                refine z_aload_n C0 dX2_fillShifted_89 rfl (lv_at hl 1 rfl) ?_
                refine zgX2_9 C0 hP 4 rfl (.ref b1) rfl dX2_fillShifted_90 ?_
                refine z_iload C0 dX2_fillShifted_93 (lv_at hl 7 rfl) ?_
                obtain ⟨g76, hf⟩ := zg_some hf
                refine z_iald C0 hP 5 rfl (Nat.le_of_ble_eq_true rfl) g76 dX2_fillShifted_95 ?_
                refine z_iload C0 dX2_fillShifted_96 (lv_at hl 3 rfl) ?_
                refine z_iadd C0 dX2_fillShifted_98 ?_
                refine z_icmpgt C0 148 dX2_fillShifted_99 (by decide) (fun c91 => ?_) (fun c91 => ?_)
                · have hf := zif_pos hf c91
                  refine z_aload_n C0 dX2_fillShifted_148 rfl (lv_at hl 0 rfl) ?_
                  refine z_aload_n C0 dX2_fillShifted_149 rfl (lv_at hl 0 rfl) ?_
                  refine zgX2_21 C0 hP 0 rfl (.int (zI k18)) rfl dX2_fillShifted_150 ?_
                  refine z_aload_n C0 dX2_fillShifted_153 rfl (lv_at hl 1 rfl) ?_
                  refine zgX2_9 C0 hP 4 rfl (.ref b1) rfl dX2_fillShifted_154 ?_
                  refine z_iload C0 dX2_fillShifted_157 (lv_at hl 7 rfl) ?_
                  obtain ⟨g77, hf⟩ := zg_some hf
                  refine z_iald C0 hP 5 rfl (Nat.le_of_ble_eq_true rfl) g77 dX2_fillShifted_159 ?_
                  refine z_iload C0 dX2_fillShifted_160 (lv_at hl 3 rfl) ?_
                  refine z_iadd C0 dX2_fillShifted_162 ?_
                  refine z_aload_n C0 dX2_fillShifted_163 rfl (lv_at hl 1 rfl) ?_
                  refine zgX2_15 C0 hP 4 rfl (.ref b2) rfl dX2_fillShifted_164 ?_
                  refine z_iload C0 dX2_fillShifted_167 (lv_at hl 7 rfl) ?_
                  obtain ⟨g78, hf⟩ := zg_some hf
                  refine z_iald C0 hP 6 rfl (Nat.le_of_ble_eq_true rfl) g78 dX2_fillShifted_169 ?_
                  refine z_aload_n C0 dX2_fillShifted_170 rfl (lv_at hl 1 rfl) ?_
                  refine zgX2_18 C0 hP 4 rfl (.ref b3) rfl dX2_fillShifted_171 ?_
                  refine z_iload C0 dX2_fillShifted_174 (lv_at hl 7 rfl) ?_
                  obtain ⟨g79, hf⟩ := zg_some hf
                  refine z_iald C0 hP 7 rfl (Nat.le_of_ble_eq_true rfl) g79 dX2_fillShifted_176 ?_
                  obtain ⟨r80, hc81, hf⟩ := zbind hf
                  refine z_callVv (rest := []) C0 hP (zD hD rfl) hS [0, 1, 2, 3] rfl (zmX2_put l D cI cZ a0 a1 a2 a3 _ k15 k16 k17 k18 k18 ((whenV2 (Int.toNat i14)) + p4) (planeV2 (Int.toNat i14)) (stripV2 (Int.toNat i14)) r80 hc81) (zkX2_33 ⟨by decide, by decide⟩ C0.2.2.2.2.1) rfl 2 rfl rfl rfl rfl hl.1 (Nat.le_of_ble_eq_true rfl) dX2_fillShifted_177 ⟨Nat.zero_le _, Nat.zero_le _⟩ rfl (Nat.le_of_ble_eq_true rfl) (fun H locs hP hS => ?_)
                  have hP : va_P D vwCl ((wR a0 a1 a2 a3 cI r80.1 r80.2.1 r80.2.2 k18) ++ (wR b0 b1 b2 b3 cI whenV2 planeV2 stripV2 sizeV2)) H := hP
                  refine z_aload_n C0 dX2_fillShifted_180 rfl (lv_at hl 1 rfl) ?_
                  refine z_iload_n C0 dX2_fillShifted_181 rfl (lv_at hl 2 rfl) ?_
                  refine z_iload C0 dX2_fillShifted_182 (lv_at hl 7 rfl) ?_
                  refine z_iconst C0 dX2_fillShifted_184 ?_
                  refine z_iadd C0 dX2_fillShifted_185 ?_
                  refine z_iload C0 dX2_fillShifted_186 (lv_at hl 4 rfl) ?_
                  obtain ⟨r82, hc83, hf⟩ := zbind hf
                  refine z_callVi (rest := []) C0 hP (zD hD rfl) hS [4, 5, 6, 7] rfl (zmX2_nextOf l D cI cZ b0 b1 b2 b3 _ whenV2 planeV2 stripV2 sizeV2 p3 (i14 + 1) v1 r82 hc83) (zkX2_51 ⟨by decide, by decide⟩ C0.2.2.2.2.1) rfl 2 rfl rfl rfl rfl hl.1 (Nat.le_of_ble_eq_true rfl) dX2_fillShifted_188 ⟨Nat.zero_le _, Nat.zero_le _⟩ rfl (Nat.le_of_ble_eq_true rfl) (fun H locs hP hS => ?_)
                  have hP : va_P D vwCl ((wR a0 a1 a2 a3 cI r80.1 r80.2.1 r80.2.2 k18) ++ (wR b0 b1 b2 b3 cI whenV2 planeV2 stripV2 sizeV2)) H := hP
                  refine z_istore C0 [(8, .int (zI r82)), (0, .ref a0), (1, .ref b0), (3, .int (zI p3)), (4, .int (zI p4)), (5, .int (zI v1)), (6, .int (zI v2)), (7, .int (zI i13))] dX2_fillShifted_191 hl (by decide) rfl (fun ls hl => ?_)
                  cases hf
                  exact J60 _ _ hP hS ls (lv_sub hl [1, 2, 3, 4, 5, 6, 7, 0] rfl)
                · have hf := zif_neg hf c91
                  refine z_aload_n C0 dX2_fillShifted_102 rfl (lv_at hl 0 rfl) ?_
                  refine z_aload_n C0 dX2_fillShifted_103 rfl (lv_at hl 0 rfl) ?_
                  refine zgX2_21 C0 hP 0 rfl (.int (zI k18)) rfl dX2_fillShifted_104 ?_
                  refine z_aload_n C0 dX2_fillShifted_107 rfl (lv_at hl 1 rfl) ?_
                  refine zgX2_9 C0 hP 4 rfl (.ref b1) rfl dX2_fillShifted_108 ?_
                  refine z_iload C0 dX2_fillShifted_111 (lv_at hl 6 rfl) ?_
                  obtain ⟨g84, hf⟩ := zg_some hf
                  refine z_iald C0 hP 5 rfl (Nat.le_of_ble_eq_true rfl) g84 dX2_fillShifted_113 ?_
                  refine z_aload_n C0 dX2_fillShifted_114 rfl (lv_at hl 1 rfl) ?_
                  refine zgX2_15 C0 hP 4 rfl (.ref b2) rfl dX2_fillShifted_115 ?_
                  refine z_iload C0 dX2_fillShifted_118 (lv_at hl 6 rfl) ?_
                  obtain ⟨g85, hf⟩ := zg_some hf
                  refine z_iald C0 hP 6 rfl (Nat.le_of_ble_eq_true rfl) g85 dX2_fillShifted_120 ?_
                  refine z_aload_n C0 dX2_fillShifted_121 rfl (lv_at hl 1 rfl) ?_
                  refine zgX2_18 C0 hP 4 rfl (.ref b3) rfl dX2_fillShifted_122 ?_
                  refine z_iload C0 dX2_fillShifted_125 (lv_at hl 6 rfl) ?_
                  obtain ⟨g86, hf⟩ := zg_some hf
                  refine z_iald C0 hP 7 rfl (Nat.le_of_ble_eq_true rfl) g86 dX2_fillShifted_127 ?_
                  obtain ⟨r87, hc88, hf⟩ := zbind hf
                  refine z_callVv (rest := []) C0 hP (zD hD rfl) hS [0, 1, 2, 3] rfl (zmX2_put l D cI cZ a0 a1 a2 a3 _ k15 k16 k17 k18 k18 (whenV2 (Int.toNat i13)) (planeV2 (Int.toNat i13)) (stripV2 (Int.toNat i13)) r87 hc88) (zkX2_33 ⟨by decide, by decide⟩ C0.2.2.2.2.1) rfl 2 rfl rfl rfl rfl hl.1 (Nat.le_of_ble_eq_true rfl) dX2_fillShifted_128 ⟨Nat.zero_le _, Nat.zero_le _⟩ rfl (Nat.le_of_ble_eq_true rfl) (fun H locs hP hS => ?_)
                  have hP : va_P D vwCl ((wR a0 a1 a2 a3 cI r87.1 r87.2.1 r87.2.2 k18) ++ (wR b0 b1 b2 b3 cI whenV2 planeV2 stripV2 sizeV2)) H := hP
                  refine z_aload_n C0 dX2_fillShifted_131 rfl (lv_at hl 1 rfl) ?_
                  refine z_iload C0 dX2_fillShifted_132 (lv_at hl 5 rfl) ?_
                  refine z_iload C0 dX2_fillShifted_134 (lv_at hl 6 rfl) ?_
                  refine z_iconst C0 dX2_fillShifted_136 ?_
                  refine z_iadd C0 dX2_fillShifted_137 ?_
                  refine z_iload C0 dX2_fillShifted_138 (lv_at hl 4 rfl) ?_
                  obtain ⟨r89, hc90, hf⟩ := zbind hf
                  refine z_callVi (rest := []) C0 hP (zD hD rfl) hS [4, 5, 6, 7] rfl (zmX2_nextOf l D cI cZ b0 b1 b2 b3 _ whenV2 planeV2 stripV2 sizeV2 v2 (i13 + 1) v1 r89 hc90) (zkX2_51 ⟨by decide, by decide⟩ C0.2.2.2.2.1) rfl 2 rfl rfl rfl rfl hl.1 (Nat.le_of_ble_eq_true rfl) dX2_fillShifted_140 ⟨Nat.zero_le _, Nat.zero_le _⟩ rfl (Nat.le_of_ble_eq_true rfl) (fun H locs hP hS => ?_)
                  have hP : va_P D vwCl ((wR a0 a1 a2 a3 cI r87.1 r87.2.1 r87.2.2 k18) ++ (wR b0 b1 b2 b3 cI whenV2 planeV2 stripV2 sizeV2)) H := hP
                  refine z_istore C0 [(7, .int (zI r89)), (0, .ref a0), (1, .ref b0), (3, .int (zI p3)), (4, .int (zI p4)), (5, .int (zI v1)), (6, .int (zI v2)), (8, .int (zI i14))] dX2_fillShifted_143 hl (by decide) rfl (fun ls hl => ?_)
                  refine z_goto C0 193 dX2_fillShifted_145 (by decide) ?_
                  cases hf
                  exact J60 _ _ hP hS ls (lv_sub hl [1, 2, 3, 4, 5, 6, 0, 7] rfl)
  obtain ⟨r99, hE100, hf⟩ := zbind hf
  refine L98 _ r3 r5 whenV planeV stripV 0 r99 hE100 ?_ _ _ hP hS ls (lv_sub hl [4, 5, 7, 8, 3, 2, 1, 0] rfl)
  intro H locs hP hS ls hl
  cases hf
  exact hret hP hS dX2_fillShifted_206
