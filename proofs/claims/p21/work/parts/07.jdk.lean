set_option maxHeartbeats 4000000 in
set_option maxRecDepth 100000 in
theorem zmJ6_bitCount_0f7a4 (l : Launch) (D : va_G) (cI cZ : ClassId)  (sz : Nat)  (p0 : Int) (o : Int) (hf : fJ6_bitCount_0f7a4 p0 = some o) : Met l yJ6_bitCount_0f7a4 (zW yJ6_bitCount_0f7a4 cJ6_bitCount_0f7a4 1 (some .int)) rmJ6_bitCount_0f7a4 (va_Pc [.int (zI p0)] (zPre D cI cZ (([] : va_W)) sz)) (va_Qi (fun r' (_ : Unit) => r' = zI o) (fun _ t => va_P D vwCl (([] : va_W)) t.heap) (va_A (([] : va_W)) sz)) 0 0 (va_A (([] : va_W)) sz) := by
  unfold fJ6_bitCount_0f7a4 at hf
  refine z_enter_i (own := RJ6) (by decide +kernel) rfl (Nat.le_of_ble_eq_true rfl) ?_
  intro p e s m args below meth c A Q C0 hP hD hS hret ls hl
  have hl : lv_has ls 1 [(0, .int (zI p0))] := hl
  refine z_iload_n C0 dJ6_bitCount_0f7a4_0 rfl (lv_at hl 0 rfl) ?_
  refine z_iload_n C0 dJ6_bitCount_0f7a4_1 rfl (lv_at hl 0 rfl) ?_
  refine z_iconst C0 dJ6_bitCount_0f7a4_2 ?_
  refine z_iushr C0 dJ6_bitCount_0f7a4_3 ?_
  refine z_ldcw C0 zw20 dJ6_bitCount_0f7a4_4 ?_
  refine z_iand C0 dJ6_bitCount_0f7a4_7 ?_
  refine z_isub C0 dJ6_bitCount_0f7a4_8 ?_
  obtain ⟨v1, hv1, hf⟩ := zl_some hf
  refine z_name hv1 ?_
  refine z_istore_n C0 [(0, .int (zI v1))] dJ6_bitCount_0f7a4_9 rfl hl (by decide) rfl (fun ls hl => ?_)
  refine z_iload_n C0 dJ6_bitCount_0f7a4_10 rfl (lv_at hl 0 rfl) ?_
  refine z_ldcw C0 zw21 dJ6_bitCount_0f7a4_11 ?_
  refine z_iand C0 dJ6_bitCount_0f7a4_14 ?_
  refine z_iload_n C0 dJ6_bitCount_0f7a4_15 rfl (lv_at hl 0 rfl) ?_
  refine z_iconst C0 dJ6_bitCount_0f7a4_16 ?_
  refine z_iushr C0 dJ6_bitCount_0f7a4_17 ?_
  refine z_ldcw C0 zw21 dJ6_bitCount_0f7a4_18 ?_
  refine z_iand C0 dJ6_bitCount_0f7a4_21 ?_
  refine z_iadd C0 dJ6_bitCount_0f7a4_22 ?_
  obtain ⟨v2, hv2, hf⟩ := zl_some hf
  refine z_name hv2 ?_
  refine z_istore_n C0 [(0, .int (zI v2))] dJ6_bitCount_0f7a4_23 rfl hl (by decide) rfl (fun ls hl => ?_)
  refine z_iload_n C0 dJ6_bitCount_0f7a4_24 rfl (lv_at hl 0 rfl) ?_
  refine z_iload_n C0 dJ6_bitCount_0f7a4_25 rfl (lv_at hl 0 rfl) ?_
  refine z_iconst C0 dJ6_bitCount_0f7a4_26 ?_
  refine z_iushr C0 dJ6_bitCount_0f7a4_27 ?_
  refine z_iadd C0 dJ6_bitCount_0f7a4_28 ?_
  refine z_ldcw C0 zw22 dJ6_bitCount_0f7a4_29 ?_
  refine z_iand C0 dJ6_bitCount_0f7a4_32 ?_
  obtain ⟨v3, hv3, hf⟩ := zl_some hf
  refine z_name hv3 ?_
  refine z_istore_n C0 [(0, .int (zI v3))] dJ6_bitCount_0f7a4_33 rfl hl (by decide) rfl (fun ls hl => ?_)
  refine z_iload_n C0 dJ6_bitCount_0f7a4_34 rfl (lv_at hl 0 rfl) ?_
  refine z_iload_n C0 dJ6_bitCount_0f7a4_35 rfl (lv_at hl 0 rfl) ?_
  refine z_bipush C0 dJ6_bitCount_0f7a4_36 (by decide +kernel) ?_
  refine z_iushr C0 dJ6_bitCount_0f7a4_38 ?_
  refine z_iadd C0 dJ6_bitCount_0f7a4_39 ?_
  obtain ⟨v4, hv4, hf⟩ := zl_some hf
  refine z_name hv4 ?_
  refine z_istore_n C0 [(0, .int (zI v4))] dJ6_bitCount_0f7a4_40 rfl hl (by decide) rfl (fun ls hl => ?_)
  refine z_iload_n C0 dJ6_bitCount_0f7a4_41 rfl (lv_at hl 0 rfl) ?_
  refine z_iload_n C0 dJ6_bitCount_0f7a4_42 rfl (lv_at hl 0 rfl) ?_
  refine z_bipush C0 dJ6_bitCount_0f7a4_43 (by decide +kernel) ?_
  refine z_iushr C0 dJ6_bitCount_0f7a4_45 ?_
  refine z_iadd C0 dJ6_bitCount_0f7a4_46 ?_
  obtain ⟨v5, hv5, hf⟩ := zl_some hf
  refine z_name hv5 ?_
  refine z_istore_n C0 [(0, .int (zI v5))] dJ6_bitCount_0f7a4_47 rfl hl (by decide) rfl (fun ls hl => ?_)
  refine z_iload_n C0 dJ6_bitCount_0f7a4_48 rfl (lv_at hl 0 rfl) ?_
  refine z_bipush C0 dJ6_bitCount_0f7a4_49 (by decide +kernel) ?_
  refine z_iand C0 dJ6_bitCount_0f7a4_51 ?_
  cases hf
  exact hret hP hS dJ6_bitCount_0f7a4_52
set_option maxHeartbeats 4000000 in
set_option maxRecDepth 100000 in
theorem zmJ7_fill_53178 (l : Launch) (D : va_G) (cI cZ : ClassId) (a0 : Nat) (sz : Nat) (arrV : (Nat → Int)) (p1 : Int) (o : (Nat → Int)) (hf : fJ7_fill_53178 arrV p1 = some o) : Met l yJ7_fill_53178 (zW yJ7_fill_53178 cJ7_fill_53178 4 none) rmJ7_fill_53178 (va_Pc [.ref a0, .int (zI p1)] (zPre D cI cZ (([(a0, .inl (cI, 6, .inl (za arrV)))] : va_W)) sz)) (va_Qv (fun (_ : Unit) => True) (fun _ t => va_P D vwCl (([(a0, .inl (cI, 6, .inl (za o)))] : va_W)) t.heap) (va_A (([(a0, .inl (cI, 6, .inl (za arrV)))] : va_W)) sz)) 0 0 (va_A (([(a0, .inl (cI, 6, .inl (za arrV)))] : va_W)) sz) := by
  unfold fJ7_fill_53178 at hf
  refine z_enter_v (own := RJ7) (by decide +kernel) rfl (Nat.le_of_ble_eq_true rfl) ?_
  intro p e s m args below meth c A Q C0 hP hD hS hret ls hl
  have hl : lv_has ls 4 [(0, .ref a0), (1, .int (zI p1))] := hl
  refine z_iconst C0 dJ7_fill_53178_0 ?_
  refine z_istore_n C0 [(2, .int (zI 0)), (0, .ref a0), (1, .int (zI p1))] dJ7_fill_53178_1 rfl hl (by decide) rfl (fun ls hl => ?_)
  refine z_aload_n C0 dJ7_fill_53178_2 rfl (lv_at hl 1 rfl) ?_
  refine z_alen C0 hP 0 rfl dJ7_fill_53178_3 ?_
  refine z_istore_n C0 [(3, .int (zI 6)), (2, .int (zI 0)), (0, .ref a0), (1, .int (zI p1))] dJ7_fill_53178_4 rfl hl (by decide) rfl (fun ls hl => ?_)
  have L8 : ∀ (zn : Nat) (i3 : Int) (k5 : (Nat → Int)) (out : (Nat → Int)), fJ7_fill_53178_L5 zn arrV p1 i3 k5 = some out → (∀ (H : Heap) (locs : List Loc), va_P D vwCl (([(a0, .inl (cI, 6, .inl (za out)))] : va_W)) H → va_S A s.heap H locs → ∀ ls : Array Slot, lv_has ls 4 [] → W p l e rmJ7_fill_53178 s m args below meth c H locs 0 0 Q (F0 m 20 ls [])) → ∀ (H : Heap) (locs : List Loc), va_P D vwCl (([(a0, .inl (cI, 6, .inl (za k5)))] : va_W)) H → va_S A s.heap H locs → ∀ ls : Array Slot, lv_has ls 4 [(0, .ref a0), (1, .int (zI p1)), (2, .int (zI i3)), (3, .int (zI 6))] → W p l e rmJ7_fill_53178 s m args below meth c H locs 0 0 Q (F0 m 5 ls []) := by
    intro zn
    induction zn with
    | zero =>
      intro i3 k5 out hf
      rw [fJ7_fill_53178_L5_z] at hf
      cases hf
    | succ zn ih =>
      intro i3 k5 out hf K H locs hP hS ls hl
      rw [fJ7_fill_53178_L5_s] at hf
      refine z_iload_n C0 dJ7_fill_53178_5 rfl (lv_at hl 2 rfl) ?_
      refine z_iload_n C0 dJ7_fill_53178_6 rfl (lv_at hl 3 rfl) ?_
      refine z_icmpge C0 20 dJ7_fill_53178_7 (by decide) (fun c7 => ?_) (fun c7 => ?_)
      · have hf := zif_pos hf c7
        cases hf
        exact K _ _ hP hS ls (lv_sub hl [] rfl)
      · have hf := zif_neg hf c7
        refine z_aload_n C0 dJ7_fill_53178_10 rfl (lv_at hl 0 rfl) ?_
        refine z_iload_n C0 dJ7_fill_53178_11 rfl (lv_at hl 2 rfl) ?_
        refine z_iload_n C0 dJ7_fill_53178_12 rfl (lv_at hl 1 rfl) ?_
        obtain ⟨g6, hf⟩ := zg_some hf
        refine z_iast C0 hP (zD hD rfl) hS 0 rfl (Nat.le_of_ble_eq_true rfl) g6 dJ7_fill_53178_13 (fun H locs hP hS => ?_)
        have hP : va_P D vwCl (([(a0, .inl (cI, 6, .inl (za (zu k5 i3 p1))))] : va_W)) H := hP
        refine z_iinc C0 [(2, .int (zI (i3 + 1))), (0, .ref a0), (1, .int (zI p1)), (3, .int (zI 6))] dJ7_fill_53178_14 hl 2 rfl (by decide) rfl (fun ls hl => ?_)
        refine z_goto C0 5 dJ7_fill_53178_17 (by decide) ?_
        exact ih (i3 + 1) (zu k5 i3 p1) out hf K _ _ hP hS ls (lv_sub hl [1, 2, 0, 3] rfl)
  obtain ⟨r9, hE10, hf⟩ := zbind hf
  refine L8 _ 0 arrV r9 hE10 ?_ _ _ hP hS ls (lv_sub hl [2, 3, 1, 0] rfl)
  intro H locs hP hS ls hl
  cases hf
  exact hret hP hS dJ7_fill_53178_20
