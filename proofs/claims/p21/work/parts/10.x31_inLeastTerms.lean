set_option maxHeartbeats 4000000 in
set_option maxRecDepth 100000 in
theorem zmX3_inLeastTerms (l : Launch) (D : va_G) (cI cZ : ClassId)  (sz : Nat)  (p0 : Int) (p2 : Int) (p4 : Int) (o : Int) (hf : fX3_inLeastTerms p0 p2 p4 = some o) : Met l yX3_inLeastTerms (zW yX3_inLeastTerms cX3_inLeastTerms 7 (some .long)) rmX3_inLeastTerms (va_Pc [.long (zL p0), .long (zL p2), .int (zI p4)] (zPre D cI cZ (([] : va_W)) sz)) (va_Ql (fun r' (_ : Unit) => r' = zL o) (fun _ t => va_P D vwCl (([] : va_W)) t.heap) (va_A (([] : va_W)) sz)) 0 0 (va_A (([] : va_W)) sz) := by
  unfold fX3_inLeastTerms at hf
  refine z_enter_l (own := RX3) (by decide +kernel) rfl (Nat.le_of_ble_eq_true rfl) ?_
  intro p e s m args below meth c A Q C0 hP hD hS hret ls hl
  have hl : lv_has ls 7 [(0, .long (zL p0)), (2, .long (zL p2)), (4, .int (zI p4))] := hl
  refine z_lload_n C0 dX3_inLeastTerms_0 rfl (lv_at hl 0 rfl) ?_
  refine z_lload_n C0 dX3_inLeastTerms_1 rfl (lv_at hl 1 rfl) ?_
  obtain ⟨r1, hc2, hf⟩ := zbind hf
  refine z_callSl (rest := []) C0 hP (zD hD rfl) hS [] rfl (zmX3_greatestDivisor l D cI cZ _ p0 p2 r1 hc2) (zkX3_251 ⟨by decide, by decide⟩ C0.2.2.2.2.1) rfl rfl rfl hl.1 (Nat.le_of_ble_eq_true rfl) dX3_inLeastTerms_2 ⟨Nat.zero_le _, Nat.zero_le _⟩ rfl (Nat.le_of_ble_eq_true rfl) (fun H locs hP hS => ?_)
  have hP : va_P D vwCl (([] : va_W)) H := hP
  refine z_lstore C0 [(5, .long (zL r1)), (0, .long (zL p0)), (2, .long (zL p2)), (4, .int (zI p4))] dX3_inLeastTerms_5 hl (by decide) rfl (fun ls hl => ?_)
  refine z_lload_n C0 dX3_inLeastTerms_7 rfl (lv_at hl 2 rfl) ?_
  refine z_lconst C0 0 dX3_inLeastTerms_8 rfl ?_
  refine z_lcmp C0 dX3_inLeastTerms_9 ?_
  refine z_ifle C0 20 dX3_inLeastTerms_10 (by decide) (fun c9 => ?_) (fun c9 => ?_)
  · have hf := zif_pos hf c9
    refine z_ldc2 C0 zw222 dX3_inLeastTerms_20 ?_
    cases hf
    exact hret hP hS dX3_inLeastTerms_23
  · have hf := zif_neg hf c9
    refine z_lload C0 dX3_inLeastTerms_13 (lv_at hl 0 rfl) ?_
    refine z_lconst C0 0 dX3_inLeastTerms_15 rfl ?_
    refine z_lcmp C0 dX3_inLeastTerms_16 ?_
    refine z_ifgt C0 24 dX3_inLeastTerms_17 (by decide) (fun c8 => ?_) (fun c8 => ?_)
    · have hf := zif_pos hf c8
      refine z_iload C0 dX3_inLeastTerms_24 (lv_at hl 3 rfl) ?_
      obtain ⟨r3, hE7, hf⟩ := zbind hf
      have J4 : ∀ (H : Heap) (locs : List Loc), va_P D vwCl (([] : va_W)) H → va_S A s.heap H locs → ∀ ls : Array Slot, lv_has ls 7 [(5, .long (zL r1))] → W p l e rmX3_inLeastTerms s m args below meth c H locs 0 0 Q (F0 m 34 ls [.long (zL r3)]) := by
        intro H locs hP hS ls hl
        refine z_lload C0 dX3_inLeastTerms_34 (lv_at hl 0 rfl) ?_
        obtain ⟨g5, hf⟩ := zg_some hf
        refine z_ldiv C0 g5 dX3_inLeastTerms_36 ?_
        cases hf
        exact hret hP hS dX3_inLeastTerms_37
      have hf := hE7
      refine z_ifne C0 33 dX3_inLeastTerms_26 (by decide) (fun c6 => ?_) (fun c6 => ?_)
      · have hf := zif_neg hf c6
        refine z_lload_n C0 dX3_inLeastTerms_33 rfl (lv_at hl 2 rfl) ?_
        cases hf
        exact J4 _ _ hP hS ls (lv_sub hl [0] rfl)
      · have hf := zif_pos hf c6
        refine z_lload_n C0 dX3_inLeastTerms_29 rfl (lv_at hl 1 rfl) ?_
        refine z_goto C0 34 dX3_inLeastTerms_30 (by decide) ?_
        cases hf
        exact J4 _ _ hP hS ls (lv_sub hl [0] rfl)
    · have hf := zif_neg hf c8
      refine z_ldc2 C0 zw222 dX3_inLeastTerms_20 ?_
      cases hf
      exact hret hP hS dX3_inLeastTerms_23
