set_option maxHeartbeats 4000000 in
set_option maxRecDepth 100000 in
theorem zmX4_inLeastTerms (l : Launch) (D : va_G) (cI cZ : ClassId)  (sz : Nat)  (p0 : Int) (p2 : Int) (p4 : Int) (o : Int) (hf : fX4_inLeastTerms p0 p2 p4 = some o) : Met l yX4_inLeastTerms (zW yX4_inLeastTerms cX4_inLeastTerms 11 (some .long)) rmX4_inLeastTerms (va_Pc [.long (zL p0), .long (zL p2), .int (zI p4)] (zPre D cI cZ (([] : va_W)) sz)) (va_Ql (fun r' (_ : Unit) => r' = zL o) (fun _ t => va_P D vwCl (([] : va_W)) t.heap) (va_A (([] : va_W)) sz)) 0 0 (va_A (([] : va_W)) sz) := by
  unfold fX4_inLeastTerms at hf
  refine z_enter_l (own := RX4) (by decide +kernel) rfl (Nat.le_of_ble_eq_true rfl) ?_
  intro p e s m args below meth c A Q C0 hP hD hS hret ls hl
  have hl : lv_has ls 11 [(0, .long (zL p0)), (2, .long (zL p2)), (4, .int (zI p4))] := hl
  refine z_lload_n C0 dX4_inLeastTerms_0 rfl (lv_at hl 0 rfl) ?_
  refine z_lstore C0 [(5, .long (zL p0)), (0, .long (zL p0)), (2, .long (zL p2)), (4, .int (zI p4))] dX4_inLeastTerms_1 hl (by decide) rfl (fun ls hl => ?_)
  refine z_lload_n C0 dX4_inLeastTerms_3 rfl (lv_at hl 2 rfl) ?_
  refine z_lstore C0 [(7, .long (zL p2)), (5, .long (zL p0)), (0, .long (zL p0)), (2, .long (zL p2)), (4, .int (zI p4))] dX4_inLeastTerms_4 hl (by decide) rfl (fun ls hl => ?_)
  have L9 : ∀ (zn : Nat) (i4 : Int) (i5 : Int) (out : Int), fX4_inLeastTerms_L6 zn p0 p2 p4 i4 i5 = some out → (∀ (H : Heap) (locs : List Loc), va_P D vwCl (([] : va_W)) H → va_S A s.heap H locs → ∀ ls : Array Slot, lv_has ls 11 [(0, .long (zL p0)), (2, .long (zL p2)), (4, .int (zI p4)), (5, .long (zL out))] → W p l e rmX4_inLeastTerms s m args below meth c H locs 0 0 Q (F0 m 31 ls [])) → ∀ (H : Heap) (locs : List Loc), va_P D vwCl (([] : va_W)) H → va_S A s.heap H locs → ∀ ls : Array Slot, lv_has ls 11 [(0, .long (zL p0)), (2, .long (zL p2)), (4, .int (zI p4)), (5, .long (zL i4)), (7, .long (zL i5))] → W p l e rmX4_inLeastTerms s m args below meth c H locs 0 0 Q (F0 m 6 ls []) := by
    intro zn
    induction zn with
    | zero =>
      intro i4 i5 out hf
      rw [fX4_inLeastTerms_L6_z] at hf
      cases hf
    | succ zn ih =>
      intro i4 i5 out hf K H locs hP hS ls hl
      rw [fX4_inLeastTerms_L6_s] at hf
      refine z_lload C0 dX4_inLeastTerms_6 (lv_at hl 4 rfl) ?_
      refine z_lconst C0 0 dX4_inLeastTerms_8 rfl ?_
      refine z_lcmp C0 dX4_inLeastTerms_9 ?_
      refine z_ifeq C0 31 dX4_inLeastTerms_10 (by decide) (fun c8 => ?_) (fun c8 => ?_)
      · have hf := zif_pos hf c8
        cases hf
        exact K _ _ hP hS ls (lv_sub hl [0, 1, 2, 3] rfl)
      · have hf := zif_neg hf c8
        refine z_lload C0 dX4_inLeastTerms_13 (lv_at hl 3 rfl) ?_
        refine z_lload C0 dX4_inLeastTerms_15 (lv_at hl 4 rfl) ?_
        obtain ⟨g6, hf⟩ := zg_some hf
        refine z_lrem C0 g6 dX4_inLeastTerms_17 ?_
        obtain ⟨v7, hv7, hf⟩ := zl_some hf
        refine z_nameL hv7 ?_
        refine z_lstore C0 [(9, .long (zL v7)), (0, .long (zL p0)), (2, .long (zL p2)), (4, .int (zI p4)), (5, .long (zL i4)), (7, .long (zL i5))] dX4_inLeastTerms_18 hl (by decide) rfl (fun ls hl => ?_)
        refine z_lload C0 dX4_inLeastTerms_20 (lv_at hl 5 rfl) ?_
        refine z_lstore C0 [(5, .long (zL i5)), (9, .long (zL v7)), (0, .long (zL p0)), (2, .long (zL p2)), (4, .int (zI p4)), (7, .long (zL i5))] dX4_inLeastTerms_22 hl (by decide) rfl (fun ls hl => ?_)
        refine z_lload C0 dX4_inLeastTerms_24 (lv_at hl 1 rfl) ?_
        refine z_lstore C0 [(7, .long (zL v7)), (5, .long (zL i5)), (9, .long (zL v7)), (0, .long (zL p0)), (2, .long (zL p2)), (4, .int (zI p4))] dX4_inLeastTerms_26 hl (by decide) rfl (fun ls hl => ?_)
        refine z_goto C0 6 dX4_inLeastTerms_28 (by decide) ?_
        exact ih i5 v7 out hf K _ _ hP hS ls (lv_sub hl [3, 4, 5, 1, 0] rfl)
  obtain ⟨r10, hE11, hf⟩ := zbind hf
  refine L9 _ p0 p2 r10 hE11 ?_ _ _ hP hS ls (lv_sub hl [2, 3, 4, 1, 0] rfl)
  intro H locs hP hS ls hl
  refine z_iload C0 dX4_inLeastTerms_31 (lv_at hl 2 rfl) ?_
  refine z_ifne C0 43 dX4_inLeastTerms_33 (by decide) (fun c14 => ?_) (fun c14 => ?_)
  · have hf := zif_neg hf c14
    refine z_lload_n C0 dX4_inLeastTerms_43 rfl (lv_at hl 1 rfl) ?_
    refine z_lload C0 dX4_inLeastTerms_44 (lv_at hl 3 rfl) ?_
    obtain ⟨g12, hf⟩ := zg_some hf
    refine z_ldiv C0 g12 dX4_inLeastTerms_46 ?_
    cases hf
    exact hret hP hS dX4_inLeastTerms_47
  · have hf := zif_pos hf c14
    refine z_lload_n C0 dX4_inLeastTerms_36 rfl (lv_at hl 0 rfl) ?_
    refine z_lload C0 dX4_inLeastTerms_37 (lv_at hl 3 rfl) ?_
    obtain ⟨g13, hf⟩ := zg_some hf
    refine z_ldiv C0 g13 dX4_inLeastTerms_39 ?_
    refine z_goto C0 47 dX4_inLeastTerms_40 (by decide) ?_
    cases hf
    exact hret hP hS dX4_inLeastTerms_47
