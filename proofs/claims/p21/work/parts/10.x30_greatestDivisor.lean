set_option maxHeartbeats 4000000 in
set_option maxRecDepth 100000 in
theorem zmX3_greatestDivisor (l : Launch) (D : va_G) (cI cZ : ClassId)  (sz : Nat)  (p0 : Int) (p2 : Int) (o : Int) (hf : fX3_greatestDivisor p0 p2 = some o) : Met l yX3_greatestDivisor (zW yX3_greatestDivisor cX3_greatestDivisor 7 (some .long)) rmX3_greatestDivisor (va_Pc [.long (zL p0), .long (zL p2)] (zPre D cI cZ (([] : va_W)) sz)) (va_Ql (fun r' (_ : Unit) => r' = zL o) (fun _ t => va_P D vwCl (([] : va_W)) t.heap) (va_A (([] : va_W)) sz)) 0 0 (va_A (([] : va_W)) sz) := by
  unfold fX3_greatestDivisor at hf
  refine z_enter_l (own := RX3) (by decide +kernel) rfl (Nat.le_of_ble_eq_true rfl) ?_
  intro p e s m args below meth c A Q C0 hP hD hS hret ls hl
  have hl : lv_has ls 7 [(0, .long (zL p0)), (2, .long (zL p2))] := hl
  refine z_iconst C0 dX3_greatestDivisor_0 ?_
  refine z_istore C0 [(4, .int (zI 0)), (0, .long (zL p0)), (2, .long (zL p2))] dX3_greatestDivisor_1 hl (by decide) rfl (fun ls hl => ?_)
  have L8 : ∀ (zn : Nat) (i1 : Int) (i2 : Int) (i3 : Int) (out : Int), fX3_greatestDivisor_L3 zn i1 i2 i3 = some out → (∀ (H : Heap) (locs : List Loc), va_P D vwCl (([] : va_W)) H → va_S A s.heap H locs → ∀ ls : Array Slot, lv_has ls 7 [(0, .long (zL out))] → W p l e rmX3_greatestDivisor s m args below meth c H locs 0 0 Q (F0 m 32 ls [])) → ∀ (H : Heap) (locs : List Loc), va_P D vwCl (([] : va_W)) H → va_S A s.heap H locs → ∀ ls : Array Slot, lv_has ls 7 [(0, .long (zL i1)), (2, .long (zL i2)), (4, .int (zI i3))] → W p l e rmX3_greatestDivisor s m args below meth c H locs 0 0 Q (F0 m 3 ls []) := by
    intro zn
    induction zn with
    | zero =>
      intro i1 i2 i3 out hf
      rw [fX3_greatestDivisor_L3_z] at hf
      cases hf
    | succ zn ih =>
      intro i1 i2 i3 out hf K H locs hP hS ls hl
      rw [fX3_greatestDivisor_L3_s] at hf
      refine z_iload C0 dX3_greatestDivisor_3 (lv_at hl 2 rfl) ?_
      refine z_bipush C0 dX3_greatestDivisor_5 (by decide +kernel) ?_
      refine z_icmpge C0 32 dX3_greatestDivisor_7 (by decide) (fun c7 => ?_) (fun c7 => ?_)
      · have hf := zif_pos hf c7
        cases hf
        exact K _ _ hP hS ls (lv_sub hl [0] rfl)
      · have hf := zif_neg hf c7
        refine z_lload_n C0 dX3_greatestDivisor_10 rfl (lv_at hl 1 rfl) ?_
        refine z_lconst C0 0 dX3_greatestDivisor_11 rfl ?_
        refine z_lcmp C0 dX3_greatestDivisor_12 ?_
        refine z_ifle C0 32 dX3_greatestDivisor_13 (by decide) (fun c6 => ?_) (fun c6 => ?_)
        · have hf := zif_pos hf c6
          cases hf
          exact K _ _ hP hS ls (lv_sub hl [0] rfl)
        · have hf := zif_neg hf c6
          refine z_lload_n C0 dX3_greatestDivisor_16 rfl (lv_at hl 0 rfl) ?_
          refine z_lload_n C0 dX3_greatestDivisor_17 rfl (lv_at hl 1 rfl) ?_
          obtain ⟨g4, hf⟩ := zg_some hf
          refine z_lrem C0 g4 dX3_greatestDivisor_18 ?_
          obtain ⟨v5, hv5, hf⟩ := zl_some hf
          refine z_nameL hv5 ?_
          refine z_lstore C0 [(5, .long (zL v5)), (0, .long (zL i1)), (2, .long (zL i2)), (4, .int (zI i3))] dX3_greatestDivisor_19 hl (by decide) rfl (fun ls hl => ?_)
          refine z_lload_n C0 dX3_greatestDivisor_21 rfl (lv_at hl 2 rfl) ?_
          refine z_lstore_n C0 [(0, .long (zL i2)), (5, .long (zL v5)), (2, .long (zL i2)), (4, .int (zI i3))] dX3_greatestDivisor_22 rfl hl (by decide) rfl (fun ls hl => ?_)
          refine z_lload C0 dX3_greatestDivisor_23 (lv_at hl 1 rfl) ?_
          refine z_lstore_n C0 [(2, .long (zL v5)), (0, .long (zL i2)), (5, .long (zL v5)), (4, .int (zI i3))] dX3_greatestDivisor_25 rfl hl (by decide) rfl (fun ls hl => ?_)
          refine z_iinc C0 [(4, .int (zI (i3 + 1))), (2, .long (zL v5)), (0, .long (zL i2)), (5, .long (zL v5))] dX3_greatestDivisor_26 hl 3 rfl (by decide) rfl (fun ls hl => ?_)
          refine z_goto C0 3 dX3_greatestDivisor_29 (by decide) ?_
          exact ih i2 v5 (i3 + 1) out hf K _ _ hP hS ls (lv_sub hl [2, 1, 0] rfl)
  obtain ⟨r9, hE10, hf⟩ := zbind hf
  refine L8 _ p0 p2 0 r9 hE10 ?_ _ _ hP hS ls (lv_sub hl [1, 2, 0] rfl)
  intro H locs hP hS ls hl
  refine z_lload_n C0 dX3_greatestDivisor_32 rfl (lv_at hl 0 rfl) ?_
  cases hf
  exact hret hP hS dX3_greatestDivisor_33
