set_option maxHeartbeats 4000000 in
set_option maxRecDepth 100000 in
theorem zmX3_isWithin (l : Launch) (D : va_G) (cI cZ : ClassId)  (sz : Nat)  (p0 : Int) (p1 : Int) (p2 : Int) (o : Int) (hf : fX3_isWithin p0 p1 p2 = some o) : Met l yX3_isWithin (zW yX3_isWithin cX3_isWithin 3 (some .boolean)) rmX3_isWithin (va_Pc [.int (zI p0), .int (zI p1), .int (zI p2)] (zPre D cI cZ (([] : va_W)) sz)) (va_Qi (fun r' (_ : Unit) => r' = zI o) (fun _ t => va_P D vwCl (([] : va_W)) t.heap) (va_A (([] : va_W)) sz)) 0 0 (va_A (([] : va_W)) sz) := by
  unfold fX3_isWithin at hf
  refine z_enter_z (own := RX3) (by decide +kernel) rfl (Nat.le_of_ble_eq_true rfl) ?_
  intro p e s m args below meth c A Q C0 hP hD hS hret ls hl
  have hl : lv_has ls 3 [(0, .int (zI p0)), (1, .int (zI p1)), (2, .int (zI p2))] := hl
  refine z_iload_n C0 dX3_isWithin_0 rfl (lv_at hl 0 rfl) ?_
  refine z_iload_n C0 dX3_isWithin_1 rfl (lv_at hl 1 rfl) ?_
  refine z_icmplt C0 14 dX3_isWithin_2 (by decide) (fun c2 => ?_) (fun c2 => ?_)
  · have hf := zif_pos hf c2
    refine z_iconst C0 dX3_isWithin_14 ?_
    cases hf
    exact hret (Or.inl rfl) hP hS dX3_isWithin_15
  · have hf := zif_neg hf c2
    refine z_iload_n C0 dX3_isWithin_5 rfl (lv_at hl 0 rfl) ?_
    refine z_iload_n C0 dX3_isWithin_6 rfl (lv_at hl 2 rfl) ?_
    refine z_icmpgt C0 14 dX3_isWithin_7 (by decide) (fun c1 => ?_) (fun c1 => ?_)
    · have hf := zif_pos hf c1
      refine z_iconst C0 dX3_isWithin_14 ?_
      cases hf
      exact hret (Or.inl rfl) hP hS dX3_isWithin_15
    · have hf := zif_neg hf c1
      refine z_iconst C0 dX3_isWithin_10 ?_
      refine z_goto C0 15 dX3_isWithin_11 (by decide) ?_
      cases hf
      exact hret (Or.inr rfl) hP hS dX3_isWithin_15
