set_option maxHeartbeats 4000000 in
set_option maxRecDepth 100000 in
theorem zmX4_far (l : Launch) (D : va_G) (cI cZ : ClassId)  (sz : Nat)  (p0 : Int) (o : Int) (hf : fX4_far p0 = some o) : Met l yX4_far (zW yX4_far cX4_far 1 (some .int)) rmX4_far (va_Pc [.int (zI p0)] (zPre D cI cZ (([] : va_W)) sz)) (va_Qi (fun r' (_ : Unit) => r' = zI o) (fun _ t => va_P D vwCl (([] : va_W)) t.heap) (va_A (([] : va_W)) sz)) 0 0 (va_A (([] : va_W)) sz) := by
  unfold fX4_far at hf
  refine z_enter_i (own := RX4) (by decide +kernel) rfl (Nat.le_of_ble_eq_true rfl) ?_
  intro p e s m args below meth c A Q C0 hP hD hS hret ls hl
  have hl : lv_has ls 1 [(0, .int (zI p0))] := hl
  refine z_iload_n C0 dX4_far_0 rfl (lv_at hl 0 rfl) ?_
  refine z_ifge C0 9 dX4_far_1 (by decide) (fun c1 => ?_) (fun c1 => ?_)
  · have hf := zif_pos hf c1
    refine z_iload_n C0 dX4_far_9 rfl (lv_at hl 0 rfl) ?_
    cases hf
    exact hret hP hS dX4_far_10
  · have hf := zif_neg hf c1
    refine z_iload_n C0 dX4_far_4 rfl (lv_at hl 0 rfl) ?_
    refine z_ineg C0 dX4_far_5 ?_
    refine z_goto C0 10 dX4_far_6 (by decide) ?_
    cases hf
    exact hret hP hS dX4_far_10
