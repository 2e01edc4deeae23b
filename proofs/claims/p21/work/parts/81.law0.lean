set_option maxHeartbeats 4000000 in
set_option maxRecDepth 100000 in
theorem zmL_cell (l : Launch) (D : va_G) (cI cZ : ClassId) (b zL0 : Nat) (zsc : Nat → Int) (sz : Nat)  (p1 : Int) (o : Int) (hf : fL_cell zL0 zsc p1 = some o) : Met l yL_cell (zW yL_cell cL_cell 2 (some .int)) rmL_cell (va_Pc [.ref b, .int (zI p1)] (zPreX b zL0 zsc D cI cZ (([] : va_W)) sz)) (va_Qi (fun r' (_ : Unit) => r' = zI o) (fun _ tq => va_P D vwCl (([] : va_W)) tq.heap) (va_A (([] : va_W)) sz)) 0 0 (va_A (([] : va_W)) sz) := by
  unfold fL_cell at hf
  refine z_enterX_i (own := RL) (by decide +kernel) rfl (Nat.le_of_ble_eq_true rfl) ?_
  intro p e s m args below meth c A Q C0 hP hD hS hZ hX hret ls hl
  have hl : lv_has ls 2 [(0, .ref b), (1, .int (zI p1))] := hl
  refine z_iload_n C0 dL_cell_0 rfl (lv_at hl 1 rfl) ?_
  refine z_aload_n C0 dL_cell_1 rfl (lv_at hl 0 rfl) ?_
  refine z_slen C0 hX.1 hX.2.1 hX.2.2.1 hS dL_cell_2 ?_
  refine z_icmpge C0 12 dL_cell_3 (by decide) (fun c2 => ?_) (fun c2 => ?_)
  · have hf := zif_pos hf c2
    refine z_ldc C0 zw239 dL_cell_12 ?_
    refine z_iload_n C0 dL_cell_14 rfl (lv_at hl 1 rfl) ?_
    refine z_imul C0 dL_cell_15 ?_
    refine z_bipush C0 dL_cell_16 (by decide +kernel) ?_
    refine z_iadd C0 dL_cell_18 ?_
    cases hf
    exact hret hP hS dL_cell_19
  · have hf := zif_neg hf c2
    refine z_aload_n C0 dL_cell_6 rfl (lv_at hl 0 rfl) ?_
    refine z_iload_n C0 dL_cell_7 rfl (lv_at hl 1 rfl) ?_
    obtain ⟨g1, hf⟩ := zg_some hf
    refine z_sld C0 hX.1 hX.2.1 hX.2.2.1 hX.2.2.2 (fun _ => rfl) hS g1 dL_cell_8 ?_
    refine z_goto C0 19 dL_cell_9 (by decide) ?_
    cases hf
    exact hret hP hS dL_cell_19
set_option maxHeartbeats 4000000 in
set_option maxRecDepth 100000 in
theorem zmL_low (l : Launch) (D : va_G) (cI cZ : ClassId)  (sz : Nat)  (p0 : Int) (p1 : Int) (o : Int) (hf : fL_low p0 p1 = some o) : Met l yL_low (zW yL_low cL_low 2 (some .int)) rmL_low (va_Pc [.int (zI p0), .int (zI p1)] (zPre D cI cZ (([] : va_W)) sz)) (va_Qi (fun r' (_ : Unit) => r' = zI o) (fun _ tq => va_P D vwCl (([] : va_W)) tq.heap) (va_A (([] : va_W)) sz)) 0 0 (va_A (([] : va_W)) sz) := by
  unfold fL_low at hf
  refine z_enter_i (own := RL) (by decide +kernel) rfl (Nat.le_of_ble_eq_true rfl) ?_
  intro p e s m args below meth c A Q C0 hP hD hS hret ls hl
  have hl : lv_has ls 2 [(0, .int (zI p0)), (1, .int (zI p1))] := hl
  refine z_iload_n C0 dL_low_0 rfl (lv_at hl 0 rfl) ?_
  refine z_ldc C0 zw240 dL_low_1 ?_
  refine z_iand C0 dL_low_3 ?_
  refine z_iload_n C0 dL_low_4 rfl (lv_at hl 1 rfl) ?_
  obtain ⟨g1, hf⟩ := zg_some hf
  refine z_irem C0 g1 dL_low_5 ?_
  cases hf
  exact hret hP hS dL_low_6
