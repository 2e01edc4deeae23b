set_option maxHeartbeats 4000000 in
set_option maxRecDepth 100000 in
theorem zmX3_isPlane (l : Launch) (D : va_G) (cI cZ : ClassId)  (sz : Nat)  (p0 : Int) (o : Int) (hf : fX3_isPlane p0 = some o) : Met l yX3_isPlane (zW yX3_isPlane cX3_isPlane 1 (some .boolean)) rmX3_isPlane (va_Pc [.int (zI p0)] (zPre D cI cZ (([] : va_W)) sz)) (va_Qi (fun r' (_ : Unit) => r' = zI o) (fun _ t => va_P D vwCl (([] : va_W)) t.heap) (va_A (([] : va_W)) sz)) 0 0 (va_A (([] : va_W)) sz) := by
  unfold fX3_isPlane at hf
  refine z_enter_z (own := RX3) (by decide +kernel) rfl (Nat.le_of_ble_eq_true rfl) ?_
  intro p e s m args below meth c A Q C0 hP hD hS hret ls hl
  have hl : lv_has ls 1 [(0, .int (zI p0))] := hl
  refine z_iload_n C0 dX3_isPlane_0 rfl (lv_at hl 0 rfl) ?_
  refine z_iconst C0 dX3_isPlane_1 ?_
  refine z_iconst C0 dX3_isPlane_2 ?_
  obtain ⟨r1, hc2, hf⟩ := zbind hf
  refine z_callSi (rest := []) C0 hP (zD hD rfl) hS [] rfl (zmX3_isWithin l D cI cZ _ p0 0 5 r1 hc2) (zkX3_66 ⟨by decide, by decide⟩ C0.2.2.2.2.1) rfl rfl rfl hl.1 (Nat.le_of_ble_eq_true rfl) dX3_isPlane_3 ⟨Nat.zero_le _, Nat.zero_le _⟩ rfl (Nat.le_of_ble_eq_true rfl) (fun H locs hP hS => ?_)
  have hP : va_P D vwCl (([] : va_W)) H := hP
  obtain ⟨g3, hf⟩ := zg_some hf
  cases hf
  exact hret g3 hP hS dX3_isPlane_6
