set_option maxHeartbeats 4000000 in
set_option maxRecDepth 100000 in
theorem zmX4_size (l : Launch) (D : va_G) (cI cZ : ClassId)  (sz : Nat)  (p0 : Int) (o : Int) (hf : fX4_size p0 = some o) : Met l yX4_size (zW yX4_size cX4_size 3 (some .int)) rmX4_size (va_Pc [.int (zI p0)] (zPre D cI cZ (([] : va_W)) sz)) (va_Qi (fun r' (_ : Unit) => r' = zI o) (fun _ t => va_P D vwCl (([] : va_W)) t.heap) (va_A (([] : va_W)) sz)) 0 0 (va_A (([] : va_W)) sz) := by
  unfold fX4_size at hf
  refine z_enter_i (own := RX4) (by decide +kernel) rfl (Nat.le_of_ble_eq_true rfl) ?_
  intro p e s m args below meth c A Q C0 hP hD hS hret ls hl
  have hl : lv_has ls 3 [(0, .int (zI p0))] := hl
  refine z_iconst C0 dX4_size_0 ?_
  refine z_istore_n C0 [(1, .int (zI 0)), (0, .int (zI p0))] dX4_size_1 rfl hl (by decide) rfl (fun ls hl => ?_)
  refine z_iconst C0 dX4_size_2 ?_
  refine z_istore_n C0 [(2, .int (zI 0)), (1, .int (zI 0)), (0, .int (zI p0))] dX4_size_3 rfl hl (by decide) rfl (fun ls hl => ?_)
  have L6 : ∀ (zn : Nat) (i2 : Int) (i3 : Int) (out : Int), fX4_size_L4 zn p0 i2 i3 = some out → (∀ (H : Heap) (locs : List Loc), va_P D vwCl (([] : va_W)) H → va_S A s.heap H locs → ∀ ls : Array Slot, lv_has ls 3 [(1, .int (zI out))] → W p l e rmX4_size s m args below meth c H locs 0 0 Q (F0 m 24 ls [])) → ∀ (H : Heap) (locs : List Loc), va_P D vwCl (([] : va_W)) H → va_S A s.heap H locs → ∀ ls : Array Slot, lv_has ls 3 [(0, .int (zI p0)), (1, .int (zI i2)), (2, .int (zI i3))] → W p l e rmX4_size s m args below meth c H locs 0 0 Q (F0 m 4 ls []) := by
    intro zn
    induction zn with
    | zero =>
      intro i2 i3 out hf
      rw [fX4_size_L4_z] at hf
      cases hf
    | succ zn ih =>
      intro i2 i3 out hf K H locs hP hS ls hl
      rw [fX4_size_L4_s] at hf
      refine z_iload_n C0 dX4_size_4 rfl (lv_at hl 2 rfl) ?_
      refine z_bipush C0 dX4_size_5 (by decide +kernel) ?_
      refine z_icmpge C0 24 dX4_size_7 (by decide) (fun c5 => ?_) (fun c5 => ?_)
      · have hf := zif_pos hf c5
        cases hf
        exact K _ _ hP hS ls (lv_sub hl [1] rfl)
      · have hf := zif_neg hf c5
        refine z_iload_n C0 dX4_size_10 rfl (lv_at hl 1 rfl) ?_
        refine z_iload_n C0 dX4_size_11 rfl (lv_at hl 0 rfl) ?_
        refine z_iload_n C0 dX4_size_12 rfl (lv_at hl 2 rfl) ?_
        refine z_ishr C0 dX4_size_13 ?_
        refine z_iconst C0 dX4_size_14 ?_
        refine z_iand C0 dX4_size_15 ?_
        refine z_iadd C0 dX4_size_16 ?_
        obtain ⟨v4, hv4, hf⟩ := zl_some hf
        refine z_name hv4 ?_
        refine z_istore_n C0 [(1, .int (zI v4)), (0, .int (zI p0)), (2, .int (zI i3))] dX4_size_17 rfl hl (by decide) rfl (fun ls hl => ?_)
        refine z_iinc C0 [(2, .int (zI (i3 + 1))), (1, .int (zI v4)), (0, .int (zI p0))] dX4_size_18 hl 2 rfl (by decide) rfl (fun ls hl => ?_)
        refine z_goto C0 4 dX4_size_21 (by decide) ?_
        exact ih v4 (i3 + 1) out hf K _ _ hP hS ls (lv_sub hl [2, 1, 0] rfl)
  obtain ⟨r7, hE8, hf⟩ := zbind hf
  refine L6 _ 0 0 r7 hE8 ?_ _ _ hP hS ls (lv_sub hl [2, 1, 0] rfl)
  intro H locs hP hS ls hl
  refine z_iload_n C0 dX4_size_24 rfl (lv_at hl 0 rfl) ?_
  cases hf
  exact hret hP hS dX4_size_25
