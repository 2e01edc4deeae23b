set_option maxHeartbeats 4000000 in
set_option maxRecDepth 100000 in
theorem zmX3_settleBelow (l : Launch) (D : va_G) (cI cZ : ClassId) (h : Nat → Nat) (sz : Nat) (lagV : (Nat → Int)) (deadV : (Nat → Int)) (mannerV : (Nat → Int)) (settingV : (Nat → Int)) (keptRowV : zRowT) (liveRowV : zRowT) (shiftedRowV : zRowT) (groupsV : zGrT) (searchV : zLsT) (deadUntilV : (Nat → Int)) (settledV : Int) (knownV : Int) (tooLateV : Int) (endedV : Int) (p1 : Int) (o : zRowT × (Nat → Int) × Int) (hf : fX3_settleBelow (zk_X lagV deadV mannerV settingV keptRowV liveRowV shiftedRowV groupsV searchV deadUntilV settledV knownV tooLateV endedV) p1 = some o) : Met l yX3_settleBelow (zW yX3_settleBelow cX3_settleBelow 2 none) rmX3_settleBelow (va_Pc [.ref (h 0), .int (zI p1)] (zPre D cI cZ ((wX h cI lagV deadV mannerV settingV keptRowV liveRowV shiftedRowV groupsV searchV deadUntilV settledV knownV tooLateV endedV)) sz)) (va_Qv (fun (_ : Unit) => True) (fun _ t => va_P D vwCl ((wX h cI lagV deadV mannerV settingV keptRowV o.1 shiftedRowV groupsV searchV o.2.1 o.2.2 knownV tooLateV endedV)) t.heap) (va_A ((wX h cI lagV deadV mannerV settingV keptRowV liveRowV shiftedRowV groupsV searchV deadUntilV settledV knownV tooLateV endedV)) sz)) 0 0 (va_A ((wX h cI lagV deadV mannerV settingV keptRowV liveRowV shiftedRowV groupsV searchV deadUntilV settledV knownV tooLateV endedV)) sz) := by
  unfold fX3_settleBelow at hf
  refine z_enter_v (own := RX3) (by decide +kernel) rfl (Nat.le_of_ble_eq_true rfl) ?_
  intro p e s m args below meth c A Q C0 hP hD hS hret ls hl
  have hl : lv_has ls 2 [(0, .ref (h 0)), (1, .int (zI p1))] := hl
  have L25 : ∀ (zn : Nat) (k8 : zRowT) (k12 : (Nat → Int)) (k13 : Int) (out : zRowT × (Nat → Int) × Int), fX3_settleBelow_L0 zn (zk_X lagV deadV mannerV settingV keptRowV liveRowV shiftedRowV groupsV searchV deadUntilV settledV knownV tooLateV endedV) p1 k8 k12 k13 = some out → (∀ (H : Heap) (locs : List Loc), va_P D vwCl ((wX h cI lagV deadV mannerV settingV keptRowV out.1 shiftedRowV groupsV searchV out.2.1 out.2.2 knownV tooLateV endedV)) H → va_S A s.heap H locs → ∀ ls : Array Slot, lv_has ls 2 [] → W p l e rmX3_settleBelow s m args below meth c H locs 0 0 Q (F0 m 83 ls [])) → ∀ (H : Heap) (locs : List Loc), va_P D vwCl ((wX h cI lagV deadV mannerV settingV keptRowV k8 shiftedRowV groupsV searchV k12 k13 knownV tooLateV endedV)) H → va_S A s.heap H locs → ∀ ls : Array Slot, lv_has ls 2 [(0, .ref (h 0)), (1, .int (zI p1))] → W p l e rmX3_settleBelow s m args below meth c H locs 0 0 Q (F0 m 0 ls []) := by
    intro zn
    induction zn with
    | zero =>
      intro k8 k12 k13 out hf
      rw [fX3_settleBelow_L0_z] at hf
      cases hf
    | succ zn ih =>
      intro k8 k12 k13 out hf K H locs hP hS ls hl
      rw [fX3_settleBelow_L0_s] at hf
      refine z_aload_n C0 dX3_settleBelow_0 rfl (lv_at hl 0 rfl) ?_
      refine zgX3_86 C0 hP 0 rfl (.int (zI k13)) rfl dX3_settleBelow_1 ?_
      refine z_aload_n C0 dX3_settleBelow_4 rfl (lv_at hl 0 rfl) ?_
      refine zgX3_35 C0 hP 0 rfl (.ref (h 5)) rfl dX3_settleBelow_5 ?_
      refine zgX3_74 C0 hP 5 rfl (.int (zI (zr_size keptRowV))) rfl dX3_settleBelow_8 ?_
      refine z_icmpge C0 83 dX3_settleBelow_11 (by decide) (fun c24 => ?_) (fun c24 => ?_)
      · have hf := zif_pos hf c24
        cases hf
        exact K _ _ hP hS ls (lv_sub hl [] rfl)
      · have hf := zif_neg hf c24
        refine z_aload_n C0 dX3_settleBelow_14 rfl (lv_at hl 0 rfl) ?_
        refine zgX3_35 C0 hP 0 rfl (.ref (h 5)) rfl dX3_settleBelow_15 ?_
        refine zgX3_150 C0 hP 5 rfl (.ref (h 6)) rfl dX3_settleBelow_18 ?_
        refine z_aload_n C0 dX3_settleBelow_21 rfl (lv_at hl 0 rfl) ?_
        refine zgX3_86 C0 hP 0 rfl (.int (zI k13)) rfl dX3_settleBelow_22 ?_
        obtain ⟨g17, hf⟩ := zg_some hf
        refine z_iald C0 hP 6 rfl (Nat.le_of_ble_eq_true rfl) g17 dX3_settleBelow_25 ?_
        refine z_iload_n C0 dX3_settleBelow_26 rfl (lv_at hl 1 rfl) ?_
        refine z_icmpge C0 83 dX3_settleBelow_27 (by decide) (fun c23 => ?_) (fun c23 => ?_)
        · have hf := zif_pos hf c23
          cases hf
          exact K _ _ hP hS ls (lv_sub hl [] rfl)
        · have hf := zif_neg hf c23
          refine z_aload_n C0 dX3_settleBelow_30 rfl (lv_at hl 0 rfl) ?_
          refine z_aload_n C0 dX3_settleBelow_31 rfl (lv_at hl 0 rfl) ?_
          refine zgX3_35 C0 hP 0 rfl (.ref (h 5)) rfl dX3_settleBelow_32 ?_
          refine zgX3_150 C0 hP 5 rfl (.ref (h 6)) rfl dX3_settleBelow_35 ?_
          refine z_aload_n C0 dX3_settleBelow_38 rfl (lv_at hl 0 rfl) ?_
          refine zgX3_86 C0 hP 0 rfl (.int (zI k13)) rfl dX3_settleBelow_39 ?_
          obtain ⟨g18, hf⟩ := zg_some hf
          refine z_iald C0 hP 6 rfl (Nat.le_of_ble_eq_true rfl) g18 dX3_settleBelow_42 ?_
          refine z_aload_n C0 dX3_settleBelow_43 rfl (lv_at hl 0 rfl) ?_
          refine zgX3_35 C0 hP 0 rfl (.ref (h 5)) rfl dX3_settleBelow_44 ?_
          refine zgX3_230 C0 hP 5 rfl (.ref (h 7)) rfl dX3_settleBelow_47 ?_
          refine z_aload_n C0 dX3_settleBelow_50 rfl (lv_at hl 0 rfl) ?_
          refine zgX3_86 C0 hP 0 rfl (.int (zI k13)) rfl dX3_settleBelow_51 ?_
          obtain ⟨g19, hf⟩ := zg_some hf
          refine z_iald C0 hP 7 rfl (Nat.le_of_ble_eq_true rfl) g19 dX3_settleBelow_54 ?_
          refine z_aload_n C0 dX3_settleBelow_55 rfl (lv_at hl 0 rfl) ?_
          refine zgX3_35 C0 hP 0 rfl (.ref (h 5)) rfl dX3_settleBelow_56 ?_
          refine zgX3_153 C0 hP 5 rfl (.ref (h 8)) rfl dX3_settleBelow_59 ?_
          refine z_aload_n C0 dX3_settleBelow_62 rfl (lv_at hl 0 rfl) ?_
          refine zgX3_86 C0 hP 0 rfl (.int (zI k13)) rfl dX3_settleBelow_63 ?_
          obtain ⟨g20, hf⟩ := zg_some hf
          refine z_iald C0 hP 8 rfl (Nat.le_of_ble_eq_true rfl) g20 dX3_settleBelow_66 ?_
          obtain ⟨r21, hc22, hf⟩ := zbind hf
          refine z_callFv (rest := []) C0 hP (zD hD rfl) hS (zmX3_settle l D cI cZ h _ lagV deadV mannerV settingV keptRowV k8 shiftedRowV groupsV searchV k12 k13 knownV tooLateV endedV ((zr_when keptRowV) (Int.toNat k13)) ((zr_plane keptRowV) (Int.toNat k13)) ((zr_strip keptRowV) (Int.toNat k13)) r21 hc22) (zkX3_233 ⟨by decide, by decide⟩ C0.2.2.2.2.1) 3 rfl rfl rfl rfl hl.1 (Nat.le_of_ble_eq_true rfl) dX3_settleBelow_67 ⟨Nat.zero_le _, Nat.zero_le _⟩ (fun H locs hP hS => ?_)
          have hP : va_P D vwCl ((wX h cI lagV deadV mannerV settingV keptRowV r21.1 shiftedRowV groupsV searchV r21.2 k13 knownV tooLateV endedV)) H := hP
          refine z_aload_n C0 dX3_settleBelow_70 rfl (lv_at hl 0 rfl) ?_
          refine z_dup C0 dX3_settleBelow_71 rfl ?_
          refine zgX3_86 C0 hP 0 rfl (.int (zI k13)) rfl dX3_settleBelow_72 ?_
          refine z_iconst C0 dX3_settleBelow_75 ?_
          refine z_iadd C0 dX3_settleBelow_76 ?_
          refine zpX3_86 C0 hP (zD hD rfl) hS 0 rfl (Nat.le_of_ble_eq_true rfl) dX3_settleBelow_77 (fun H locs hP hS => ?_)
          have hP : va_P D vwCl ((wX h cI lagV deadV mannerV settingV keptRowV r21.1 shiftedRowV groupsV searchV r21.2 (k13 + 1) knownV tooLateV endedV)) H := hP
          refine z_goto C0 0 dX3_settleBelow_80 (by decide) ?_
          exact ih r21.1 r21.2 (k13 + 1) out hf K _ _ hP hS ls (lv_sub hl [0, 1] rfl)
  obtain ⟨r26, hE27, hf⟩ := zbind hf
  refine L25 _ liveRowV deadUntilV settledV r26 hE27 ?_ _ _ hP hS ls (lv_sub hl [0, 1] rfl)
  intro H locs hP hS ls hl
  cases hf
  exact hret hP hS dX3_settleBelow_83
