set_option maxHeartbeats 4000000 in
set_option maxRecDepth 100000 in
theorem zmX3_twos (l : Launch) (D : va_G) (cI cZ : ClassId) (h : Nat → Nat) (sz : Nat) (lagV : (Nat → Int)) (deadV : (Nat → Int)) (mannerV : (Nat → Int)) (settingV : (Nat → Int)) (keptRowV : zRowT) (liveRowV : zRowT) (shiftedRowV : zRowT) (groupsV : zGrT) (searchV : zLsT) (deadUntilV : (Nat → Int)) (settledV : Int) (knownV : Int) (tooLateV : Int) (endedV : Int) (p1 : Int) (p2 : Int) (p3 : Int) (o : Int) (hf : fX3_twos (zk_X lagV deadV mannerV settingV keptRowV liveRowV shiftedRowV groupsV searchV deadUntilV settledV knownV tooLateV endedV) p1 p2 p3 = some o) : Met l yX3_twos (zW yX3_twos cX3_twos 9 (some .int)) rmX3_twos (va_Pc [.ref (h 0), .int (zI p1), .int (zI p2), .int (zI p3)] (zPre D cI cZ ((wX h cI lagV deadV mannerV settingV keptRowV liveRowV shiftedRowV groupsV searchV deadUntilV settledV knownV tooLateV endedV)) sz)) (va_Qi (fun r' (_ : Unit) => r' = zI o) (fun _ t => va_P D vwCl ((wX h cI lagV deadV mannerV settingV keptRowV liveRowV shiftedRowV groupsV searchV deadUntilV settledV knownV tooLateV endedV)) t.heap) (va_A ((wX h cI lagV deadV mannerV settingV keptRowV liveRowV shiftedRowV groupsV searchV deadUntilV settledV knownV tooLateV endedV)) sz)) 0 0 (va_A ((wX h cI lagV deadV mannerV settingV keptRowV liveRowV shiftedRowV groupsV searchV deadUntilV settledV knownV tooLateV endedV)) sz) := by
  unfold fX3_twos at hf
  refine z_enter_i (own := RX3) (by decide +kernel) rfl (Nat.le_of_ble_eq_true rfl) ?_
  intro p e s m args below meth c A Q C0 hP hD hS hret ls hl
  have hl : lv_has ls 9 [(0, .ref (h 0)), (1, .int (zI p1)), (2, .int (zI p2)), (3, .int (zI p3))] := hl
  refine z_iload_n C0 dX3_twos_0 rfl (lv_at hl 1 rfl) ?_
  obtain ⟨r1, hc2, hf⟩ := zbind hf
  refine z_callSi (rest := []) C0 hP (zD hD rfl) hS [] rfl (zmX3_isPlane l D cI cZ _ p1 r1 hc2) (zkX3_62 ⟨by decide, by decide⟩ C0.2.2.2.2.1) rfl rfl rfl hl.1 (Nat.le_of_ble_eq_true rfl) dX3_twos_1 ⟨Nat.zero_le _, Nat.zero_le _⟩ rfl (Nat.le_of_ble_eq_true rfl) (fun H locs hP hS => ?_)
  have hP : va_P D vwCl ((wX h cI lagV deadV mannerV settingV keptRowV liveRowV shiftedRowV groupsV searchV deadUntilV settledV knownV tooLateV endedV)) H := hP
  refine z_ifeq C0 14 dX3_twos_4 (by decide) (fun c104 => ?_) (fun c104 => ?_)
  · have hf := zif_pos hf c104
    refine z_iconst C0 dX3_twos_14 ?_
    cases hf
    exact hret hP hS dX3_twos_15
  · have hf := zif_neg hf c104
    refine z_iload_n C0 dX3_twos_7 rfl (lv_at hl 2 rfl) ?_
    obtain ⟨r3, hc4, hf⟩ := zbind hf
    refine z_callSi (rest := []) C0 hP (zD hD rfl) hS [] rfl (zmX3_isPlane l D cI cZ _ p2 r3 hc4) (zkX3_62 ⟨by decide, by decide⟩ C0.2.2.2.2.1) rfl rfl rfl hl.1 (Nat.le_of_ble_eq_true rfl) dX3_twos_8 ⟨Nat.zero_le _, Nat.zero_le _⟩ rfl (Nat.le_of_ble_eq_true rfl) (fun H locs hP hS => ?_)
    have hP : va_P D vwCl ((wX h cI lagV deadV mannerV settingV keptRowV liveRowV shiftedRowV groupsV searchV deadUntilV settledV knownV tooLateV endedV)) H := hP
    refine z_ifne C0 16 dX3_twos_11 (by decide) (fun c103 => ?_) (fun c103 => ?_)
    · have hf := zif_neg hf c103
      refine z_iload_n C0 dX3_twos_16 rfl (lv_at hl 3 rfl) ?_
      refine z_sipush C0 dX3_twos_17 (by decide +kernel) ?_
      refine z_sipush C0 dX3_twos_20 (by decide +kernel) ?_
      obtain ⟨r5, hc6, hf⟩ := zbind hf
      refine z_callSi (rest := []) C0 hP (zD hD rfl) hS [] rfl (zmX3_isWithin l D cI cZ _ p3 (-200) 200 r5 hc6) (zkX3_66 ⟨by decide, by decide⟩ C0.2.2.2.2.1) rfl rfl rfl hl.1 (Nat.le_of_ble_eq_true rfl) dX3_twos_23 ⟨Nat.zero_le _, Nat.zero_le _⟩ rfl (Nat.le_of_ble_eq_true rfl) (fun H locs hP hS => ?_)
      have hP : va_P D vwCl ((wX h cI lagV deadV mannerV settingV keptRowV liveRowV shiftedRowV groupsV searchV deadUntilV settledV knownV tooLateV endedV)) H := hP
      refine z_ifne C0 32 dX3_twos_26 (by decide) (fun c102 => ?_) (fun c102 => ?_)
      · have hf := zif_neg hf c102
        refine z_iload_n C0 dX3_twos_32 rfl (lv_at hl 1 rfl) ?_
        refine z_iload_n C0 dX3_twos_33 rfl (lv_at hl 2 rfl) ?_
        refine z_icmpne C0 40 dX3_twos_34 (by decide) (fun c101 => ?_) (fun c101 => ?_)
        · have hf := zif_neg hf c101
          refine z_iconst C0 dX3_twos_40 ?_
          refine z_istore C0 [(4, .int (zI 0)), (0, .ref (h 0)), (1, .int (zI p1)), (2, .int (zI p2)), (3, .int (zI p3))] dX3_twos_41 hl (by decide) rfl (fun ls hl => ?_)
          refine z_iconst C0 dX3_twos_43 ?_
          refine z_istore C0 [(5, .int (zI 0)), (4, .int (zI 0)), (0, .ref (h 0)), (1, .int (zI p1)), (2, .int (zI p2)), (3, .int (zI p3))] dX3_twos_44 hl (by decide) rfl (fun ls hl => ?_)
          refine z_iconst C0 dX3_twos_46 ?_
          refine z_istore C0 [(6, .int (zI 0)), (5, .int (zI 0)), (4, .int (zI 0)), (0, .ref (h 0)), (1, .int (zI p1)), (2, .int (zI p2)), (3, .int (zI p3))] dX3_twos_47 hl (by decide) rfl (fun ls hl => ?_)
          have L98 : ∀ (zn : Nat) (i11 : Int) (i12 : Int) (i13 : Int) (out : Int), fX3_twos_L49 zn (zk_X lagV deadV mannerV settingV keptRowV liveRowV shiftedRowV groupsV searchV deadUntilV settledV knownV tooLateV endedV) p1 p2 p3 i11 i12 i13 = some out → (∀ (H : Heap) (locs : List Loc), va_P D vwCl ((wX h cI lagV deadV mannerV settingV keptRowV liveRowV shiftedRowV groupsV searchV deadUntilV settledV knownV tooLateV endedV)) H → va_S A s.heap H locs → ∀ ls : Array Slot, lv_has ls 9 [(4, .int (zI out))] → W p l e rmX3_twos s m args below meth c H locs 0 0 Q (F0 m 176 ls [])) → ∀ (H : Heap) (locs : List Loc), va_P D vwCl ((wX h cI lagV deadV mannerV settingV keptRowV liveRowV shiftedRowV groupsV searchV deadUntilV settledV knownV tooLateV endedV)) H → va_S A s.heap H locs → ∀ ls : Array Slot, lv_has ls 9 [(0, .ref (h 0)), (1, .int (zI p1)), (2, .int (zI p2)), (3, .int (zI p3)), (4, .int (zI i11)), (5, .int (zI i12)), (6, .int (zI i13))] → W p l e rmX3_twos s m args below meth c H locs 0 0 Q (F0 m 49 ls []) := by
            intro zn
            induction zn with
            | zero =>
              intro i11 i12 i13 out hf
              rw [fX3_twos_L49_z] at hf
              cases hf
            | succ zn ih =>
              intro i11 i12 i13 out hf K H locs hP hS ls hl
              rw [fX3_twos_L49_s] at hf
              refine z_iload C0 dX3_twos_49 (lv_at hl 6 rfl) ?_
              refine z_aload_n C0 dX3_twos_51 rfl (lv_at hl 0 rfl) ?_
              refine zgX3_123 C0 hP 0 rfl (.int (zI knownV)) rfl dX3_twos_52 ?_
              refine z_icmpge C0 176 dX3_twos_55 (by decide) (fun c97 => ?_) (fun c97 => ?_)
              · have hf := zif_pos hf c97
                cases hf
                exact K _ _ hP hS ls (lv_sub hl [4] rfl)
              · have hf := zif_neg hf c97
                refine z_aload_n C0 dX3_twos_58 rfl (lv_at hl 0 rfl) ?_
                refine zgX3_39 C0 hP 0 rfl (.ref (h 9)) rfl dX3_twos_59 ?_
                refine zgX3_163 C0 hP 9 rfl (.ref (h 11)) rfl dX3_twos_62 ?_
                refine z_iload C0 dX3_twos_65 (lv_at hl 6 rfl) ?_
                obtain ⟨g28, hf⟩ := zg_some hf
                refine z_iald C0 hP 11 rfl (Nat.le_of_ble_eq_true rfl) g28 dX3_twos_67 ?_
                refine z_iload_n C0 dX3_twos_68 rfl (lv_at hl 1 rfl) ?_
                obtain ⟨r29, hE96, hf⟩ := zbind hf
                have J30 : ∀ (H : Heap) (locs : List Loc), va_P D vwCl ((wX h cI lagV deadV mannerV settingV keptRowV liveRowV shiftedRowV groupsV searchV deadUntilV settledV knownV tooLateV endedV)) H → va_S A s.heap H locs → ∀ ls : Array Slot, lv_has ls 9 [(0, .ref (h 0)), (1, .int (zI p1)), (2, .int (zI p2)), (3, .int (zI p3)), (4, .int (zI r29.1)), (5, .int (zI r29.2)), (6, .int (zI i13))] → W p l e rmX3_twos s m args below meth c H locs 0 0 Q (F0 m 170 ls []) := by
                  intro H locs hP hS ls hl
                  refine z_iinc C0 [(6, .int (zI (i13 + 1))), (0, .ref (h 0)), (1, .int (zI p1)), (2, .int (zI p2)), (3, .int (zI p3)), (4, .int (zI r29.1)), (5, .int (zI r29.2))] dX3_twos_170 hl 6 rfl (by decide) rfl (fun ls hl => ?_)
                  refine z_goto C0 49 dX3_twos_173 (by decide) ?_
                  exact ih r29.1 r29.2 (i13 + 1) out hf K _ _ hP hS ls (lv_sub hl [1, 2, 3, 4, 5, 6, 0] rfl)
                have hf := hE96
                refine z_icmpeq C0 75 dX3_twos_69 (by decide) (fun c95 => ?_) (fun c95 => ?_)
                · have hf := zif_pos hf c95
                  refine z_aload_n C0 dX3_twos_75 rfl (lv_at hl 0 rfl) ?_
                  refine zgX3_39 C0 hP 0 rfl (.ref (h 9)) rfl dX3_twos_76 ?_
                  refine zgX3_132 C0 hP 9 rfl (.ref (h 10)) rfl dX3_twos_79 ?_
                  refine z_iload C0 dX3_twos_82 (lv_at hl 6 rfl) ?_
                  obtain ⟨g31, hf⟩ := zg_some hf
                  refine z_iald C0 hP 10 rfl (Nat.le_of_ble_eq_true rfl) g31 dX3_twos_84 ?_
                  refine z_iload_n C0 dX3_twos_85 rfl (lv_at hl 3 rfl) ?_
                  refine z_iadd C0 dX3_twos_86 ?_
                  obtain ⟨v32, hv32, hf⟩ := zl_some hf
                  refine z_name hv32 ?_
                  refine z_istore C0 [(7, .int (zI v32)), (0, .ref (h 0)), (1, .int (zI p1)), (2, .int (zI p2)), (3, .int (zI p3)), (4, .int (zI i11)), (5, .int (zI i12)), (6, .int (zI i13))] dX3_twos_87 hl (by decide) rfl (fun ls hl => ?_)
                  have L58 : ∀ (zn : Nat) (i38 : Int) (out : Int), fX3_twos_L89 zn (zk_X lagV deadV mannerV settingV keptRowV liveRowV shiftedRowV groupsV searchV deadUntilV settledV knownV tooLateV endedV) p1 p2 p3 i11 i13 v32 i38 = some out → (∀ (H : Heap) (locs : List Loc), va_P D vwCl ((wX h cI lagV deadV mannerV settingV keptRowV liveRowV shiftedRowV groupsV searchV deadUntilV settledV knownV tooLateV endedV)) H → va_S A s.heap H locs → ∀ ls : Array Slot, lv_has ls 9 [(0, .ref (h 0)), (1, .int (zI p1)), (2, .int (zI p2)), (3, .int (zI p3)), (4, .int (zI i11)), (5, .int (zI out)), (6, .int (zI i13)), (7, .int (zI v32))] → W p l e rmX3_twos s m args below meth c H locs 0 0 Q (F0 m 119 ls [])) → ∀ (H : Heap) (locs : List Loc), va_P D vwCl ((wX h cI lagV deadV mannerV settingV keptRowV liveRowV shiftedRowV groupsV searchV deadUntilV settledV knownV tooLateV endedV)) H → va_S A s.heap H locs → ∀ ls : Array Slot, lv_has ls 9 [(0, .ref (h 0)), (1, .int (zI p1)), (2, .int (zI p2)), (3, .int (zI p3)), (4, .int (zI i11)), (5, .int (zI i38)), (6, .int (zI i13)), (7, .int (zI v32))] → W p l e rmX3_twos s m args below meth c H locs 0 0 Q (F0 m 89 ls []) := by
                    intro zn
                    induction zn with
                    | zero =>
                      intro i38 out hf
                      rw [fX3_twos_L89_z] at hf
                      cases hf
                    | succ zn ih =>
                      intro i38 out hf K H locs hP hS ls hl
                      rw [fX3_twos_L89_s] at hf
                      refine z_iload C0 dX3_twos_89 (lv_at hl 5 rfl) ?_
                      refine z_aload_n C0 dX3_twos_91 rfl (lv_at hl 0 rfl) ?_
                      refine zgX3_123 C0 hP 0 rfl (.int (zI knownV)) rfl dX3_twos_92 ?_
                      refine z_icmpge C0 119 dX3_twos_95 (by decide) (fun c57 => ?_) (fun c57 => ?_)
                      · have hf := zif_pos hf c57
                        cases hf
                        exact K _ _ hP hS ls (lv_sub hl [0, 1, 2, 3, 4, 5, 6, 7] rfl)
                      · have hf := zif_neg hf c57
                        refine z_aload_n C0 dX3_twos_98 rfl (lv_at hl 0 rfl) ?_
                        refine zgX3_39 C0 hP 0 rfl (.ref (h 9)) rfl dX3_twos_99 ?_
                        refine zgX3_132 C0 hP 9 rfl (.ref (h 10)) rfl dX3_twos_102 ?_
                        refine z_iload C0 dX3_twos_105 (lv_at hl 5 rfl) ?_
                        obtain ⟨g55, hf⟩ := zg_some hf
                        refine z_iald C0 hP 10 rfl (Nat.le_of_ble_eq_true rfl) g55 dX3_twos_107 ?_
                        refine z_iload C0 dX3_twos_108 (lv_at hl 7 rfl) ?_
                        refine z_icmpge C0 119 dX3_twos_110 (by decide) (fun c56 => ?_) (fun c56 => ?_)
                        · have hf := zif_pos hf c56
                          cases hf
                          exact K _ _ hP hS ls (lv_sub hl [0, 1, 2, 3, 4, 5, 6, 7] rfl)
                        · have hf := zif_neg hf c56
                          refine z_iinc C0 [(5, .int (zI (i38 + 1))), (0, .ref (h 0)), (1, .int (zI p1)), (2, .int (zI p2)), (3, .int (zI p3)), (4, .int (zI i11)), (6, .int (zI i13)), (7, .int (zI v32))] dX3_twos_113 hl 5 rfl (by decide) rfl (fun ls hl => ?_)
                          refine z_goto C0 89 dX3_twos_116 (by decide) ?_
                          exact ih (i38 + 1) out hf K _ _ hP hS ls (lv_sub hl [1, 2, 3, 4, 5, 0, 6, 7] rfl)
                  obtain ⟨r59, hE60, hf⟩ := zbind hf
                  refine L58 _ i12 r59 hE60 ?_ _ _ hP hS ls (lv_sub hl [1, 2, 3, 4, 5, 6, 7, 0] rfl)
                  intro H locs hP hS ls hl
                  refine z_iload C0 dX3_twos_119 (lv_at hl 5 rfl) ?_
                  refine z_istore C0 [(8, .int (zI r59)), (0, .ref (h 0)), (1, .int (zI p1)), (2, .int (zI p2)), (3, .int (zI p3)), (4, .int (zI i11)), (5, .int (zI r59)), (6, .int (zI i13)), (7, .int (zI v32))] dX3_twos_121 hl (by decide) rfl (fun ls hl => ?_)
                  have L92 : ∀ (zn : Nat) (i65 : Int) (i69 : Int) (out : Int), fX3_twos_L123 zn (zk_X lagV deadV mannerV settingV keptRowV liveRowV shiftedRowV groupsV searchV deadUntilV settledV knownV tooLateV endedV) p1 p2 p3 r59 i13 v32 i65 i69 = some out → (∀ (H : Heap) (locs : List Loc), va_P D vwCl ((wX h cI lagV deadV mannerV settingV keptRowV liveRowV shiftedRowV groupsV searchV deadUntilV settledV knownV tooLateV endedV)) H → va_S A s.heap H locs → ∀ ls : Array Slot, lv_has ls 9 [(0, .ref (h 0)), (1, .int (zI p1)), (2, .int (zI p2)), (3, .int (zI p3)), (4, .int (zI out)), (5, .int (zI r59)), (6, .int (zI i13))] → W p l e rmX3_twos s m args below meth c H locs 0 0 Q (F0 m 170 ls [])) → ∀ (H : Heap) (locs : List Loc), va_P D vwCl ((wX h cI lagV deadV mannerV settingV keptRowV liveRowV shiftedRowV groupsV searchV deadUntilV settledV knownV tooLateV endedV)) H → va_S A s.heap H locs → ∀ ls : Array Slot, lv_has ls 9 [(0, .ref (h 0)), (1, .int (zI p1)), (2, .int (zI p2)), (3, .int (zI p3)), (4, .int (zI i65)), (5, .int (zI r59)), (6, .int (zI i13)), (7, .int (zI v32)), (8, .int (zI i69))] → W p l e rmX3_twos s m args below meth c H locs 0 0 Q (F0 m 123 ls []) := by
                    intro zn
                    induction zn with
                    | zero =>
                      intro i65 i69 out hf
                      rw [fX3_twos_L123_z] at hf
                      cases hf
                    | succ zn ih =>
                      intro i65 i69 out hf K H locs hP hS ls hl
                      rw [fX3_twos_L123_s] at hf
                      refine z_iload C0 dX3_twos_123 (lv_at hl 8 rfl) ?_
                      refine z_aload_n C0 dX3_twos_125 rfl (lv_at hl 0 rfl) ?_
                      refine zgX3_123 C0 hP 0 rfl (.int (zI knownV)) rfl dX3_twos_126 ?_
                      refine z_icmpge C0 170 dX3_twos_129 (by decide) (fun c91 => ?_) (fun c91 => ?_)
                      · have hf := zif_pos hf c91
                        cases hf
                        exact K _ _ hP hS ls (lv_sub hl [0, 1, 2, 3, 4, 5, 6] rfl)
                      · have hf := zif_neg hf c91
                        refine z_aload_n C0 dX3_twos_132 rfl (lv_at hl 0 rfl) ?_
                        refine zgX3_39 C0 hP 0 rfl (.ref (h 9)) rfl dX3_twos_133 ?_
                        refine zgX3_132 C0 hP 9 rfl (.ref (h 10)) rfl dX3_twos_136 ?_
                        refine z_iload C0 dX3_twos_139 (lv_at hl 8 rfl) ?_
                        obtain ⟨g84, hf⟩ := zg_some hf
                        refine z_iald C0 hP 10 rfl (Nat.le_of_ble_eq_true rfl) g84 dX3_twos_141 ?_
                        refine z_iload C0 dX3_twos_142 (lv_at hl 7 rfl) ?_
                        refine z_icmpne C0 170 dX3_twos_144 (by decide) (fun c90 => ?_) (fun c90 => ?_)
                        · have hf := zif_neg hf c90
                          cases hf
                          exact K _ _ hP hS ls (lv_sub hl [0, 1, 2, 3, 4, 5, 6] rfl)
                        · have hf := zif_pos hf c90
                          refine z_aload_n C0 dX3_twos_147 rfl (lv_at hl 0 rfl) ?_
                          refine zgX3_39 C0 hP 0 rfl (.ref (h 9)) rfl dX3_twos_148 ?_
                          refine zgX3_163 C0 hP 9 rfl (.ref (h 11)) rfl dX3_twos_151 ?_
                          refine z_iload C0 dX3_twos_154 (lv_at hl 8 rfl) ?_
                          obtain ⟨g85, hf⟩ := zg_some hf
                          refine z_iald C0 hP 11 rfl (Nat.le_of_ble_eq_true rfl) g85 dX3_twos_156 ?_
                          refine z_iload_n C0 dX3_twos_157 rfl (lv_at hl 2 rfl) ?_
                          obtain ⟨r86, hE89, hf⟩ := zbind hf
                          have J87 : ∀ (H : Heap) (locs : List Loc), va_P D vwCl ((wX h cI lagV deadV mannerV settingV keptRowV liveRowV shiftedRowV groupsV searchV deadUntilV settledV knownV tooLateV endedV)) H → va_S A s.heap H locs → ∀ ls : Array Slot, lv_has ls 9 [(0, .ref (h 0)), (1, .int (zI p1)), (2, .int (zI p2)), (3, .int (zI p3)), (4, .int (zI r86)), (5, .int (zI r59)), (6, .int (zI i13)), (7, .int (zI v32)), (8, .int (zI i69))] → W p l e rmX3_twos s m args below meth c H locs 0 0 Q (F0 m 164 ls []) := by
                            intro H locs hP hS ls hl
                            refine z_iinc C0 [(8, .int (zI (i69 + 1))), (0, .ref (h 0)), (1, .int (zI p1)), (2, .int (zI p2)), (3, .int (zI p3)), (4, .int (zI r86)), (5, .int (zI r59)), (6, .int (zI i13)), (7, .int (zI v32))] dX3_twos_164 hl 8 rfl (by decide) rfl (fun ls hl => ?_)
                            refine z_goto C0 123 dX3_twos_167 (by decide) ?_
                            exact ih r86 (i69 + 1) out hf K _ _ hP hS ls (lv_sub hl [1, 2, 3, 4, 5, 6, 7, 8, 0] rfl)
                          have hf := hE89
                          refine z_icmpne C0 164 dX3_twos_158 (by decide) (fun c88 => ?_) (fun c88 => ?_)
                          · have hf := zif_neg hf c88
                            cases hf
                            exact J87 _ _ hP hS ls (lv_sub hl [0, 1, 2, 3, 4, 5, 6, 7, 8] rfl)
                          · have hf := zif_pos hf c88
                            refine z_iinc C0 [(4, .int (zI (i65 + 1))), (0, .ref (h 0)), (1, .int (zI p1)), (2, .int (zI p2)), (3, .int (zI p3)), (5, .int (zI r59)), (6, .int (zI i13)), (7, .int (zI v32)), (8, .int (zI i69))] dX3_twos_161 hl 4 rfl (by decide) rfl (fun ls hl => ?_)
                            cases hf
                            exact J87 _ _ hP hS ls (lv_sub hl [1, 2, 3, 4, 0, 5, 6, 7, 8] rfl)
                  obtain ⟨r93, hE94, hf⟩ := zbind hf
                  refine L92 _ i11 r59 r93 hE94 ?_ _ _ hP hS ls (lv_sub hl [1, 2, 3, 4, 5, 6, 7, 8, 0] rfl)
                  intro H locs hP hS ls hl
                  cases hf
                  exact J30 _ _ hP hS ls (lv_sub hl [0, 1, 2, 3, 4, 5, 6] rfl)
                · have hf := zif_neg hf c95
                  refine z_goto C0 170 dX3_twos_72 (by decide) ?_
                  cases hf
                  exact J30 _ _ hP hS ls (lv_sub hl [0, 1, 2, 3, 4, 5, 6] rfl)
          obtain ⟨r99, hE100, hf⟩ := zbind hf
          refine L98 _ 0 0 0 r99 hE100 ?_ _ _ hP hS ls (lv_sub hl [3, 4, 5, 6, 2, 1, 0] rfl)
          intro H locs hP hS ls hl
          refine z_iload C0 dX3_twos_176 (lv_at hl 0 rfl) ?_
          cases hf
          exact hret hP hS dX3_twos_178
        · have hf := zif_pos hf c101
          refine z_bipush C0 dX3_twos_37 (by decide +kernel) ?_
          cases hf
          exact hret hP hS dX3_twos_39
      · have hf := zif_pos hf c102
        refine z_bipush C0 dX3_twos_29 (by decide +kernel) ?_
        cases hf
        exact hret hP hS dX3_twos_31
    · have hf := zif_pos hf c103
      refine z_iconst C0 dX3_twos_14 ?_
      cases hf
      exact hret hP hS dX3_twos_15
