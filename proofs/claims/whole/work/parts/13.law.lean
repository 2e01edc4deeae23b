set_option maxHeartbeats 8000000 in
set_option maxRecDepth 100000 in
theorem law_loop {p : Program} {l : Launch} {e : Env} {s : State} {m : MethodId} {below : List Frame} {meth : Method} {c : Code} {D : va_G} {cI cZ : ClassId} {A : Nat → Prop} {b zL0 : Nat} {xs : Nat → Int32} {zsc : Nat → Int} {h h2 : Nat → Nat} {Q : State → Prop} (C0 : zC p s m #[Value.ref b] c D cI cZ A cL_law 4 RL) (hX : va_X b zL0 xs s s.heap) (hbl : b < s.heap.size) (hbA : ¬ A b) (hL : zL0 < 2147483648) (hsc : ∀ j, xs j = zI (zsc j)) (hZ : zSt A s s.heap)
    (hret : ∀ {pc : Nat} {H : Heap} {locs : List Loc} {ls : Array Slot}, va_S A s.heap H locs → decode cL_law pc = .ok (.ireturn, 1) → W p l e room_1 s m #[Value.ref b] below meth c H locs 600000 7302250 Q (F0 m pc ls [.int (zI 1)])) :
    ∀ (zn : Nat) (t : zXT) (t2 : zMT) (i3 : Int), fL_law zn zL0 zsc t t2 i3 = some 1 → ∀ (H : Heap) (locs : List Loc), va_P D vwCl ((wX h cI (zx_lag t) (zx_dead t) (zx_manner t) (zx_setting t) (zx_keptRow t) (zx_liveRow t) (zx_shiftedRow t) (zx_groups t) (zx_search t) (zx_deadUntil t) (zx_settled t) (zx_known t) (zx_tooLate t) (zx_ended t)) ++ (wM h2 cI cZ (zm_lag t2) (zm_dead t2) (zm_manner t2) (zm_setting t2) (zm_leastOf t2) (zm_mostOf t2) (zm_kept t2) (zm_planeOf t2) (zm_momentOf t2) (zm_stripOf t2) (zm_late t2) (zm_isOver t2) (zm_isLive t2) (zm_endOf t2) (zm_known t2) (zm_timeOf t2) (zm_pulseOf t2) (zm_groupOf t2) (zm_groups t2) (zm_shut t2) (zm_firstOf t2) (zm_agrees t2) (zm_agreeSet t2) (zm_missed t2) (zm_bestA t2) (zm_bestB t2) (zm_bestAgrees t2) (zm_bestMissed t2))) H → va_D A ((wX h cI (zx_lag t) (zx_dead t) (zx_manner t) (zx_setting t) (zx_keptRow t) (zx_liveRow t) (zx_shiftedRow t) (zx_groups t) (zx_search t) (zx_deadUntil t) (zx_settled t) (zx_known t) (zx_tooLate t) (zx_ended t)) ++ (wM h2 cI cZ (zm_lag t2) (zm_dead t2) (zm_manner t2) (zm_setting t2) (zm_leastOf t2) (zm_mostOf t2) (zm_kept t2) (zm_planeOf t2) (zm_momentOf t2) (zm_stripOf t2) (zm_late t2) (zm_isOver t2) (zm_isLive t2) (zm_endOf t2) (zm_known t2) (zm_timeOf t2) (zm_pulseOf t2) (zm_groupOf t2) (zm_groups t2) (zm_shut t2) (zm_firstOf t2) (zm_agrees t2) (zm_agreeSet t2) (zm_missed t2) (zm_bestA t2) (zm_bestB t2) (zm_bestAgrees t2) (zm_bestMissed t2))) → va_S A s.heap H locs → ∀ ls : Array Slot, lv_has ls 4 [(0, .ref b), (1, .ref (h 0)), (2, .ref (h2 0)), (3, .int (zI i3))] → W p l e room_1 s m #[Value.ref b] below meth c H locs 600000 7302250 Q (F0 m 18 ls []) := by
  intro zn
  induction zn with
  | zero =>
    intro t t2 i3 hf
    rw [fL_law_z] at hf
    cases hf
  | succ zn ih =>
    intro t t2 i3 hf H locs hP hD hS ls hl
    rw [fL_law_s] at hf
    refine z_iload_n C0 dL_law_18 rfl (lv_at hl 3 rfl) ?_
    refine z_aload_n C0 dL_law_19 rfl (lv_at hl 0 rfl) ?_
    refine z_slen C0 hX hbl hbA hS dL_law_20 ?_
    refine z_iconst C0 dL_law_21 ?_
    refine z_isub C0 dL_law_22 ?_
    refine z_icmpgt C0 712 dL_law_23 (by decide) (fun c180 => ?_) (fun c180 => ?_)
    · have hf := zif_pos hf c180
      refine z_iconst C0 dL_law_712 ?_
      exact hret hS dL_law_713
    · have hf := zif_neg hf c180
      refine z_aload_n C0 dL_law_26 rfl (lv_at hl 0 rfl) ?_
      refine z_iload_n C0 dL_law_27 rfl (lv_at hl 3 rfl) ?_
      obtain ⟨g1, hf⟩ := zg_some hf
      refine z_sld C0 hX hbl hbA hL hsc hS g1 dL_law_28 ?_
      refine z_bipush C0 dL_law_29 (by decide +kernel) ?_
      refine z_iand C0 dL_law_31 ?_
      by_cases c2 : zE (zand (zsc (Int.toNat i3)) 31) 0
      · have hf := zif_pos hf c2
        refine z_tabIn C0 c2 120 dL_law_32 (by decide +kernel) (by decide +kernel) rfl (by decide) ?_
        refine z_aload_n C0 dL_law_120 rfl (lv_at hl 1 rfl) ?_
        refine z_aload_n C0 dL_law_121 rfl (lv_at hl 0 rfl) ?_
        refine z_iload_n C0 dL_law_122 rfl (lv_at hl 3 rfl) ?_
        refine z_iconst C0 dL_law_123 ?_
        refine z_iadd C0 dL_law_124 ?_
        obtain ⟨g3, hf⟩ := zg_some hf
        refine z_sld C0 hX hbl hbA hL hsc hS g3 dL_law_125 ?_
        refine z_aload_n C0 dL_law_126 rfl (lv_at hl 0 rfl) ?_
        refine z_iload_n C0 dL_law_127 rfl (lv_at hl 3 rfl) ?_
        refine z_iconst C0 dL_law_128 ?_
        refine z_iadd C0 dL_law_129 ?_
        obtain ⟨g4, hf⟩ := zg_some hf
        refine z_sld C0 hX hbl hbA hL hsc hS g4 dL_law_130 ?_
        refine z_aload_n C0 dL_law_131 rfl (lv_at hl 0 rfl) ?_
        refine z_iload_n C0 dL_law_132 rfl (lv_at hl 3 rfl) ?_
        refine z_iconst C0 dL_law_133 ?_
        refine z_iadd C0 dL_law_134 ?_
        obtain ⟨g5, hf⟩ := zg_some hf
        refine z_sld C0 hX hbl hbA hL hsc hS g5 dL_law_135 ?_
        refine z_aload_n C0 dL_law_136 rfl (lv_at hl 0 rfl) ?_
        refine z_iload_n C0 dL_law_137 rfl (lv_at hl 3 rfl) ?_
        refine z_iconst C0 dL_law_138 ?_
        refine z_iadd C0 dL_law_139 ?_
        obtain ⟨g6, hf⟩ := zg_some hf
        refine z_sld C0 hX hbl hbA hL hsc hS g6 dL_law_140 ?_
        obtain ⟨r7, hc8, hf⟩ := zbind hf
        refine z_callAi (rest := []) C0 hP (zD hD rfl) hS (zmX3_plane l D cI cZ h _ (zx_lag t) (zx_dead t) (zx_manner t) (zx_setting t) (zx_keptRow t) (zx_liveRow t) (zx_shiftedRow t) (zx_groups t) (zx_search t) (zx_deadUntil t) (zx_settled t) (zx_known t) (zx_tooLate t) (zx_ended t) (zsc (Int.toNat (i3 + 1))) (zsc (Int.toNat (i3 + 2))) (zsc (Int.toNat (i3 + 3))) (zsc (Int.toNat (i3 + 4))) r7 hc8) (zkL_13 ⟨by decide, by decide⟩ C0.2.2.2.2.1) 3 rfl rfl rfl rfl hl.1 (Nat.le_of_ble_eq_true rfl) dL_law_141 ⟨Nat.le_refl _, Nat.le_refl _⟩ (fun H locs hP hS => ?_)
        have hP : va_P D vwCl ((wX h cI r7.2.1 r7.2.2.1 r7.2.2.2 (zx_setting t) (zx_keptRow t) (zx_liveRow t) (zx_shiftedRow t) (zx_groups t) (zx_search t) (zx_deadUntil t) (zx_settled t) (zx_known t) (zx_tooLate t) (zx_ended t)) ++ (wM h2 cI cZ (zm_lag t2) (zm_dead t2) (zm_manner t2) (zm_setting t2) (zm_leastOf t2) (zm_mostOf t2) (zm_kept t2) (zm_planeOf t2) (zm_momentOf t2) (zm_stripOf t2) (zm_late t2) (zm_isOver t2) (zm_isLive t2) (zm_endOf t2) (zm_known t2) (zm_timeOf t2) (zm_pulseOf t2) (zm_groupOf t2) (zm_groups t2) (zm_shut t2) (zm_firstOf t2) (zm_agrees t2) (zm_agreeSet t2) (zm_missed t2) (zm_bestA t2) (zm_bestB t2) (zm_bestAgrees t2) (zm_bestMissed t2))) H := hP
        refine z_aload_n C0 dL_law_144 rfl (lv_at hl 2 rfl) ?_
        refine z_aload_n C0 dL_law_145 rfl (lv_at hl 0 rfl) ?_
        refine z_iload_n C0 dL_law_146 rfl (lv_at hl 3 rfl) ?_
        refine z_iconst C0 dL_law_147 ?_
        refine z_iadd C0 dL_law_148 ?_
        obtain ⟨g9, hf⟩ := zg_some hf
        refine z_sld C0 hX hbl hbA hL hsc hS g9 dL_law_149 ?_
        refine z_aload_n C0 dL_law_150 rfl (lv_at hl 0 rfl) ?_
        refine z_iload_n C0 dL_law_151 rfl (lv_at hl 3 rfl) ?_
        refine z_iconst C0 dL_law_152 ?_
        refine z_iadd C0 dL_law_153 ?_
        obtain ⟨g10, hf⟩ := zg_some hf
        refine z_sld C0 hX hbl hbA hL hsc hS g10 dL_law_154 ?_
        refine z_aload_n C0 dL_law_155 rfl (lv_at hl 0 rfl) ?_
        refine z_iload_n C0 dL_law_156 rfl (lv_at hl 3 rfl) ?_
        refine z_iconst C0 dL_law_157 ?_
        refine z_iadd C0 dL_law_158 ?_
        obtain ⟨g11, hf⟩ := zg_some hf
        refine z_sld C0 hX hbl hbA hL hsc hS g11 dL_law_159 ?_
        refine z_aload_n C0 dL_law_160 rfl (lv_at hl 0 rfl) ?_
        refine z_iload_n C0 dL_law_161 rfl (lv_at hl 3 rfl) ?_
        refine z_iconst C0 dL_law_162 ?_
        refine z_iadd C0 dL_law_163 ?_
        obtain ⟨g12, hf⟩ := zg_some hf
        refine z_sld C0 hX hbl hbA hL hsc hS g12 dL_law_164 ?_
        obtain ⟨r13, hc14, hf⟩ := zbind hf
        refine z_callBi (rest := [.int (zI r7.1)]) C0 hP (zD hD rfl) hS (zmX4_plane l D cI cZ h2 _ (zm_lag t2) (zm_dead t2) (zm_manner t2) (zm_setting t2) (zm_leastOf t2) (zm_mostOf t2) (zm_kept t2) (zm_planeOf t2) (zm_momentOf t2) (zm_stripOf t2) (zm_late t2) (zm_isOver t2) (zm_isLive t2) (zm_endOf t2) (zm_known t2) (zm_timeOf t2) (zm_pulseOf t2) (zm_groupOf t2) (zm_groups t2) (zm_shut t2) (zm_firstOf t2) (zm_agrees t2) (zm_agreeSet t2) (zm_missed t2) (zm_bestA t2) (zm_bestB t2) (zm_bestAgrees t2) (zm_bestMissed t2) (zsc (Int.toNat (i3 + 1))) (zsc (Int.toNat (i3 + 2))) (zsc (Int.toNat (i3 + 3))) (zsc (Int.toNat (i3 + 4))) r13 hc14) (zkL_17 ⟨by decide, by decide⟩ C0.2.2.2.2.1) 4 rfl rfl rfl rfl hl.1 (Nat.le_of_ble_eq_true rfl) dL_law_165 ⟨Nat.le_refl _, Nat.le_refl _⟩ (fun H locs hP hS => ?_)
        have hP : va_P D vwCl ((wX h cI r7.2.1 r7.2.2.1 r7.2.2.2 (zx_setting t) (zx_keptRow t) (zx_liveRow t) (zx_shiftedRow t) (zx_groups t) (zx_search t) (zx_deadUntil t) (zx_settled t) (zx_known t) (zx_tooLate t) (zx_ended t)) ++ (wM h2 cI cZ r13.2.1 r13.2.2.1 r13.2.2.2 (zm_setting t2) (zm_leastOf t2) (zm_mostOf t2) (zm_kept t2) (zm_planeOf t2) (zm_momentOf t2) (zm_stripOf t2) (zm_late t2) (zm_isOver t2) (zm_isLive t2) (zm_endOf t2) (zm_known t2) (zm_timeOf t2) (zm_pulseOf t2) (zm_groupOf t2) (zm_groups t2) (zm_shut t2) (zm_firstOf t2) (zm_agrees t2) (zm_agreeSet t2) (zm_missed t2) (zm_bestA t2) (zm_bestB t2) (zm_bestAgrees t2) (zm_bestMissed t2))) H := hP
        refine z_icmpeq C0 706 dL_law_168 (by decide) (fun c15 => ?_) (fun c15 => ?_)
        · have hf := zif_pos hf c15
          refine z_iinc C0 [(3, .int (zI (i3 + 5))), (0, .ref b), (1, .ref (h 0)), (2, .ref (h2 0))] dL_law_706 hl 3 rfl (by decide) rfl (fun ls hl => ?_)
          refine z_goto C0 18 dL_law_709 (by decide) ?_
          exact ih (zk_X r7.2.1 r7.2.2.1 r7.2.2.2 (zx_setting t) (zx_keptRow t) (zx_liveRow t) (zx_shiftedRow t) (zx_groups t) (zx_search t) (zx_deadUntil t) (zx_settled t) (zx_known t) (zx_tooLate t) (zx_ended t)) (zk_M r13.2.1 r13.2.2.1 r13.2.2.2 (zm_setting t2) (zm_leastOf t2) (zm_mostOf t2) (zm_kept t2) (zm_planeOf t2) (zm_momentOf t2) (zm_stripOf t2) (zm_late t2) (zm_isOver t2) (zm_isLive t2) (zm_endOf t2) (zm_known t2) (zm_timeOf t2) (zm_pulseOf t2) (zm_groupOf t2) (zm_groups t2) (zm_shut t2) (zm_firstOf t2) (zm_agrees t2) (zm_agreeSet t2) (zm_missed t2) (zm_bestA t2) (zm_bestB t2) (zm_bestAgrees t2) (zm_bestMissed t2)) (i3 + 5) hf _ _ hP (zD hD rfl) hS ls (lv_sub hl [1, 2, 3, 0] rfl)
        · have hf := zif_neg hf c15
          refine z_iconst C0 dL_law_171 ?_
          exact absurd hf (by decide)
      · have hf := zif_neg hf c2
        by_cases c16 : zE (zand (zsc (Int.toNat i3)) 31) 1
        · have hf := zif_pos hf c16
          refine z_tabIn C0 c16 173 dL_law_32 (by decide +kernel) (by decide +kernel) rfl (by decide) ?_
          refine z_aload_n C0 dL_law_173 rfl (lv_at hl 1 rfl) ?_
          refine z_aload_n C0 dL_law_174 rfl (lv_at hl 0 rfl) ?_
          refine z_iload_n C0 dL_law_175 rfl (lv_at hl 3 rfl) ?_
          refine z_iconst C0 dL_law_176 ?_
          refine z_iadd C0 dL_law_177 ?_
          obtain ⟨g17, hf⟩ := zg_some hf
          refine z_sld C0 hX hbl hbA hL hsc hS g17 dL_law_178 ?_
          refine z_aload_n C0 dL_law_179 rfl (lv_at hl 0 rfl) ?_
          refine z_iload_n C0 dL_law_180 rfl (lv_at hl 3 rfl) ?_
          refine z_iconst C0 dL_law_181 ?_
          refine z_iadd C0 dL_law_182 ?_
          obtain ⟨g18, hf⟩ := zg_some hf
          refine z_sld C0 hX hbl hbA hL hsc hS g18 dL_law_183 ?_
          obtain ⟨r19, hc20, hf⟩ := zbind hf
          refine z_callAi (rest := []) C0 hP (zD hD rfl) hS (zmX3_ofPlane l D cI cZ h _ (zx_lag t) (zx_dead t) (zx_manner t) (zx_setting t) (zx_keptRow t) (zx_liveRow t) (zx_shiftedRow t) (zx_groups t) (zx_search t) (zx_deadUntil t) (zx_settled t) (zx_known t) (zx_tooLate t) (zx_ended t) (zsc (Int.toNat (i3 + 1))) (zsc (Int.toNat (i3 + 2))) r19 hc20) (zkL_18 ⟨by decide, by decide⟩ C0.2.2.2.2.1) 3 rfl rfl rfl rfl hl.1 (Nat.le_of_ble_eq_true rfl) dL_law_184 ⟨Nat.le_refl _, Nat.le_refl _⟩ (fun H locs hP hS => ?_)
          have hP : va_P D vwCl ((wX h cI (zx_lag t) (zx_dead t) (zx_manner t) (zx_setting t) (zx_keptRow t) (zx_liveRow t) (zx_shiftedRow t) (zx_groups t) (zx_search t) (zx_deadUntil t) (zx_settled t) (zx_known t) (zx_tooLate t) (zx_ended t)) ++ (wM h2 cI cZ (zm_lag t2) (zm_dead t2) (zm_manner t2) (zm_setting t2) (zm_leastOf t2) (zm_mostOf t2) (zm_kept t2) (zm_planeOf t2) (zm_momentOf t2) (zm_stripOf t2) (zm_late t2) (zm_isOver t2) (zm_isLive t2) (zm_endOf t2) (zm_known t2) (zm_timeOf t2) (zm_pulseOf t2) (zm_groupOf t2) (zm_groups t2) (zm_shut t2) (zm_firstOf t2) (zm_agrees t2) (zm_agreeSet t2) (zm_missed t2) (zm_bestA t2) (zm_bestB t2) (zm_bestAgrees t2) (zm_bestMissed t2))) H := hP
          refine z_aload_n C0 dL_law_187 rfl (lv_at hl 2 rfl) ?_
          refine z_aload_n C0 dL_law_188 rfl (lv_at hl 0 rfl) ?_
          refine z_iload_n C0 dL_law_189 rfl (lv_at hl 3 rfl) ?_
          refine z_iconst C0 dL_law_190 ?_
          refine z_iadd C0 dL_law_191 ?_
          obtain ⟨g21, hf⟩ := zg_some hf
          refine z_sld C0 hX hbl hbA hL hsc hS g21 dL_law_192 ?_
          refine z_aload_n C0 dL_law_193 rfl (lv_at hl 0 rfl) ?_
          refine z_iload_n C0 dL_law_194 rfl (lv_at hl 3 rfl) ?_
          refine z_iconst C0 dL_law_195 ?_
          refine z_iadd C0 dL_law_196 ?_
          obtain ⟨g22, hf⟩ := zg_some hf
          refine z_sld C0 hX hbl hbA hL hsc hS g22 dL_law_197 ?_
          obtain ⟨r23, hc24, hf⟩ := zbind hf
          refine z_callBi (rest := [.int (zI r19)]) C0 hP (zD hD rfl) hS (zmX4_ofPlane l D cI cZ h2 _ (zm_lag t2) (zm_dead t2) (zm_manner t2) (zm_setting t2) (zm_leastOf t2) (zm_mostOf t2) (zm_kept t2) (zm_planeOf t2) (zm_momentOf t2) (zm_stripOf t2) (zm_late t2) (zm_isOver t2) (zm_isLive t2) (zm_endOf t2) (zm_known t2) (zm_timeOf t2) (zm_pulseOf t2) (zm_groupOf t2) (zm_groups t2) (zm_shut t2) (zm_firstOf t2) (zm_agrees t2) (zm_agreeSet t2) (zm_missed t2) (zm_bestA t2) (zm_bestB t2) (zm_bestAgrees t2) (zm_bestMissed t2) (zsc (Int.toNat (i3 + 1))) (zsc (Int.toNat (i3 + 2))) r23 hc24) (zkL_22 ⟨by decide, by decide⟩ C0.2.2.2.2.1) 4 rfl rfl rfl rfl hl.1 (Nat.le_of_ble_eq_true rfl) dL_law_198 ⟨Nat.le_refl _, Nat.le_refl _⟩ (fun H locs hP hS => ?_)
          have hP : va_P D vwCl ((wX h cI (zx_lag t) (zx_dead t) (zx_manner t) (zx_setting t) (zx_keptRow t) (zx_liveRow t) (zx_shiftedRow t) (zx_groups t) (zx_search t) (zx_deadUntil t) (zx_settled t) (zx_known t) (zx_tooLate t) (zx_ended t)) ++ (wM h2 cI cZ (zm_lag t2) (zm_dead t2) (zm_manner t2) (zm_setting t2) (zm_leastOf t2) (zm_mostOf t2) (zm_kept t2) (zm_planeOf t2) (zm_momentOf t2) (zm_stripOf t2) (zm_late t2) (zm_isOver t2) r23.2.1 r23.2.2 (zm_known t2) (zm_timeOf t2) (zm_pulseOf t2) (zm_groupOf t2) (zm_groups t2) (zm_shut t2) (zm_firstOf t2) (zm_agrees t2) (zm_agreeSet t2) (zm_missed t2) (zm_bestA t2) (zm_bestB t2) (zm_bestAgrees t2) (zm_bestMissed t2))) H := hP
          refine z_icmpeq C0 706 dL_law_201 (by decide) (fun c25 => ?_) (fun c25 => ?_)
          · have hf := zif_pos hf c25
            refine z_iinc C0 [(3, .int (zI (i3 + 5))), (0, .ref b), (1, .ref (h 0)), (2, .ref (h2 0))] dL_law_706 hl 3 rfl (by decide) rfl (fun ls hl => ?_)
            refine z_goto C0 18 dL_law_709 (by decide) ?_
            exact ih t (zk_M (zm_lag t2) (zm_dead t2) (zm_manner t2) (zm_setting t2) (zm_leastOf t2) (zm_mostOf t2) (zm_kept t2) (zm_planeOf t2) (zm_momentOf t2) (zm_stripOf t2) (zm_late t2) (zm_isOver t2) r23.2.1 r23.2.2 (zm_known t2) (zm_timeOf t2) (zm_pulseOf t2) (zm_groupOf t2) (zm_groups t2) (zm_shut t2) (zm_firstOf t2) (zm_agrees t2) (zm_agreeSet t2) (zm_missed t2) (zm_bestA t2) (zm_bestB t2) (zm_bestAgrees t2) (zm_bestMissed t2)) (i3 + 5) hf _ _ hP (zD hD rfl) hS ls (lv_sub hl [1, 2, 3, 0] rfl)
          · have hf := zif_neg hf c25
            refine z_iconst C0 dL_law_204 ?_
            exact absurd hf (by decide)
        · have hf := zif_neg hf c16
          by_cases c26 : zE (zand (zsc (Int.toNat i3)) 31) 2
          · have hf := zif_pos hf c26
            refine z_tabIn C0 c26 206 dL_law_32 (by decide +kernel) (by decide +kernel) rfl (by decide) ?_
            refine z_aload_n C0 dL_law_206 rfl (lv_at hl 1 rfl) ?_
            refine z_aload_n C0 dL_law_207 rfl (lv_at hl 0 rfl) ?_
            refine z_iload_n C0 dL_law_208 rfl (lv_at hl 3 rfl) ?_
            refine z_iconst C0 dL_law_209 ?_
            refine z_iadd C0 dL_law_210 ?_
            obtain ⟨g27, hf⟩ := zg_some hf
            refine z_sld C0 hX hbl hbA hL hsc hS g27 dL_law_211 ?_
            refine z_aload_n C0 dL_law_212 rfl (lv_at hl 0 rfl) ?_
            refine z_iload_n C0 dL_law_213 rfl (lv_at hl 3 rfl) ?_
            refine z_iconst C0 dL_law_214 ?_
            refine z_iadd C0 dL_law_215 ?_
            obtain ⟨g28, hf⟩ := zg_some hf
            refine z_sld C0 hX hbl hbA hL hsc hS g28 dL_law_216 ?_
            obtain ⟨r29, hc30, hf⟩ := zbind hf
            refine z_callAiS (rest := []) C0 hP (zD hD rfl) hS hZ (zmX3_tune l D cI cZ h _ (zx_lag t) (zx_dead t) (zx_manner t) (zx_setting t) (zx_keptRow t) (zx_liveRow t) (zx_shiftedRow t) (zx_groups t) (zx_search t) (zx_deadUntil t) (zx_settled t) (zx_known t) (zx_tooLate t) (zx_ended t) (zsc (Int.toNat (i3 + 1))) (zsc (Int.toNat (i3 + 2))) r29 hc30) (zkL_23 ⟨by decide, by decide⟩ C0.2.2.2.2.1) 3 rfl rfl rfl rfl hl.1 (Nat.le_of_ble_eq_true rfl) dL_law_217 ⟨Nat.le_refl _, Nat.le_refl _⟩ (fun H locs hP hS => ?_)
            have hP : va_P D vwCl ((wX h cI (zx_lag t) (zx_dead t) (zx_manner t) r29.2 (zx_keptRow t) (zx_liveRow t) (zx_shiftedRow t) (zx_groups t) (zx_search t) (zx_deadUntil t) (zx_settled t) (zx_known t) (zx_tooLate t) (zx_ended t)) ++ (wM h2 cI cZ (zm_lag t2) (zm_dead t2) (zm_manner t2) (zm_setting t2) (zm_leastOf t2) (zm_mostOf t2) (zm_kept t2) (zm_planeOf t2) (zm_momentOf t2) (zm_stripOf t2) (zm_late t2) (zm_isOver t2) (zm_isLive t2) (zm_endOf t2) (zm_known t2) (zm_timeOf t2) (zm_pulseOf t2) (zm_groupOf t2) (zm_groups t2) (zm_shut t2) (zm_firstOf t2) (zm_agrees t2) (zm_agreeSet t2) (zm_missed t2) (zm_bestA t2) (zm_bestB t2) (zm_bestAgrees t2) (zm_bestMissed t2))) H := hP
            refine z_aload_n C0 dL_law_220 rfl (lv_at hl 2 rfl) ?_
            refine z_aload_n C0 dL_law_221 rfl (lv_at hl 0 rfl) ?_
            refine z_iload_n C0 dL_law_222 rfl (lv_at hl 3 rfl) ?_
            refine z_iconst C0 dL_law_223 ?_
            refine z_iadd C0 dL_law_224 ?_
            obtain ⟨g31, hf⟩ := zg_some hf
            refine z_sld C0 hX hbl hbA hL hsc hS g31 dL_law_225 ?_
            refine z_aload_n C0 dL_law_226 rfl (lv_at hl 0 rfl) ?_
            refine z_iload_n C0 dL_law_227 rfl (lv_at hl 3 rfl) ?_
            refine z_iconst C0 dL_law_228 ?_
            refine z_iadd C0 dL_law_229 ?_
            obtain ⟨g32, hf⟩ := zg_some hf
            refine z_sld C0 hX hbl hbA hL hsc hS g32 dL_law_230 ?_
            obtain ⟨r33, hc34, hf⟩ := zbind hf
            refine z_callBi (rest := [.int (zI r29.1)]) C0 hP (zD hD rfl) hS (zmX4_tune l D cI cZ h2 _ (zm_lag t2) (zm_dead t2) (zm_manner t2) (zm_setting t2) (zm_leastOf t2) (zm_mostOf t2) (zm_kept t2) (zm_planeOf t2) (zm_momentOf t2) (zm_stripOf t2) (zm_late t2) (zm_isOver t2) (zm_isLive t2) (zm_endOf t2) (zm_known t2) (zm_timeOf t2) (zm_pulseOf t2) (zm_groupOf t2) (zm_groups t2) (zm_shut t2) (zm_firstOf t2) (zm_agrees t2) (zm_agreeSet t2) (zm_missed t2) (zm_bestA t2) (zm_bestB t2) (zm_bestAgrees t2) (zm_bestMissed t2) (zsc (Int.toNat (i3 + 1))) (zsc (Int.toNat (i3 + 2))) r33 hc34) (zkL_26 ⟨by decide, by decide⟩ C0.2.2.2.2.1) 4 rfl rfl rfl rfl hl.1 (Nat.le_of_ble_eq_true rfl) dL_law_231 ⟨Nat.le_refl _, Nat.le_refl _⟩ (fun H locs hP hS => ?_)
            have hP : va_P D vwCl ((wX h cI (zx_lag t) (zx_dead t) (zx_manner t) r29.2 (zx_keptRow t) (zx_liveRow t) (zx_shiftedRow t) (zx_groups t) (zx_search t) (zx_deadUntil t) (zx_settled t) (zx_known t) (zx_tooLate t) (zx_ended t)) ++ (wM h2 cI cZ (zm_lag t2) (zm_dead t2) (zm_manner t2) r33.2 (zm_leastOf t2) (zm_mostOf t2) (zm_kept t2) (zm_planeOf t2) (zm_momentOf t2) (zm_stripOf t2) (zm_late t2) (zm_isOver t2) (zm_isLive t2) (zm_endOf t2) (zm_known t2) (zm_timeOf t2) (zm_pulseOf t2) (zm_groupOf t2) (zm_groups t2) (zm_shut t2) (zm_firstOf t2) (zm_agrees t2) (zm_agreeSet t2) (zm_missed t2) (zm_bestA t2) (zm_bestB t2) (zm_bestAgrees t2) (zm_bestMissed t2))) H := hP
            refine z_icmpeq C0 706 dL_law_234 (by decide) (fun c35 => ?_) (fun c35 => ?_)
            · have hf := zif_pos hf c35
              refine z_iinc C0 [(3, .int (zI (i3 + 5))), (0, .ref b), (1, .ref (h 0)), (2, .ref (h2 0))] dL_law_706 hl 3 rfl (by decide) rfl (fun ls hl => ?_)
              refine z_goto C0 18 dL_law_709 (by decide) ?_
              exact ih (zk_X (zx_lag t) (zx_dead t) (zx_manner t) r29.2 (zx_keptRow t) (zx_liveRow t) (zx_shiftedRow t) (zx_groups t) (zx_search t) (zx_deadUntil t) (zx_settled t) (zx_known t) (zx_tooLate t) (zx_ended t)) (zk_M (zm_lag t2) (zm_dead t2) (zm_manner t2) r33.2 (zm_leastOf t2) (zm_mostOf t2) (zm_kept t2) (zm_planeOf t2) (zm_momentOf t2) (zm_stripOf t2) (zm_late t2) (zm_isOver t2) (zm_isLive t2) (zm_endOf t2) (zm_known t2) (zm_timeOf t2) (zm_pulseOf t2) (zm_groupOf t2) (zm_groups t2) (zm_shut t2) (zm_firstOf t2) (zm_agrees t2) (zm_agreeSet t2) (zm_missed t2) (zm_bestA t2) (zm_bestB t2) (zm_bestAgrees t2) (zm_bestMissed t2)) (i3 + 5) hf _ _ hP (zD hD rfl) hS ls (lv_sub hl [1, 2, 3, 0] rfl)
            · have hf := zif_neg hf c35
              refine z_iconst C0 dL_law_237 ?_
              exact absurd hf (by decide)
          · have hf := zif_neg hf c26
            by_cases c36 : zE (zand (zsc (Int.toNat i3)) 31) 3
            · have hf := zif_pos hf c36
              refine z_tabIn C0 c36 239 dL_law_32 (by decide +kernel) (by decide +kernel) rfl (by decide) ?_
              refine z_aload_n C0 dL_law_239 rfl (lv_at hl 1 rfl) ?_
              refine z_aload_n C0 dL_law_240 rfl (lv_at hl 0 rfl) ?_
              refine z_iload_n C0 dL_law_241 rfl (lv_at hl 3 rfl) ?_
              refine z_iconst C0 dL_law_242 ?_
              refine z_iadd C0 dL_law_243 ?_
              obtain ⟨g37, hf⟩ := zg_some hf
              refine z_sld C0 hX hbl hbA hL hsc hS g37 dL_law_244 ?_
              refine z_aload_n C0 dL_law_245 rfl (lv_at hl 0 rfl) ?_
              refine z_iload_n C0 dL_law_246 rfl (lv_at hl 3 rfl) ?_
              refine z_iconst C0 dL_law_247 ?_
              refine z_iadd C0 dL_law_248 ?_
              obtain ⟨g38, hf⟩ := zg_some hf
              refine z_sld C0 hX hbl hbA hL hsc hS g38 dL_law_249 ?_
              refine z_aload_n C0 dL_law_250 rfl (lv_at hl 0 rfl) ?_
              refine z_iload_n C0 dL_law_251 rfl (lv_at hl 3 rfl) ?_
              refine z_iconst C0 dL_law_252 ?_
              refine z_iadd C0 dL_law_253 ?_
              obtain ⟨g39, hf⟩ := zg_some hf
              refine z_sld C0 hX hbl hbA hL hsc hS g39 dL_law_254 ?_
              obtain ⟨r40, hc41, hf⟩ := zbind hf
              refine z_callAiS (rest := []) C0 hP (zD hD rfl) hS hZ (zmX3_pulse l D cI cZ h _ (zx_lag t) (zx_dead t) (zx_manner t) (zx_setting t) (zx_keptRow t) (zx_liveRow t) (zx_shiftedRow t) (zx_groups t) (zx_search t) (zx_deadUntil t) (zx_settled t) (zx_known t) (zx_tooLate t) (zx_ended t) (zsc (Int.toNat (i3 + 1))) (zsc (Int.toNat (i3 + 2))) (zsc (Int.toNat (i3 + 3))) r40 hc41) (zkL_27 ⟨by decide, by decide⟩ C0.2.2.2.2.1) 3 rfl rfl rfl rfl hl.1 (Nat.le_of_ble_eq_true rfl) dL_law_255 ⟨Nat.le_refl _, Nat.le_refl _⟩ (fun H locs hP hS => ?_)
              have hP : va_P D vwCl ((wX h cI (zx_lag t) (zx_dead t) (zx_manner t) (zx_setting t) r40.2.1 r40.2.2.1 (zx_shiftedRow t) r40.2.2.2.1 r40.2.2.2.2.1 r40.2.2.2.2.2.1 r40.2.2.2.2.2.2.1 r40.2.2.2.2.2.2.2.1 r40.2.2.2.2.2.2.2.2 (zx_ended t)) ++ (wM h2 cI cZ (zm_lag t2) (zm_dead t2) (zm_manner t2) (zm_setting t2) (zm_leastOf t2) (zm_mostOf t2) (zm_kept t2) (zm_planeOf t2) (zm_momentOf t2) (zm_stripOf t2) (zm_late t2) (zm_isOver t2) (zm_isLive t2) (zm_endOf t2) (zm_known t2) (zm_timeOf t2) (zm_pulseOf t2) (zm_groupOf t2) (zm_groups t2) (zm_shut t2) (zm_firstOf t2) (zm_agrees t2) (zm_agreeSet t2) (zm_missed t2) (zm_bestA t2) (zm_bestB t2) (zm_bestAgrees t2) (zm_bestMissed t2))) H := hP
              refine z_aload_n C0 dL_law_258 rfl (lv_at hl 2 rfl) ?_
              refine z_aload_n C0 dL_law_259 rfl (lv_at hl 0 rfl) ?_
              refine z_iload_n C0 dL_law_260 rfl (lv_at hl 3 rfl) ?_
              refine z_iconst C0 dL_law_261 ?_
              refine z_iadd C0 dL_law_262 ?_
              obtain ⟨g42, hf⟩ := zg_some hf
              refine z_sld C0 hX hbl hbA hL hsc hS g42 dL_law_263 ?_
              refine z_aload_n C0 dL_law_264 rfl (lv_at hl 0 rfl) ?_
              refine z_iload_n C0 dL_law_265 rfl (lv_at hl 3 rfl) ?_
              refine z_iconst C0 dL_law_266 ?_
              refine z_iadd C0 dL_law_267 ?_
              obtain ⟨g43, hf⟩ := zg_some hf
              refine z_sld C0 hX hbl hbA hL hsc hS g43 dL_law_268 ?_
              refine z_aload_n C0 dL_law_269 rfl (lv_at hl 0 rfl) ?_
              refine z_iload_n C0 dL_law_270 rfl (lv_at hl 3 rfl) ?_
              refine z_iconst C0 dL_law_271 ?_
              refine z_iadd C0 dL_law_272 ?_
              obtain ⟨g44, hf⟩ := zg_some hf
              refine z_sld C0 hX hbl hbA hL hsc hS g44 dL_law_273 ?_
              obtain ⟨r45, hc46, hf⟩ := zbind hf
              refine z_callBi (rest := [.int (zI r40.1)]) C0 hP (zD hD rfl) hS (zmX4_pulse l D cI cZ h2 _ (zm_lag t2) (zm_dead t2) (zm_manner t2) (zm_setting t2) (zm_leastOf t2) (zm_mostOf t2) (zm_kept t2) (zm_planeOf t2) (zm_momentOf t2) (zm_stripOf t2) (zm_late t2) (zm_isOver t2) (zm_isLive t2) (zm_endOf t2) (zm_known t2) (zm_timeOf t2) (zm_pulseOf t2) (zm_groupOf t2) (zm_groups t2) (zm_shut t2) (zm_firstOf t2) (zm_agrees t2) (zm_agreeSet t2) (zm_missed t2) (zm_bestA t2) (zm_bestB t2) (zm_bestAgrees t2) (zm_bestMissed t2) (zsc (Int.toNat (i3 + 1))) (zsc (Int.toNat (i3 + 2))) (zsc (Int.toNat (i3 + 3))) r45 hc46) (zkL_31 ⟨by decide, by decide⟩ C0.2.2.2.2.1) 4 rfl rfl rfl rfl hl.1 (Nat.le_of_ble_eq_true rfl) dL_law_274 ⟨Nat.le_refl _, Nat.le_refl _⟩ (fun H locs hP hS => ?_)
              have hP : va_P D vwCl ((wX h cI (zx_lag t) (zx_dead t) (zx_manner t) (zx_setting t) r40.2.1 r40.2.2.1 (zx_shiftedRow t) r40.2.2.2.1 r40.2.2.2.2.1 r40.2.2.2.2.2.1 r40.2.2.2.2.2.2.1 r40.2.2.2.2.2.2.2.1 r40.2.2.2.2.2.2.2.2 (zx_ended t)) ++ (wM h2 cI cZ (zm_lag t2) (zm_dead t2) (zm_manner t2) (zm_setting t2) (zm_leastOf t2) (zm_mostOf t2) r45.2.1 r45.2.2.1 r45.2.2.2.1 r45.2.2.2.2.1 r45.2.2.2.2.2 (zm_isOver t2) (zm_isLive t2) (zm_endOf t2) (zm_known t2) (zm_timeOf t2) (zm_pulseOf t2) (zm_groupOf t2) (zm_groups t2) (zm_shut t2) (zm_firstOf t2) (zm_agrees t2) (zm_agreeSet t2) (zm_missed t2) (zm_bestA t2) (zm_bestB t2) (zm_bestAgrees t2) (zm_bestMissed t2))) H := hP
              refine z_icmpeq C0 706 dL_law_277 (by decide) (fun c47 => ?_) (fun c47 => ?_)
              · have hf := zif_pos hf c47
                refine z_iinc C0 [(3, .int (zI (i3 + 5))), (0, .ref b), (1, .ref (h 0)), (2, .ref (h2 0))] dL_law_706 hl 3 rfl (by decide) rfl (fun ls hl => ?_)
                refine z_goto C0 18 dL_law_709 (by decide) ?_
                exact ih (zk_X (zx_lag t) (zx_dead t) (zx_manner t) (zx_setting t) r40.2.1 r40.2.2.1 (zx_shiftedRow t) r40.2.2.2.1 r40.2.2.2.2.1 r40.2.2.2.2.2.1 r40.2.2.2.2.2.2.1 r40.2.2.2.2.2.2.2.1 r40.2.2.2.2.2.2.2.2 (zx_ended t)) (zk_M (zm_lag t2) (zm_dead t2) (zm_manner t2) (zm_setting t2) (zm_leastOf t2) (zm_mostOf t2) r45.2.1 r45.2.2.1 r45.2.2.2.1 r45.2.2.2.2.1 r45.2.2.2.2.2 (zm_isOver t2) (zm_isLive t2) (zm_endOf t2) (zm_known t2) (zm_timeOf t2) (zm_pulseOf t2) (zm_groupOf t2) (zm_groups t2) (zm_shut t2) (zm_firstOf t2) (zm_agrees t2) (zm_agreeSet t2) (zm_missed t2) (zm_bestA t2) (zm_bestB t2) (zm_bestAgrees t2) (zm_bestMissed t2)) (i3 + 5) hf _ _ hP (zD hD rfl) hS ls (lv_sub hl [1, 2, 3, 0] rfl)
              · have hf := zif_neg hf c47
                refine z_iconst C0 dL_law_280 ?_
                exact absurd hf (by decide)
            · have hf := zif_neg hf c36
              by_cases c48 : zE (zand (zsc (Int.toNat i3)) 31) 4
              · have hf := zif_pos hf c48
                refine z_tabIn C0 c48 282 dL_law_32 (by decide +kernel) (by decide +kernel) rfl (by decide) ?_
                refine z_aload_n C0 dL_law_282 rfl (lv_at hl 1 rfl) ?_
                obtain ⟨r49, hc50, hf⟩ := zbind hf
                refine z_callAiS (rest := []) C0 hP (zD hD rfl) hS hZ (zmX3_end l D cI cZ h _ (zx_lag t) (zx_dead t) (zx_manner t) (zx_setting t) (zx_keptRow t) (zx_liveRow t) (zx_shiftedRow t) (zx_groups t) (zx_search t) (zx_deadUntil t) (zx_settled t) (zx_known t) (zx_tooLate t) (zx_ended t) r49 hc50) (zkL_32 ⟨by decide, by decide⟩ C0.2.2.2.2.1) 3 rfl rfl rfl rfl hl.1 (Nat.le_of_ble_eq_true rfl) dL_law_283 ⟨Nat.le_refl _, Nat.le_refl _⟩ (fun H locs hP hS => ?_)
                have hP : va_P D vwCl ((wX h cI (zx_lag t) (zx_dead t) (zx_manner t) (zx_setting t) (zx_keptRow t) r49.2.1 (zx_shiftedRow t) r49.2.2.1 r49.2.2.2.1 r49.2.2.2.2.1 r49.2.2.2.2.2.1 r49.2.2.2.2.2.2.1 (zx_tooLate t) r49.2.2.2.2.2.2.2) ++ (wM h2 cI cZ (zm_lag t2) (zm_dead t2) (zm_manner t2) (zm_setting t2) (zm_leastOf t2) (zm_mostOf t2) (zm_kept t2) (zm_planeOf t2) (zm_momentOf t2) (zm_stripOf t2) (zm_late t2) (zm_isOver t2) (zm_isLive t2) (zm_endOf t2) (zm_known t2) (zm_timeOf t2) (zm_pulseOf t2) (zm_groupOf t2) (zm_groups t2) (zm_shut t2) (zm_firstOf t2) (zm_agrees t2) (zm_agreeSet t2) (zm_missed t2) (zm_bestA t2) (zm_bestB t2) (zm_bestAgrees t2) (zm_bestMissed t2))) H := hP
                refine z_aload_n C0 dL_law_286 rfl (lv_at hl 2 rfl) ?_
                obtain ⟨r51, hc52, hf⟩ := zbind hf
                refine z_callBi (rest := [.int (zI r49.1)]) C0 hP (zD hD rfl) hS (zmX4_end l D cI cZ h2 _ (zm_lag t2) (zm_dead t2) (zm_manner t2) (zm_setting t2) (zm_leastOf t2) (zm_mostOf t2) (zm_kept t2) (zm_planeOf t2) (zm_momentOf t2) (zm_stripOf t2) (zm_late t2) (zm_isOver t2) (zm_isLive t2) (zm_endOf t2) (zm_known t2) (zm_timeOf t2) (zm_pulseOf t2) (zm_groupOf t2) (zm_groups t2) (zm_shut t2) (zm_firstOf t2) (zm_agrees t2) (zm_agreeSet t2) (zm_missed t2) (zm_bestA t2) (zm_bestB t2) (zm_bestAgrees t2) (zm_bestMissed t2) r51 hc52) (zkL_36 ⟨by decide, by decide⟩ C0.2.2.2.2.1) 4 rfl rfl rfl rfl hl.1 (Nat.le_of_ble_eq_true rfl) dL_law_287 ⟨Nat.le_refl _, Nat.le_refl _⟩ (fun H locs hP hS => ?_)
                have hP : va_P D vwCl ((wX h cI (zx_lag t) (zx_dead t) (zx_manner t) (zx_setting t) (zx_keptRow t) r49.2.1 (zx_shiftedRow t) r49.2.2.1 r49.2.2.2.1 r49.2.2.2.2.1 r49.2.2.2.2.2.1 r49.2.2.2.2.2.2.1 (zx_tooLate t) r49.2.2.2.2.2.2.2) ++ (wM h2 cI cZ (zm_lag t2) (zm_dead t2) (zm_manner t2) (zm_setting t2) (zm_leastOf t2) (zm_mostOf t2) (zm_kept t2) (zm_planeOf t2) (zm_momentOf t2) (zm_stripOf t2) (zm_late t2) r51.2 (zm_isLive t2) (zm_endOf t2) (zm_known t2) (zm_timeOf t2) (zm_pulseOf t2) (zm_groupOf t2) (zm_groups t2) (zm_shut t2) (zm_firstOf t2) (zm_agrees t2) (zm_agreeSet t2) (zm_missed t2) (zm_bestA t2) (zm_bestB t2) (zm_bestAgrees t2) (zm_bestMissed t2))) H := hP
                refine z_icmpeq C0 706 dL_law_290 (by decide) (fun c53 => ?_) (fun c53 => ?_)
                · have hf := zif_pos hf c53
                  refine z_iinc C0 [(3, .int (zI (i3 + 5))), (0, .ref b), (1, .ref (h 0)), (2, .ref (h2 0))] dL_law_706 hl 3 rfl (by decide) rfl (fun ls hl => ?_)
                  refine z_goto C0 18 dL_law_709 (by decide) ?_
                  exact ih (zk_X (zx_lag t) (zx_dead t) (zx_manner t) (zx_setting t) (zx_keptRow t) r49.2.1 (zx_shiftedRow t) r49.2.2.1 r49.2.2.2.1 r49.2.2.2.2.1 r49.2.2.2.2.2.1 r49.2.2.2.2.2.2.1 (zx_tooLate t) r49.2.2.2.2.2.2.2) (zk_M (zm_lag t2) (zm_dead t2) (zm_manner t2) (zm_setting t2) (zm_leastOf t2) (zm_mostOf t2) (zm_kept t2) (zm_planeOf t2) (zm_momentOf t2) (zm_stripOf t2) (zm_late t2) r51.2 (zm_isLive t2) (zm_endOf t2) (zm_known t2) (zm_timeOf t2) (zm_pulseOf t2) (zm_groupOf t2) (zm_groups t2) (zm_shut t2) (zm_firstOf t2) (zm_agrees t2) (zm_agreeSet t2) (zm_missed t2) (zm_bestA t2) (zm_bestB t2) (zm_bestAgrees t2) (zm_bestMissed t2)) (i3 + 5) hf _ _ hP (zD hD rfl) hS ls (lv_sub hl [1, 2, 3, 0] rfl)
                · have hf := zif_neg hf c53
                  refine z_iconst C0 dL_law_293 ?_
                  exact absurd hf (by decide)
              · have hf := zif_neg hf c48
                by_cases c54 : zE (zand (zsc (Int.toNat i3)) 31) 5
                · have hf := zif_pos hf c54
                  refine z_tabIn C0 c54 295 dL_law_32 (by decide +kernel) (by decide +kernel) rfl (by decide) ?_
                  refine z_aload_n C0 dL_law_295 rfl (lv_at hl 1 rfl) ?_
                  obtain ⟨r55, hc56, hf⟩ := zbind hf
                  refine z_callAi (rest := []) C0 hP (zD hD rfl) hS (zmX3_anew l D cI cZ h _ (zx_lag t) (zx_dead t) (zx_manner t) (zx_setting t) (zx_keptRow t) (zx_liveRow t) (zx_shiftedRow t) (zx_groups t) (zx_search t) (zx_deadUntil t) (zx_settled t) (zx_known t) (zx_tooLate t) (zx_ended t) r55 hc56) (zkL_37 ⟨by decide, by decide⟩ C0.2.2.2.2.1) 3 rfl rfl rfl rfl hl.1 (Nat.le_of_ble_eq_true rfl) dL_law_296 ⟨Nat.le_refl _, Nat.le_refl _⟩ (fun H locs hP hS => ?_)
                  have hP : va_P D vwCl ((wX h cI (zx_lag t) (zx_dead t) (zx_manner t) (zx_setting t) r55.2.1 r55.2.2.1 (zx_shiftedRow t) r55.2.2.2.1 (zx_search t) r55.2.2.2.2.1 r55.2.2.2.2.2.1 r55.2.2.2.2.2.2.1 r55.2.2.2.2.2.2.2.1 r55.2.2.2.2.2.2.2.2) ++ (wM h2 cI cZ (zm_lag t2) (zm_dead t2) (zm_manner t2) (zm_setting t2) (zm_leastOf t2) (zm_mostOf t2) (zm_kept t2) (zm_planeOf t2) (zm_momentOf t2) (zm_stripOf t2) (zm_late t2) (zm_isOver t2) (zm_isLive t2) (zm_endOf t2) (zm_known t2) (zm_timeOf t2) (zm_pulseOf t2) (zm_groupOf t2) (zm_groups t2) (zm_shut t2) (zm_firstOf t2) (zm_agrees t2) (zm_agreeSet t2) (zm_missed t2) (zm_bestA t2) (zm_bestB t2) (zm_bestAgrees t2) (zm_bestMissed t2))) H := hP
                  refine z_aload_n C0 dL_law_299 rfl (lv_at hl 2 rfl) ?_
                  obtain ⟨r57, hc58, hf⟩ := zbind hf
                  refine z_callBi (rest := [.int (zI r55.1)]) C0 hP (zD hD rfl) hS (zmX4_anew l D cI cZ h2 _ (zm_lag t2) (zm_dead t2) (zm_manner t2) (zm_setting t2) (zm_leastOf t2) (zm_mostOf t2) (zm_kept t2) (zm_planeOf t2) (zm_momentOf t2) (zm_stripOf t2) (zm_late t2) (zm_isOver t2) (zm_isLive t2) (zm_endOf t2) (zm_known t2) (zm_timeOf t2) (zm_pulseOf t2) (zm_groupOf t2) (zm_groups t2) (zm_shut t2) (zm_firstOf t2) (zm_agrees t2) (zm_agreeSet t2) (zm_missed t2) (zm_bestA t2) (zm_bestB t2) (zm_bestAgrees t2) (zm_bestMissed t2) r57 hc58) (zkL_40 ⟨by decide, by decide⟩ C0.2.2.2.2.1) 4 rfl rfl rfl rfl hl.1 (Nat.le_of_ble_eq_true rfl) dL_law_300 ⟨Nat.le_refl _, Nat.le_refl _⟩ (fun H locs hP hS => ?_)
                  have hP : va_P D vwCl ((wX h cI (zx_lag t) (zx_dead t) (zx_manner t) (zx_setting t) r55.2.1 r55.2.2.1 (zx_shiftedRow t) r55.2.2.2.1 (zx_search t) r55.2.2.2.2.1 r55.2.2.2.2.2.1 r55.2.2.2.2.2.2.1 r55.2.2.2.2.2.2.2.1 r55.2.2.2.2.2.2.2.2) ++ (wM h2 cI cZ (zm_lag t2) (zm_dead t2) (zm_manner t2) (zm_setting t2) (zm_leastOf t2) (zm_mostOf t2) r57.2.1 (zm_planeOf t2) (zm_momentOf t2) (zm_stripOf t2) r57.2.2.1 r57.2.2.2 (zm_isLive t2) (zm_endOf t2) (zm_known t2) (zm_timeOf t2) (zm_pulseOf t2) (zm_groupOf t2) (zm_groups t2) (zm_shut t2) (zm_firstOf t2) (zm_agrees t2) (zm_agreeSet t2) (zm_missed t2) (zm_bestA t2) (zm_bestB t2) (zm_bestAgrees t2) (zm_bestMissed t2))) H := hP
                  refine z_icmpeq C0 706 dL_law_303 (by decide) (fun c59 => ?_) (fun c59 => ?_)
                  · have hf := zif_pos hf c59
                    refine z_iinc C0 [(3, .int (zI (i3 + 5))), (0, .ref b), (1, .ref (h 0)), (2, .ref (h2 0))] dL_law_706 hl 3 rfl (by decide) rfl (fun ls hl => ?_)
                    refine z_goto C0 18 dL_law_709 (by decide) ?_
                    exact ih (zk_X (zx_lag t) (zx_dead t) (zx_manner t) (zx_setting t) r55.2.1 r55.2.2.1 (zx_shiftedRow t) r55.2.2.2.1 (zx_search t) r55.2.2.2.2.1 r55.2.2.2.2.2.1 r55.2.2.2.2.2.2.1 r55.2.2.2.2.2.2.2.1 r55.2.2.2.2.2.2.2.2) (zk_M (zm_lag t2) (zm_dead t2) (zm_manner t2) (zm_setting t2) (zm_leastOf t2) (zm_mostOf t2) r57.2.1 (zm_planeOf t2) (zm_momentOf t2) (zm_stripOf t2) r57.2.2.1 r57.2.2.2 (zm_isLive t2) (zm_endOf t2) (zm_known t2) (zm_timeOf t2) (zm_pulseOf t2) (zm_groupOf t2) (zm_groups t2) (zm_shut t2) (zm_firstOf t2) (zm_agrees t2) (zm_agreeSet t2) (zm_missed t2) (zm_bestA t2) (zm_bestB t2) (zm_bestAgrees t2) (zm_bestMissed t2)) (i3 + 5) hf _ _ hP (zD hD rfl) hS ls (lv_sub hl [1, 2, 3, 0] rfl)
                  · have hf := zif_neg hf c59
                    refine z_iconst C0 dL_law_306 ?_
                    exact absurd hf (by decide)
                · have hf := zif_neg hf c54
                  by_cases c60 : zE (zand (zsc (Int.toNat i3)) 31) 6
                  · have hf := zif_pos hf c60
                    refine z_tabIn C0 c60 308 dL_law_32 (by decide +kernel) (by decide +kernel) rfl (by decide) ?_
                    refine z_aload_n C0 dL_law_308 rfl (lv_at hl 1 rfl) ?_
                    refine z_aload_n C0 dL_law_309 rfl (lv_at hl 0 rfl) ?_
                    refine z_iload_n C0 dL_law_310 rfl (lv_at hl 3 rfl) ?_
                    refine z_iconst C0 dL_law_311 ?_
                    refine z_iadd C0 dL_law_312 ?_
                    obtain ⟨g61, hf⟩ := zg_some hf
                    refine z_sld C0 hX hbl hbA hL hsc hS g61 dL_law_313 ?_
                    refine z_aload_n C0 dL_law_314 rfl (lv_at hl 0 rfl) ?_
                    refine z_iload_n C0 dL_law_315 rfl (lv_at hl 3 rfl) ?_
                    refine z_iconst C0 dL_law_316 ?_
                    refine z_iadd C0 dL_law_317 ?_
                    obtain ⟨g62, hf⟩ := zg_some hf
                    refine z_sld C0 hX hbl hbA hL hsc hS g62 dL_law_318 ?_
                    obtain ⟨r63, hc64, hf⟩ := zbind hf
                    refine z_callAi (rest := []) C0 hP (zD hD rfl) hS (zmX3_group l D cI cZ h _ (zx_lag t) (zx_dead t) (zx_manner t) (zx_setting t) (zx_keptRow t) (zx_liveRow t) (zx_shiftedRow t) (zx_groups t) (zx_search t) (zx_deadUntil t) (zx_settled t) (zx_known t) (zx_tooLate t) (zx_ended t) (zsc (Int.toNat (i3 + 1))) (zsc (Int.toNat (i3 + 2))) r63 hc64) (zkL_41 ⟨by decide, by decide⟩ C0.2.2.2.2.1) 3 rfl rfl rfl rfl hl.1 (Nat.le_of_ble_eq_true rfl) dL_law_319 ⟨Nat.le_refl _, Nat.le_refl _⟩ (fun H locs hP hS => ?_)
                    have hP : va_P D vwCl ((wX h cI (zx_lag t) (zx_dead t) (zx_manner t) (zx_setting t) (zx_keptRow t) (zx_liveRow t) (zx_shiftedRow t) (zx_groups t) (zx_search t) (zx_deadUntil t) (zx_settled t) (zx_known t) (zx_tooLate t) (zx_ended t)) ++ (wM h2 cI cZ (zm_lag t2) (zm_dead t2) (zm_manner t2) (zm_setting t2) (zm_leastOf t2) (zm_mostOf t2) (zm_kept t2) (zm_planeOf t2) (zm_momentOf t2) (zm_stripOf t2) (zm_late t2) (zm_isOver t2) (zm_isLive t2) (zm_endOf t2) (zm_known t2) (zm_timeOf t2) (zm_pulseOf t2) (zm_groupOf t2) (zm_groups t2) (zm_shut t2) (zm_firstOf t2) (zm_agrees t2) (zm_agreeSet t2) (zm_missed t2) (zm_bestA t2) (zm_bestB t2) (zm_bestAgrees t2) (zm_bestMissed t2))) H := hP
                    refine z_aload_n C0 dL_law_322 rfl (lv_at hl 2 rfl) ?_
                    refine z_aload_n C0 dL_law_323 rfl (lv_at hl 0 rfl) ?_
                    refine z_iload_n C0 dL_law_324 rfl (lv_at hl 3 rfl) ?_
                    refine z_iconst C0 dL_law_325 ?_
                    refine z_iadd C0 dL_law_326 ?_
                    obtain ⟨g65, hf⟩ := zg_some hf
                    refine z_sld C0 hX hbl hbA hL hsc hS g65 dL_law_327 ?_
                    refine z_aload_n C0 dL_law_328 rfl (lv_at hl 0 rfl) ?_
                    refine z_iload_n C0 dL_law_329 rfl (lv_at hl 3 rfl) ?_
                    refine z_iconst C0 dL_law_330 ?_
                    refine z_iadd C0 dL_law_331 ?_
                    obtain ⟨g66, hf⟩ := zg_some hf
                    refine z_sld C0 hX hbl hbA hL hsc hS g66 dL_law_332 ?_
                    obtain ⟨r67, hc68, hf⟩ := zbind hf
                    refine z_callBi (rest := [.int (zI r63)]) C0 hP (zD hD rfl) hS (zmX4_group l D cI cZ h2 _ (zm_lag t2) (zm_dead t2) (zm_manner t2) (zm_setting t2) (zm_leastOf t2) (zm_mostOf t2) (zm_kept t2) (zm_planeOf t2) (zm_momentOf t2) (zm_stripOf t2) (zm_late t2) (zm_isOver t2) (zm_isLive t2) (zm_endOf t2) (zm_known t2) (zm_timeOf t2) (zm_pulseOf t2) (zm_groupOf t2) (zm_groups t2) (zm_shut t2) (zm_firstOf t2) (zm_agrees t2) (zm_agreeSet t2) (zm_missed t2) (zm_bestA t2) (zm_bestB t2) (zm_bestAgrees t2) (zm_bestMissed t2) (zsc (Int.toNat (i3 + 1))) (zsc (Int.toNat (i3 + 2))) r67 hc68) (zkL_44 ⟨by decide, by decide⟩ C0.2.2.2.2.1) 4 rfl rfl rfl rfl hl.1 (Nat.le_of_ble_eq_true rfl) dL_law_333 ⟨Nat.le_refl _, Nat.le_refl _⟩ (fun H locs hP hS => ?_)
                    have hP : va_P D vwCl ((wX h cI (zx_lag t) (zx_dead t) (zx_manner t) (zx_setting t) (zx_keptRow t) (zx_liveRow t) (zx_shiftedRow t) (zx_groups t) (zx_search t) (zx_deadUntil t) (zx_settled t) (zx_known t) (zx_tooLate t) (zx_ended t)) ++ (wM h2 cI cZ (zm_lag t2) (zm_dead t2) (zm_manner t2) (zm_setting t2) (zm_leastOf t2) (zm_mostOf t2) (zm_kept t2) (zm_planeOf t2) (zm_momentOf t2) (zm_stripOf t2) (zm_late t2) (zm_isOver t2) r67.2.1 r67.2.2.1 r67.2.2.2.1 r67.2.2.2.2.1 r67.2.2.2.2.2.1 r67.2.2.2.2.2.2.1 r67.2.2.2.2.2.2.2.1 r67.2.2.2.2.2.2.2.2.1 r67.2.2.2.2.2.2.2.2.2 (zm_agrees t2) (zm_agreeSet t2) (zm_missed t2) (zm_bestA t2) (zm_bestB t2) (zm_bestAgrees t2) (zm_bestMissed t2))) H := hP
                    refine z_icmpeq C0 706 dL_law_336 (by decide) (fun c69 => ?_) (fun c69 => ?_)
                    · have hf := zif_pos hf c69
                      refine z_iinc C0 [(3, .int (zI (i3 + 5))), (0, .ref b), (1, .ref (h 0)), (2, .ref (h2 0))] dL_law_706 hl 3 rfl (by decide) rfl (fun ls hl => ?_)
                      refine z_goto C0 18 dL_law_709 (by decide) ?_
                      exact ih t (zk_M (zm_lag t2) (zm_dead t2) (zm_manner t2) (zm_setting t2) (zm_leastOf t2) (zm_mostOf t2) (zm_kept t2) (zm_planeOf t2) (zm_momentOf t2) (zm_stripOf t2) (zm_late t2) (zm_isOver t2) r67.2.1 r67.2.2.1 r67.2.2.2.1 r67.2.2.2.2.1 r67.2.2.2.2.2.1 r67.2.2.2.2.2.2.1 r67.2.2.2.2.2.2.2.1 r67.2.2.2.2.2.2.2.2.1 r67.2.2.2.2.2.2.2.2.2 (zm_agrees t2) (zm_agreeSet t2) (zm_missed t2) (zm_bestA t2) (zm_bestB t2) (zm_bestAgrees t2) (zm_bestMissed t2)) (i3 + 5) hf _ _ hP (zD hD rfl) hS ls (lv_sub hl [1, 2, 3, 0] rfl)
                    · have hf := zif_neg hf c69
                      refine z_iconst C0 dL_law_339 ?_
                      exact absurd hf (by decide)
                  · have hf := zif_neg hf c60
                    by_cases c70 : zE (zand (zsc (Int.toNat i3)) 31) 7
                    · have hf := zif_pos hf c70
                      refine z_tabIn C0 c70 341 dL_law_32 (by decide +kernel) (by decide +kernel) rfl (by decide) ?_
                      refine z_aload_n C0 dL_law_341 rfl (lv_at hl 1 rfl) ?_
                      refine z_aload_n C0 dL_law_342 rfl (lv_at hl 0 rfl) ?_
                      refine z_iload_n C0 dL_law_343 rfl (lv_at hl 3 rfl) ?_
                      refine z_iconst C0 dL_law_344 ?_
                      refine z_iadd C0 dL_law_345 ?_
                      obtain ⟨g71, hf⟩ := zg_some hf
                      refine z_sld C0 hX hbl hbA hL hsc hS g71 dL_law_346 ?_
                      refine z_aload_n C0 dL_law_347 rfl (lv_at hl 0 rfl) ?_
                      refine z_iload_n C0 dL_law_348 rfl (lv_at hl 3 rfl) ?_
                      refine z_iconst C0 dL_law_349 ?_
                      refine z_iadd C0 dL_law_350 ?_
                      obtain ⟨g72, hf⟩ := zg_some hf
                      refine z_sld C0 hX hbl hbA hL hsc hS g72 dL_law_351 ?_
                      refine z_aload_n C0 dL_law_352 rfl (lv_at hl 0 rfl) ?_
                      refine z_iload_n C0 dL_law_353 rfl (lv_at hl 3 rfl) ?_
                      refine z_iconst C0 dL_law_354 ?_
                      refine z_iadd C0 dL_law_355 ?_
                      obtain ⟨g73, hf⟩ := zg_some hf
                      refine z_sld C0 hX hbl hbA hL hsc hS g73 dL_law_356 ?_
                      obtain ⟨r74, hc75, hf⟩ := zbind hf
                      refine z_callAi (rest := []) C0 hP (zD hD rfl) hS (zmX3_member l D cI cZ h _ (zx_lag t) (zx_dead t) (zx_manner t) (zx_setting t) (zx_keptRow t) (zx_liveRow t) (zx_shiftedRow t) (zx_groups t) (zx_search t) (zx_deadUntil t) (zx_settled t) (zx_known t) (zx_tooLate t) (zx_ended t) (zsc (Int.toNat (i3 + 1))) (zsc (Int.toNat (i3 + 2))) (zsc (Int.toNat (i3 + 3))) r74 hc75) (zkL_45 ⟨by decide, by decide⟩ C0.2.2.2.2.1) 3 rfl rfl rfl rfl hl.1 (Nat.le_of_ble_eq_true rfl) dL_law_357 ⟨Nat.le_refl _, Nat.le_refl _⟩ (fun H locs hP hS => ?_)
                      have hP : va_P D vwCl ((wX h cI (zx_lag t) (zx_dead t) (zx_manner t) (zx_setting t) (zx_keptRow t) (zx_liveRow t) (zx_shiftedRow t) (zx_groups t) (zx_search t) (zx_deadUntil t) (zx_settled t) (zx_known t) (zx_tooLate t) (zx_ended t)) ++ (wM h2 cI cZ (zm_lag t2) (zm_dead t2) (zm_manner t2) (zm_setting t2) (zm_leastOf t2) (zm_mostOf t2) (zm_kept t2) (zm_planeOf t2) (zm_momentOf t2) (zm_stripOf t2) (zm_late t2) (zm_isOver t2) (zm_isLive t2) (zm_endOf t2) (zm_known t2) (zm_timeOf t2) (zm_pulseOf t2) (zm_groupOf t2) (zm_groups t2) (zm_shut t2) (zm_firstOf t2) (zm_agrees t2) (zm_agreeSet t2) (zm_missed t2) (zm_bestA t2) (zm_bestB t2) (zm_bestAgrees t2) (zm_bestMissed t2))) H := hP
                      refine z_aload_n C0 dL_law_360 rfl (lv_at hl 2 rfl) ?_
                      refine z_aload_n C0 dL_law_361 rfl (lv_at hl 0 rfl) ?_
                      refine z_iload_n C0 dL_law_362 rfl (lv_at hl 3 rfl) ?_
                      refine z_iconst C0 dL_law_363 ?_
                      refine z_iadd C0 dL_law_364 ?_
                      obtain ⟨g76, hf⟩ := zg_some hf
                      refine z_sld C0 hX hbl hbA hL hsc hS g76 dL_law_365 ?_
                      refine z_aload_n C0 dL_law_366 rfl (lv_at hl 0 rfl) ?_
                      refine z_iload_n C0 dL_law_367 rfl (lv_at hl 3 rfl) ?_
                      refine z_iconst C0 dL_law_368 ?_
                      refine z_iadd C0 dL_law_369 ?_
                      obtain ⟨g77, hf⟩ := zg_some hf
                      refine z_sld C0 hX hbl hbA hL hsc hS g77 dL_law_370 ?_
                      refine z_aload_n C0 dL_law_371 rfl (lv_at hl 0 rfl) ?_
                      refine z_iload_n C0 dL_law_372 rfl (lv_at hl 3 rfl) ?_
                      refine z_iconst C0 dL_law_373 ?_
                      refine z_iadd C0 dL_law_374 ?_
                      obtain ⟨g78, hf⟩ := zg_some hf
                      refine z_sld C0 hX hbl hbA hL hsc hS g78 dL_law_375 ?_
                      obtain ⟨r79, hc80, hf⟩ := zbind hf
                      refine z_callBi (rest := [.int (zI r74)]) C0 hP (zD hD rfl) hS (zmX4_member l D cI cZ h2 _ (zm_lag t2) (zm_dead t2) (zm_manner t2) (zm_setting t2) (zm_leastOf t2) (zm_mostOf t2) (zm_kept t2) (zm_planeOf t2) (zm_momentOf t2) (zm_stripOf t2) (zm_late t2) (zm_isOver t2) (zm_isLive t2) (zm_endOf t2) (zm_known t2) (zm_timeOf t2) (zm_pulseOf t2) (zm_groupOf t2) (zm_groups t2) (zm_shut t2) (zm_firstOf t2) (zm_agrees t2) (zm_agreeSet t2) (zm_missed t2) (zm_bestA t2) (zm_bestB t2) (zm_bestAgrees t2) (zm_bestMissed t2) (zsc (Int.toNat (i3 + 1))) (zsc (Int.toNat (i3 + 2))) (zsc (Int.toNat (i3 + 3))) r79 hc80) (zkL_48 ⟨by decide, by decide⟩ C0.2.2.2.2.1) 4 rfl rfl rfl rfl hl.1 (Nat.le_of_ble_eq_true rfl) dL_law_376 ⟨Nat.le_refl _, Nat.le_refl _⟩ (fun H locs hP hS => ?_)
                      have hP : va_P D vwCl ((wX h cI (zx_lag t) (zx_dead t) (zx_manner t) (zx_setting t) (zx_keptRow t) (zx_liveRow t) (zx_shiftedRow t) (zx_groups t) (zx_search t) (zx_deadUntil t) (zx_settled t) (zx_known t) (zx_tooLate t) (zx_ended t)) ++ (wM h2 cI cZ (zm_lag t2) (zm_dead t2) (zm_manner t2) (zm_setting t2) (zm_leastOf t2) (zm_mostOf t2) (zm_kept t2) (zm_planeOf t2) (zm_momentOf t2) (zm_stripOf t2) (zm_late t2) (zm_isOver t2) r79.2.1 r79.2.2.1 r79.2.2.2.1 r79.2.2.2.2.1 r79.2.2.2.2.2.1 r79.2.2.2.2.2.2.1 r79.2.2.2.2.2.2.2.1 r79.2.2.2.2.2.2.2.2.1 r79.2.2.2.2.2.2.2.2.2 (zm_agrees t2) (zm_agreeSet t2) (zm_missed t2) (zm_bestA t2) (zm_bestB t2) (zm_bestAgrees t2) (zm_bestMissed t2))) H := hP
                      refine z_icmpeq C0 706 dL_law_379 (by decide) (fun c81 => ?_) (fun c81 => ?_)
                      · have hf := zif_pos hf c81
                        refine z_iinc C0 [(3, .int (zI (i3 + 5))), (0, .ref b), (1, .ref (h 0)), (2, .ref (h2 0))] dL_law_706 hl 3 rfl (by decide) rfl (fun ls hl => ?_)
                        refine z_goto C0 18 dL_law_709 (by decide) ?_
                        exact ih t (zk_M (zm_lag t2) (zm_dead t2) (zm_manner t2) (zm_setting t2) (zm_leastOf t2) (zm_mostOf t2) (zm_kept t2) (zm_planeOf t2) (zm_momentOf t2) (zm_stripOf t2) (zm_late t2) (zm_isOver t2) r79.2.1 r79.2.2.1 r79.2.2.2.1 r79.2.2.2.2.1 r79.2.2.2.2.2.1 r79.2.2.2.2.2.2.1 r79.2.2.2.2.2.2.2.1 r79.2.2.2.2.2.2.2.2.1 r79.2.2.2.2.2.2.2.2.2 (zm_agrees t2) (zm_agreeSet t2) (zm_missed t2) (zm_bestA t2) (zm_bestB t2) (zm_bestAgrees t2) (zm_bestMissed t2)) (i3 + 5) hf _ _ hP (zD hD rfl) hS ls (lv_sub hl [1, 2, 3, 0] rfl)
                      · have hf := zif_neg hf c81
                        refine z_iconst C0 dL_law_382 ?_
                        exact absurd hf (by decide)
                    · have hf := zif_neg hf c70
                      by_cases c82 : zE (zand (zsc (Int.toNat i3)) 31) 8
                      · have hf := zif_pos hf c82
                        refine z_tabIn C0 c82 384 dL_law_32 (by decide +kernel) (by decide +kernel) rfl (by decide) ?_
                        refine z_aload_n C0 dL_law_384 rfl (lv_at hl 1 rfl) ?_
                        refine z_aload_n C0 dL_law_385 rfl (lv_at hl 0 rfl) ?_
                        refine z_iload_n C0 dL_law_386 rfl (lv_at hl 3 rfl) ?_
                        refine z_iconst C0 dL_law_387 ?_
                        refine z_iadd C0 dL_law_388 ?_
                        obtain ⟨g83, hf⟩ := zg_some hf
                        refine z_sld C0 hX hbl hbA hL hsc hS g83 dL_law_389 ?_
                        refine z_aload_n C0 dL_law_390 rfl (lv_at hl 0 rfl) ?_
                        refine z_iload_n C0 dL_law_391 rfl (lv_at hl 3 rfl) ?_
                        refine z_iconst C0 dL_law_392 ?_
                        refine z_iadd C0 dL_law_393 ?_
                        obtain ⟨g84, hf⟩ := zg_some hf
                        refine z_sld C0 hX hbl hbA hL hsc hS g84 dL_law_394 ?_
                        obtain ⟨r85, hc86, hf⟩ := zbind hf
                        refine z_callAi (rest := []) C0 hP (zD hD rfl) hS (zmX3_having l D cI cZ h _ (zx_lag t) (zx_dead t) (zx_manner t) (zx_setting t) (zx_keptRow t) (zx_liveRow t) (zx_shiftedRow t) (zx_groups t) (zx_search t) (zx_deadUntil t) (zx_settled t) (zx_known t) (zx_tooLate t) (zx_ended t) (zsc (Int.toNat (i3 + 1))) (zsc (Int.toNat (i3 + 2))) r85 hc86) (zkL_49 ⟨by decide, by decide⟩ C0.2.2.2.2.1) 3 rfl rfl rfl rfl hl.1 (Nat.le_of_ble_eq_true rfl) dL_law_395 ⟨Nat.le_refl _, Nat.le_refl _⟩ (fun H locs hP hS => ?_)
                        have hP : va_P D vwCl ((wX h cI (zx_lag t) (zx_dead t) (zx_manner t) (zx_setting t) (zx_keptRow t) (zx_liveRow t) (zx_shiftedRow t) (zx_groups t) (zx_search t) (zx_deadUntil t) (zx_settled t) (zx_known t) (zx_tooLate t) (zx_ended t)) ++ (wM h2 cI cZ (zm_lag t2) (zm_dead t2) (zm_manner t2) (zm_setting t2) (zm_leastOf t2) (zm_mostOf t2) (zm_kept t2) (zm_planeOf t2) (zm_momentOf t2) (zm_stripOf t2) (zm_late t2) (zm_isOver t2) (zm_isLive t2) (zm_endOf t2) (zm_known t2) (zm_timeOf t2) (zm_pulseOf t2) (zm_groupOf t2) (zm_groups t2) (zm_shut t2) (zm_firstOf t2) (zm_agrees t2) (zm_agreeSet t2) (zm_missed t2) (zm_bestA t2) (zm_bestB t2) (zm_bestAgrees t2) (zm_bestMissed t2))) H := hP
                        refine z_aload_n C0 dL_law_398 rfl (lv_at hl 2 rfl) ?_
                        refine z_aload_n C0 dL_law_399 rfl (lv_at hl 0 rfl) ?_
                        refine z_iload_n C0 dL_law_400 rfl (lv_at hl 3 rfl) ?_
                        refine z_iconst C0 dL_law_401 ?_
                        refine z_iadd C0 dL_law_402 ?_
                        obtain ⟨g87, hf⟩ := zg_some hf
                        refine z_sld C0 hX hbl hbA hL hsc hS g87 dL_law_403 ?_
                        refine z_aload_n C0 dL_law_404 rfl (lv_at hl 0 rfl) ?_
                        refine z_iload_n C0 dL_law_405 rfl (lv_at hl 3 rfl) ?_
                        refine z_iconst C0 dL_law_406 ?_
                        refine z_iadd C0 dL_law_407 ?_
                        obtain ⟨g88, hf⟩ := zg_some hf
                        refine z_sld C0 hX hbl hbA hL hsc hS g88 dL_law_408 ?_
                        obtain ⟨r89, hc90, hf⟩ := zbind hf
                        refine z_callBi (rest := [.int (zI r85)]) C0 hP (zD hD rfl) hS (zmX4_having l D cI cZ h2 _ (zm_lag t2) (zm_dead t2) (zm_manner t2) (zm_setting t2) (zm_leastOf t2) (zm_mostOf t2) (zm_kept t2) (zm_planeOf t2) (zm_momentOf t2) (zm_stripOf t2) (zm_late t2) (zm_isOver t2) (zm_isLive t2) (zm_endOf t2) (zm_known t2) (zm_timeOf t2) (zm_pulseOf t2) (zm_groupOf t2) (zm_groups t2) (zm_shut t2) (zm_firstOf t2) (zm_agrees t2) (zm_agreeSet t2) (zm_missed t2) (zm_bestA t2) (zm_bestB t2) (zm_bestAgrees t2) (zm_bestMissed t2) (zsc (Int.toNat (i3 + 1))) (zsc (Int.toNat (i3 + 2))) r89 hc90) (zkL_52 ⟨by decide, by decide⟩ C0.2.2.2.2.1) 4 rfl rfl rfl rfl hl.1 (Nat.le_of_ble_eq_true rfl) dL_law_409 ⟨Nat.le_refl _, Nat.le_refl _⟩ (fun H locs hP hS => ?_)
                        have hP : va_P D vwCl ((wX h cI (zx_lag t) (zx_dead t) (zx_manner t) (zx_setting t) (zx_keptRow t) (zx_liveRow t) (zx_shiftedRow t) (zx_groups t) (zx_search t) (zx_deadUntil t) (zx_settled t) (zx_known t) (zx_tooLate t) (zx_ended t)) ++ (wM h2 cI cZ (zm_lag t2) (zm_dead t2) (zm_manner t2) (zm_setting t2) (zm_leastOf t2) (zm_mostOf t2) (zm_kept t2) (zm_planeOf t2) (zm_momentOf t2) (zm_stripOf t2) (zm_late t2) (zm_isOver t2) r89.2.1 r89.2.2.1 r89.2.2.2.1 r89.2.2.2.2.1 r89.2.2.2.2.2.1 r89.2.2.2.2.2.2.1 r89.2.2.2.2.2.2.2.1 r89.2.2.2.2.2.2.2.2.1 r89.2.2.2.2.2.2.2.2.2 (zm_agrees t2) (zm_agreeSet t2) (zm_missed t2) (zm_bestA t2) (zm_bestB t2) (zm_bestAgrees t2) (zm_bestMissed t2))) H := hP
                        refine z_icmpeq C0 706 dL_law_412 (by decide) (fun c91 => ?_) (fun c91 => ?_)
                        · have hf := zif_pos hf c91
                          refine z_iinc C0 [(3, .int (zI (i3 + 5))), (0, .ref b), (1, .ref (h 0)), (2, .ref (h2 0))] dL_law_706 hl 3 rfl (by decide) rfl (fun ls hl => ?_)
                          refine z_goto C0 18 dL_law_709 (by decide) ?_
                          exact ih t (zk_M (zm_lag t2) (zm_dead t2) (zm_manner t2) (zm_setting t2) (zm_leastOf t2) (zm_mostOf t2) (zm_kept t2) (zm_planeOf t2) (zm_momentOf t2) (zm_stripOf t2) (zm_late t2) (zm_isOver t2) r89.2.1 r89.2.2.1 r89.2.2.2.1 r89.2.2.2.2.1 r89.2.2.2.2.2.1 r89.2.2.2.2.2.2.1 r89.2.2.2.2.2.2.2.1 r89.2.2.2.2.2.2.2.2.1 r89.2.2.2.2.2.2.2.2.2 (zm_agrees t2) (zm_agreeSet t2) (zm_missed t2) (zm_bestA t2) (zm_bestB t2) (zm_bestAgrees t2) (zm_bestMissed t2)) (i3 + 5) hf _ _ hP (zD hD rfl) hS ls (lv_sub hl [1, 2, 3, 0] rfl)
                        · have hf := zif_neg hf c91
                          refine z_iconst C0 dL_law_415 ?_
                          exact absurd hf (by decide)
                      · have hf := zif_neg hf c82
                        by_cases c92 : zE (zand (zsc (Int.toNat i3)) 31) 9
                        · have hf := zif_pos hf c92
                          refine z_tabIn C0 c92 417 dL_law_32 (by decide +kernel) (by decide +kernel) rfl (by decide) ?_
                          refine z_aload_n C0 dL_law_417 rfl (lv_at hl 1 rfl) ?_
                          refine z_aload_n C0 dL_law_418 rfl (lv_at hl 0 rfl) ?_
                          refine z_iload_n C0 dL_law_419 rfl (lv_at hl 3 rfl) ?_
                          refine z_iconst C0 dL_law_420 ?_
                          refine z_iadd C0 dL_law_421 ?_
                          obtain ⟨g93, hf⟩ := zg_some hf
                          refine z_sld C0 hX hbl hbA hL hsc hS g93 dL_law_422 ?_
                          obtain ⟨r94, hc95, hf⟩ := zbind hf
                          refine z_callAi (rest := []) C0 hP (zD hD rfl) hS (zmX3_folds l D cI cZ h _ (zx_lag t) (zx_dead t) (zx_manner t) (zx_setting t) (zx_keptRow t) (zx_liveRow t) (zx_shiftedRow t) (zx_groups t) (zx_search t) (zx_deadUntil t) (zx_settled t) (zx_known t) (zx_tooLate t) (zx_ended t) (zsc (Int.toNat (i3 + 1))) r94 hc95) (zkL_53 ⟨by decide, by decide⟩ C0.2.2.2.2.1) 3 rfl rfl rfl rfl hl.1 (Nat.le_of_ble_eq_true rfl) dL_law_423 ⟨Nat.le_refl _, Nat.le_refl _⟩ (fun H locs hP hS => ?_)
                          have hP : va_P D vwCl ((wX h cI (zx_lag t) (zx_dead t) (zx_manner t) (zx_setting t) (zx_keptRow t) (zx_liveRow t) (zx_shiftedRow t) (zx_groups t) (zx_search t) (zx_deadUntil t) (zx_settled t) (zx_known t) (zx_tooLate t) (zx_ended t)) ++ (wM h2 cI cZ (zm_lag t2) (zm_dead t2) (zm_manner t2) (zm_setting t2) (zm_leastOf t2) (zm_mostOf t2) (zm_kept t2) (zm_planeOf t2) (zm_momentOf t2) (zm_stripOf t2) (zm_late t2) (zm_isOver t2) (zm_isLive t2) (zm_endOf t2) (zm_known t2) (zm_timeOf t2) (zm_pulseOf t2) (zm_groupOf t2) (zm_groups t2) (zm_shut t2) (zm_firstOf t2) (zm_agrees t2) (zm_agreeSet t2) (zm_missed t2) (zm_bestA t2) (zm_bestB t2) (zm_bestAgrees t2) (zm_bestMissed t2))) H := hP
                          refine z_aload_n C0 dL_law_426 rfl (lv_at hl 2 rfl) ?_
                          refine z_aload_n C0 dL_law_427 rfl (lv_at hl 0 rfl) ?_
                          refine z_iload_n C0 dL_law_428 rfl (lv_at hl 3 rfl) ?_
                          refine z_iconst C0 dL_law_429 ?_
                          refine z_iadd C0 dL_law_430 ?_
                          obtain ⟨g96, hf⟩ := zg_some hf
                          refine z_sld C0 hX hbl hbA hL hsc hS g96 dL_law_431 ?_
                          obtain ⟨r97, hc98, hf⟩ := zbind hf
                          refine z_callBi (rest := [.int (zI r94)]) C0 hP (zD hD rfl) hS (zmX4_folds l D cI cZ h2 _ (zm_lag t2) (zm_dead t2) (zm_manner t2) (zm_setting t2) (zm_leastOf t2) (zm_mostOf t2) (zm_kept t2) (zm_planeOf t2) (zm_momentOf t2) (zm_stripOf t2) (zm_late t2) (zm_isOver t2) (zm_isLive t2) (zm_endOf t2) (zm_known t2) (zm_timeOf t2) (zm_pulseOf t2) (zm_groupOf t2) (zm_groups t2) (zm_shut t2) (zm_firstOf t2) (zm_agrees t2) (zm_agreeSet t2) (zm_missed t2) (zm_bestA t2) (zm_bestB t2) (zm_bestAgrees t2) (zm_bestMissed t2) (zsc (Int.toNat (i3 + 1))) r97 hc98) (zkL_57 ⟨by decide, by decide⟩ C0.2.2.2.2.1) 4 rfl rfl rfl rfl hl.1 (Nat.le_of_ble_eq_true rfl) dL_law_432 ⟨Nat.le_refl _, Nat.le_refl _⟩ (fun H locs hP hS => ?_)
                          have hP : va_P D vwCl ((wX h cI (zx_lag t) (zx_dead t) (zx_manner t) (zx_setting t) (zx_keptRow t) (zx_liveRow t) (zx_shiftedRow t) (zx_groups t) (zx_search t) (zx_deadUntil t) (zx_settled t) (zx_known t) (zx_tooLate t) (zx_ended t)) ++ (wM h2 cI cZ (zm_lag t2) (zm_dead t2) (zm_manner t2) (zm_setting t2) (zm_leastOf t2) (zm_mostOf t2) (zm_kept t2) (zm_planeOf t2) (zm_momentOf t2) (zm_stripOf t2) (zm_late t2) (zm_isOver t2) r97.2.1 r97.2.2.1 r97.2.2.2.1 r97.2.2.2.2.1 r97.2.2.2.2.2.1 r97.2.2.2.2.2.2.1 r97.2.2.2.2.2.2.2.1 r97.2.2.2.2.2.2.2.2.1 r97.2.2.2.2.2.2.2.2.2 (zm_agrees t2) (zm_agreeSet t2) (zm_missed t2) (zm_bestA t2) (zm_bestB t2) (zm_bestAgrees t2) (zm_bestMissed t2))) H := hP
                          refine z_icmpeq C0 706 dL_law_435 (by decide) (fun c99 => ?_) (fun c99 => ?_)
                          · have hf := zif_pos hf c99
                            refine z_iinc C0 [(3, .int (zI (i3 + 5))), (0, .ref b), (1, .ref (h 0)), (2, .ref (h2 0))] dL_law_706 hl 3 rfl (by decide) rfl (fun ls hl => ?_)
                            refine z_goto C0 18 dL_law_709 (by decide) ?_
                            exact ih t (zk_M (zm_lag t2) (zm_dead t2) (zm_manner t2) (zm_setting t2) (zm_leastOf t2) (zm_mostOf t2) (zm_kept t2) (zm_planeOf t2) (zm_momentOf t2) (zm_stripOf t2) (zm_late t2) (zm_isOver t2) r97.2.1 r97.2.2.1 r97.2.2.2.1 r97.2.2.2.2.1 r97.2.2.2.2.2.1 r97.2.2.2.2.2.2.1 r97.2.2.2.2.2.2.2.1 r97.2.2.2.2.2.2.2.2.1 r97.2.2.2.2.2.2.2.2.2 (zm_agrees t2) (zm_agreeSet t2) (zm_missed t2) (zm_bestA t2) (zm_bestB t2) (zm_bestAgrees t2) (zm_bestMissed t2)) (i3 + 5) hf _ _ hP (zD hD rfl) hS ls (lv_sub hl [1, 2, 3, 0] rfl)
                          · have hf := zif_neg hf c99
                            refine z_iconst C0 dL_law_438 ?_
                            exact absurd hf (by decide)
                        · have hf := zif_neg hf c92
                          by_cases c100 : zE (zand (zsc (Int.toNat i3)) 31) 10
                          · have hf := zif_pos hf c100
                            refine z_tabIn C0 c100 440 dL_law_32 (by decide +kernel) (by decide +kernel) rfl (by decide) ?_
                            refine z_aload_n C0 dL_law_440 rfl (lv_at hl 1 rfl) ?_
                            refine z_aload_n C0 dL_law_441 rfl (lv_at hl 0 rfl) ?_
                            refine z_iload_n C0 dL_law_442 rfl (lv_at hl 3 rfl) ?_
                            refine z_iconst C0 dL_law_443 ?_
                            refine z_iadd C0 dL_law_444 ?_
                            obtain ⟨g101, hf⟩ := zg_some hf
                            refine z_sld C0 hX hbl hbA hL hsc hS g101 dL_law_445 ?_
                            refine z_aload_n C0 dL_law_446 rfl (lv_at hl 0 rfl) ?_
                            refine z_iload_n C0 dL_law_447 rfl (lv_at hl 3 rfl) ?_
                            refine z_iconst C0 dL_law_448 ?_
                            refine z_iadd C0 dL_law_449 ?_
                            obtain ⟨g102, hf⟩ := zg_some hf
                            refine z_sld C0 hX hbl hbA hL hsc hS g102 dL_law_450 ?_
                            obtain ⟨r103, hc104, hf⟩ := zbind hf
                            refine z_callAi (rest := []) C0 hP (zD hD rfl) hS (zmX3_shifted l D cI cZ h _ (zx_lag t) (zx_dead t) (zx_manner t) (zx_setting t) (zx_keptRow t) (zx_liveRow t) (zx_shiftedRow t) (zx_groups t) (zx_search t) (zx_deadUntil t) (zx_settled t) (zx_known t) (zx_tooLate t) (zx_ended t) (zsc (Int.toNat (i3 + 1))) (zsc (Int.toNat (i3 + 2))) r103 hc104) (zkL_58 ⟨by decide, by decide⟩ C0.2.2.2.2.1) 3 rfl rfl rfl rfl hl.1 (Nat.le_of_ble_eq_true rfl) dL_law_451 ⟨Nat.le_refl _, Nat.le_refl _⟩ (fun H locs hP hS => ?_)
                            have hP : va_P D vwCl ((wX h cI (zx_lag t) (zx_dead t) (zx_manner t) (zx_setting t) (zx_keptRow t) (zx_liveRow t) r103.2 (zx_groups t) (zx_search t) (zx_deadUntil t) (zx_settled t) (zx_known t) (zx_tooLate t) (zx_ended t)) ++ (wM h2 cI cZ (zm_lag t2) (zm_dead t2) (zm_manner t2) (zm_setting t2) (zm_leastOf t2) (zm_mostOf t2) (zm_kept t2) (zm_planeOf t2) (zm_momentOf t2) (zm_stripOf t2) (zm_late t2) (zm_isOver t2) (zm_isLive t2) (zm_endOf t2) (zm_known t2) (zm_timeOf t2) (zm_pulseOf t2) (zm_groupOf t2) (zm_groups t2) (zm_shut t2) (zm_firstOf t2) (zm_agrees t2) (zm_agreeSet t2) (zm_missed t2) (zm_bestA t2) (zm_bestB t2) (zm_bestAgrees t2) (zm_bestMissed t2))) H := hP
                            refine z_aload_n C0 dL_law_454 rfl (lv_at hl 2 rfl) ?_
                            refine z_aload_n C0 dL_law_455 rfl (lv_at hl 0 rfl) ?_
                            refine z_iload_n C0 dL_law_456 rfl (lv_at hl 3 rfl) ?_
                            refine z_iconst C0 dL_law_457 ?_
                            refine z_iadd C0 dL_law_458 ?_
                            obtain ⟨g105, hf⟩ := zg_some hf
                            refine z_sld C0 hX hbl hbA hL hsc hS g105 dL_law_459 ?_
                            refine z_aload_n C0 dL_law_460 rfl (lv_at hl 0 rfl) ?_
                            refine z_iload_n C0 dL_law_461 rfl (lv_at hl 3 rfl) ?_
                            refine z_iconst C0 dL_law_462 ?_
                            refine z_iadd C0 dL_law_463 ?_
                            obtain ⟨g106, hf⟩ := zg_some hf
                            refine z_sld C0 hX hbl hbA hL hsc hS g106 dL_law_464 ?_
                            obtain ⟨r107, hc108, hf⟩ := zbind hf
                            refine z_callBi (rest := [.int (zI r103.1)]) C0 hP (zD hD rfl) hS (zmX4_shifted l D cI cZ h2 _ (zm_lag t2) (zm_dead t2) (zm_manner t2) (zm_setting t2) (zm_leastOf t2) (zm_mostOf t2) (zm_kept t2) (zm_planeOf t2) (zm_momentOf t2) (zm_stripOf t2) (zm_late t2) (zm_isOver t2) (zm_isLive t2) (zm_endOf t2) (zm_known t2) (zm_timeOf t2) (zm_pulseOf t2) (zm_groupOf t2) (zm_groups t2) (zm_shut t2) (zm_firstOf t2) (zm_agrees t2) (zm_agreeSet t2) (zm_missed t2) (zm_bestA t2) (zm_bestB t2) (zm_bestAgrees t2) (zm_bestMissed t2) (zsc (Int.toNat (i3 + 1))) (zsc (Int.toNat (i3 + 2))) r107 hc108) (zkL_61 ⟨by decide, by decide⟩ C0.2.2.2.2.1) 4 rfl rfl rfl rfl hl.1 (Nat.le_of_ble_eq_true rfl) dL_law_465 ⟨Nat.le_refl _, Nat.le_refl _⟩ (fun H locs hP hS => ?_)
                            have hP : va_P D vwCl ((wX h cI (zx_lag t) (zx_dead t) (zx_manner t) (zx_setting t) (zx_keptRow t) (zx_liveRow t) r103.2 (zx_groups t) (zx_search t) (zx_deadUntil t) (zx_settled t) (zx_known t) (zx_tooLate t) (zx_ended t)) ++ (wM h2 cI cZ (zm_lag t2) (zm_dead t2) (zm_manner t2) (zm_setting t2) (zm_leastOf t2) (zm_mostOf t2) (zm_kept t2) (zm_planeOf t2) (zm_momentOf t2) (zm_stripOf t2) (zm_late t2) (zm_isOver t2) r107.2.1 r107.2.2.1 r107.2.2.2.1 r107.2.2.2.2.1 r107.2.2.2.2.2.1 r107.2.2.2.2.2.2.1 r107.2.2.2.2.2.2.2.1 r107.2.2.2.2.2.2.2.2.1 r107.2.2.2.2.2.2.2.2.2 (zm_agrees t2) (zm_agreeSet t2) (zm_missed t2) (zm_bestA t2) (zm_bestB t2) (zm_bestAgrees t2) (zm_bestMissed t2))) H := hP
                            refine z_icmpeq C0 706 dL_law_468 (by decide) (fun c109 => ?_) (fun c109 => ?_)
                            · have hf := zif_pos hf c109
                              refine z_iinc C0 [(3, .int (zI (i3 + 5))), (0, .ref b), (1, .ref (h 0)), (2, .ref (h2 0))] dL_law_706 hl 3 rfl (by decide) rfl (fun ls hl => ?_)
                              refine z_goto C0 18 dL_law_709 (by decide) ?_
                              exact ih (zk_X (zx_lag t) (zx_dead t) (zx_manner t) (zx_setting t) (zx_keptRow t) (zx_liveRow t) r103.2 (zx_groups t) (zx_search t) (zx_deadUntil t) (zx_settled t) (zx_known t) (zx_tooLate t) (zx_ended t)) (zk_M (zm_lag t2) (zm_dead t2) (zm_manner t2) (zm_setting t2) (zm_leastOf t2) (zm_mostOf t2) (zm_kept t2) (zm_planeOf t2) (zm_momentOf t2) (zm_stripOf t2) (zm_late t2) (zm_isOver t2) r107.2.1 r107.2.2.1 r107.2.2.2.1 r107.2.2.2.2.1 r107.2.2.2.2.2.1 r107.2.2.2.2.2.2.1 r107.2.2.2.2.2.2.2.1 r107.2.2.2.2.2.2.2.2.1 r107.2.2.2.2.2.2.2.2.2 (zm_agrees t2) (zm_agreeSet t2) (zm_missed t2) (zm_bestA t2) (zm_bestB t2) (zm_bestAgrees t2) (zm_bestMissed t2)) (i3 + 5) hf _ _ hP (zD hD rfl) hS ls (lv_sub hl [1, 2, 3, 0] rfl)
                            · have hf := zif_neg hf c109
                              refine z_iconst C0 dL_law_471 ?_
                              exact absurd hf (by decide)
                          · have hf := zif_neg hf c100
                            by_cases c110 : zE (zand (zsc (Int.toNat i3)) 31) 11
                            · have hf := zif_pos hf c110
                              refine z_tabIn C0 c110 473 dL_law_32 (by decide +kernel) (by decide +kernel) rfl (by decide) ?_
                              refine z_aload_n C0 dL_law_473 rfl (lv_at hl 1 rfl) ?_
                              refine z_aload_n C0 dL_law_474 rfl (lv_at hl 0 rfl) ?_
                              refine z_iload_n C0 dL_law_475 rfl (lv_at hl 3 rfl) ?_
                              refine z_iconst C0 dL_law_476 ?_
                              refine z_iadd C0 dL_law_477 ?_
                              obtain ⟨g111, hf⟩ := zg_some hf
                              refine z_sld C0 hX hbl hbA hL hsc hS g111 dL_law_478 ?_
                              refine z_aload_n C0 dL_law_479 rfl (lv_at hl 0 rfl) ?_
                              refine z_iload_n C0 dL_law_480 rfl (lv_at hl 3 rfl) ?_
                              refine z_iconst C0 dL_law_481 ?_
                              refine z_iadd C0 dL_law_482 ?_
                              obtain ⟨g112, hf⟩ := zg_some hf
                              refine z_sld C0 hX hbl hbA hL hsc hS g112 dL_law_483 ?_
                              refine z_aload_n C0 dL_law_484 rfl (lv_at hl 0 rfl) ?_
                              refine z_iload_n C0 dL_law_485 rfl (lv_at hl 3 rfl) ?_
                              refine z_iconst C0 dL_law_486 ?_
                              refine z_iadd C0 dL_law_487 ?_
                              obtain ⟨g113, hf⟩ := zg_some hf
                              refine z_sld C0 hX hbl hbA hL hsc hS g113 dL_law_488 ?_
                              obtain ⟨r114, hc115, hf⟩ := zbind hf
                              refine z_callAi (rest := []) C0 hP (zD hD rfl) hS (zmX3_twos l D cI cZ h _ (zx_lag t) (zx_dead t) (zx_manner t) (zx_setting t) (zx_keptRow t) (zx_liveRow t) (zx_shiftedRow t) (zx_groups t) (zx_search t) (zx_deadUntil t) (zx_settled t) (zx_known t) (zx_tooLate t) (zx_ended t) (zsc (Int.toNat (i3 + 1))) (zsc (Int.toNat (i3 + 2))) (zsc (Int.toNat (i3 + 3))) r114 hc115) (zkL_62 ⟨by decide, by decide⟩ C0.2.2.2.2.1) 3 rfl rfl rfl rfl hl.1 (Nat.le_of_ble_eq_true rfl) dL_law_489 ⟨Nat.le_refl _, Nat.le_refl _⟩ (fun H locs hP hS => ?_)
                              have hP : va_P D vwCl ((wX h cI (zx_lag t) (zx_dead t) (zx_manner t) (zx_setting t) (zx_keptRow t) (zx_liveRow t) (zx_shiftedRow t) (zx_groups t) (zx_search t) (zx_deadUntil t) (zx_settled t) (zx_known t) (zx_tooLate t) (zx_ended t)) ++ (wM h2 cI cZ (zm_lag t2) (zm_dead t2) (zm_manner t2) (zm_setting t2) (zm_leastOf t2) (zm_mostOf t2) (zm_kept t2) (zm_planeOf t2) (zm_momentOf t2) (zm_stripOf t2) (zm_late t2) (zm_isOver t2) (zm_isLive t2) (zm_endOf t2) (zm_known t2) (zm_timeOf t2) (zm_pulseOf t2) (zm_groupOf t2) (zm_groups t2) (zm_shut t2) (zm_firstOf t2) (zm_agrees t2) (zm_agreeSet t2) (zm_missed t2) (zm_bestA t2) (zm_bestB t2) (zm_bestAgrees t2) (zm_bestMissed t2))) H := hP
                              refine z_aload_n C0 dL_law_492 rfl (lv_at hl 2 rfl) ?_
                              refine z_aload_n C0 dL_law_493 rfl (lv_at hl 0 rfl) ?_
                              refine z_iload_n C0 dL_law_494 rfl (lv_at hl 3 rfl) ?_
                              refine z_iconst C0 dL_law_495 ?_
                              refine z_iadd C0 dL_law_496 ?_
                              obtain ⟨g116, hf⟩ := zg_some hf
                              refine z_sld C0 hX hbl hbA hL hsc hS g116 dL_law_497 ?_
                              refine z_aload_n C0 dL_law_498 rfl (lv_at hl 0 rfl) ?_
                              refine z_iload_n C0 dL_law_499 rfl (lv_at hl 3 rfl) ?_
                              refine z_iconst C0 dL_law_500 ?_
                              refine z_iadd C0 dL_law_501 ?_
                              obtain ⟨g117, hf⟩ := zg_some hf
                              refine z_sld C0 hX hbl hbA hL hsc hS g117 dL_law_502 ?_
                              refine z_aload_n C0 dL_law_503 rfl (lv_at hl 0 rfl) ?_
                              refine z_iload_n C0 dL_law_504 rfl (lv_at hl 3 rfl) ?_
                              refine z_iconst C0 dL_law_505 ?_
                              refine z_iadd C0 dL_law_506 ?_
                              obtain ⟨g118, hf⟩ := zg_some hf
                              refine z_sld C0 hX hbl hbA hL hsc hS g118 dL_law_507 ?_
                              obtain ⟨r119, hc120, hf⟩ := zbind hf
                              refine z_callBi (rest := [.int (zI r114)]) C0 hP (zD hD rfl) hS (zmX4_twos l D cI cZ h2 _ (zm_lag t2) (zm_dead t2) (zm_manner t2) (zm_setting t2) (zm_leastOf t2) (zm_mostOf t2) (zm_kept t2) (zm_planeOf t2) (zm_momentOf t2) (zm_stripOf t2) (zm_late t2) (zm_isOver t2) (zm_isLive t2) (zm_endOf t2) (zm_known t2) (zm_timeOf t2) (zm_pulseOf t2) (zm_groupOf t2) (zm_groups t2) (zm_shut t2) (zm_firstOf t2) (zm_agrees t2) (zm_agreeSet t2) (zm_missed t2) (zm_bestA t2) (zm_bestB t2) (zm_bestAgrees t2) (zm_bestMissed t2) (zsc (Int.toNat (i3 + 1))) (zsc (Int.toNat (i3 + 2))) (zsc (Int.toNat (i3 + 3))) r119 hc120) (zkL_65 ⟨by decide, by decide⟩ C0.2.2.2.2.1) 4 rfl rfl rfl rfl hl.1 (Nat.le_of_ble_eq_true rfl) dL_law_508 ⟨Nat.le_refl _, Nat.le_refl _⟩ (fun H locs hP hS => ?_)
                              have hP : va_P D vwCl ((wX h cI (zx_lag t) (zx_dead t) (zx_manner t) (zx_setting t) (zx_keptRow t) (zx_liveRow t) (zx_shiftedRow t) (zx_groups t) (zx_search t) (zx_deadUntil t) (zx_settled t) (zx_known t) (zx_tooLate t) (zx_ended t)) ++ (wM h2 cI cZ (zm_lag t2) (zm_dead t2) (zm_manner t2) (zm_setting t2) (zm_leastOf t2) (zm_mostOf t2) (zm_kept t2) (zm_planeOf t2) (zm_momentOf t2) (zm_stripOf t2) (zm_late t2) (zm_isOver t2) r119.2.1 r119.2.2.1 r119.2.2.2.1 r119.2.2.2.2.1 r119.2.2.2.2.2.1 r119.2.2.2.2.2.2.1 r119.2.2.2.2.2.2.2.1 r119.2.2.2.2.2.2.2.2.1 r119.2.2.2.2.2.2.2.2.2 (zm_agrees t2) (zm_agreeSet t2) (zm_missed t2) (zm_bestA t2) (zm_bestB t2) (zm_bestAgrees t2) (zm_bestMissed t2))) H := hP
                              refine z_icmpeq C0 706 dL_law_511 (by decide) (fun c121 => ?_) (fun c121 => ?_)
                              · have hf := zif_pos hf c121
                                refine z_iinc C0 [(3, .int (zI (i3 + 5))), (0, .ref b), (1, .ref (h 0)), (2, .ref (h2 0))] dL_law_706 hl 3 rfl (by decide) rfl (fun ls hl => ?_)
                                refine z_goto C0 18 dL_law_709 (by decide) ?_
                                exact ih t (zk_M (zm_lag t2) (zm_dead t2) (zm_manner t2) (zm_setting t2) (zm_leastOf t2) (zm_mostOf t2) (zm_kept t2) (zm_planeOf t2) (zm_momentOf t2) (zm_stripOf t2) (zm_late t2) (zm_isOver t2) r119.2.1 r119.2.2.1 r119.2.2.2.1 r119.2.2.2.2.1 r119.2.2.2.2.2.1 r119.2.2.2.2.2.2.1 r119.2.2.2.2.2.2.2.1 r119.2.2.2.2.2.2.2.2.1 r119.2.2.2.2.2.2.2.2.2 (zm_agrees t2) (zm_agreeSet t2) (zm_missed t2) (zm_bestA t2) (zm_bestB t2) (zm_bestAgrees t2) (zm_bestMissed t2)) (i3 + 5) hf _ _ hP (zD hD rfl) hS ls (lv_sub hl [1, 2, 3, 0] rfl)
                              · have hf := zif_neg hf c121
                                refine z_iconst C0 dL_law_514 ?_
                                exact absurd hf (by decide)
                            · have hf := zif_neg hf c110
                              by_cases c122 : zE (zand (zsc (Int.toNat i3)) 31) 12
                              · have hf := zif_pos hf c122
                                refine z_tabIn C0 c122 516 dL_law_32 (by decide +kernel) (by decide +kernel) rfl (by decide) ?_
                                refine z_aload_n C0 dL_law_516 rfl (lv_at hl 1 rfl) ?_
                                refine z_aload_n C0 dL_law_517 rfl (lv_at hl 0 rfl) ?_
                                refine z_iload_n C0 dL_law_518 rfl (lv_at hl 3 rfl) ?_
                                refine z_iconst C0 dL_law_519 ?_
                                refine z_iadd C0 dL_law_520 ?_
                                obtain ⟨g123, hf⟩ := zg_some hf
                                refine z_sld C0 hX hbl hbA hL hsc hS g123 dL_law_521 ?_
                                obtain ⟨r124, hc125, hf⟩ := zbind hf
                                refine z_callAi (rest := []) C0 hP (zD hD rfl) hS (zmX3_live l D cI cZ h _ (zx_lag t) (zx_dead t) (zx_manner t) (zx_setting t) (zx_keptRow t) (zx_liveRow t) (zx_shiftedRow t) (zx_groups t) (zx_search t) (zx_deadUntil t) (zx_settled t) (zx_known t) (zx_tooLate t) (zx_ended t) (zsc (Int.toNat (i3 + 1))) r124 hc125) (zkL_66 ⟨by decide, by decide⟩ C0.2.2.2.2.1) 3 rfl rfl rfl rfl hl.1 (Nat.le_of_ble_eq_true rfl) dL_law_522 ⟨Nat.le_refl _, Nat.le_refl _⟩ (fun H locs hP hS => ?_)
                                have hP : va_P D vwCl ((wX h cI (zx_lag t) (zx_dead t) (zx_manner t) (zx_setting t) (zx_keptRow t) (zx_liveRow t) (zx_shiftedRow t) (zx_groups t) (zx_search t) (zx_deadUntil t) (zx_settled t) (zx_known t) (zx_tooLate t) (zx_ended t)) ++ (wM h2 cI cZ (zm_lag t2) (zm_dead t2) (zm_manner t2) (zm_setting t2) (zm_leastOf t2) (zm_mostOf t2) (zm_kept t2) (zm_planeOf t2) (zm_momentOf t2) (zm_stripOf t2) (zm_late t2) (zm_isOver t2) (zm_isLive t2) (zm_endOf t2) (zm_known t2) (zm_timeOf t2) (zm_pulseOf t2) (zm_groupOf t2) (zm_groups t2) (zm_shut t2) (zm_firstOf t2) (zm_agrees t2) (zm_agreeSet t2) (zm_missed t2) (zm_bestA t2) (zm_bestB t2) (zm_bestAgrees t2) (zm_bestMissed t2))) H := hP
                                refine z_aload_n C0 dL_law_525 rfl (lv_at hl 2 rfl) ?_
                                refine z_aload_n C0 dL_law_526 rfl (lv_at hl 0 rfl) ?_
                                refine z_iload_n C0 dL_law_527 rfl (lv_at hl 3 rfl) ?_
                                refine z_iconst C0 dL_law_528 ?_
                                refine z_iadd C0 dL_law_529 ?_
                                obtain ⟨g126, hf⟩ := zg_some hf
                                refine z_sld C0 hX hbl hbA hL hsc hS g126 dL_law_530 ?_
                                obtain ⟨r127, hc128, hf⟩ := zbind hf
                                refine z_callBi (rest := [.int (zI r124)]) C0 hP (zD hD rfl) hS (zmX4_live l D cI cZ h2 _ (zm_lag t2) (zm_dead t2) (zm_manner t2) (zm_setting t2) (zm_leastOf t2) (zm_mostOf t2) (zm_kept t2) (zm_planeOf t2) (zm_momentOf t2) (zm_stripOf t2) (zm_late t2) (zm_isOver t2) (zm_isLive t2) (zm_endOf t2) (zm_known t2) (zm_timeOf t2) (zm_pulseOf t2) (zm_groupOf t2) (zm_groups t2) (zm_shut t2) (zm_firstOf t2) (zm_agrees t2) (zm_agreeSet t2) (zm_missed t2) (zm_bestA t2) (zm_bestB t2) (zm_bestAgrees t2) (zm_bestMissed t2) (zsc (Int.toNat (i3 + 1))) r127 hc128) (zkL_69 ⟨by decide, by decide⟩ C0.2.2.2.2.1) 4 rfl rfl rfl rfl hl.1 (Nat.le_of_ble_eq_true rfl) dL_law_531 ⟨Nat.le_refl _, Nat.le_refl _⟩ (fun H locs hP hS => ?_)
                                have hP : va_P D vwCl ((wX h cI (zx_lag t) (zx_dead t) (zx_manner t) (zx_setting t) (zx_keptRow t) (zx_liveRow t) (zx_shiftedRow t) (zx_groups t) (zx_search t) (zx_deadUntil t) (zx_settled t) (zx_known t) (zx_tooLate t) (zx_ended t)) ++ (wM h2 cI cZ (zm_lag t2) (zm_dead t2) (zm_manner t2) (zm_setting t2) (zm_leastOf t2) (zm_mostOf t2) (zm_kept t2) (zm_planeOf t2) (zm_momentOf t2) (zm_stripOf t2) (zm_late t2) (zm_isOver t2) r127.2.1 r127.2.2 (zm_known t2) (zm_timeOf t2) (zm_pulseOf t2) (zm_groupOf t2) (zm_groups t2) (zm_shut t2) (zm_firstOf t2) (zm_agrees t2) (zm_agreeSet t2) (zm_missed t2) (zm_bestA t2) (zm_bestB t2) (zm_bestAgrees t2) (zm_bestMissed t2))) H := hP
                                refine z_icmpeq C0 706 dL_law_534 (by decide) (fun c129 => ?_) (fun c129 => ?_)
                                · have hf := zif_pos hf c129
                                  refine z_iinc C0 [(3, .int (zI (i3 + 5))), (0, .ref b), (1, .ref (h 0)), (2, .ref (h2 0))] dL_law_706 hl 3 rfl (by decide) rfl (fun ls hl => ?_)
                                  refine z_goto C0 18 dL_law_709 (by decide) ?_
                                  exact ih t (zk_M (zm_lag t2) (zm_dead t2) (zm_manner t2) (zm_setting t2) (zm_leastOf t2) (zm_mostOf t2) (zm_kept t2) (zm_planeOf t2) (zm_momentOf t2) (zm_stripOf t2) (zm_late t2) (zm_isOver t2) r127.2.1 r127.2.2 (zm_known t2) (zm_timeOf t2) (zm_pulseOf t2) (zm_groupOf t2) (zm_groups t2) (zm_shut t2) (zm_firstOf t2) (zm_agrees t2) (zm_agreeSet t2) (zm_missed t2) (zm_bestA t2) (zm_bestB t2) (zm_bestAgrees t2) (zm_bestMissed t2)) (i3 + 5) hf _ _ hP (zD hD rfl) hS ls (lv_sub hl [1, 2, 3, 0] rfl)
                                · have hf := zif_neg hf c129
                                  refine z_iconst C0 dL_law_537 ?_
                                  exact absurd hf (by decide)
                              · have hf := zif_neg hf c122
                                by_cases c130 : zE (zand (zsc (Int.toNat i3)) 31) 13
                                · have hf := zif_pos hf c130
                                  refine z_tabIn C0 c130 539 dL_law_32 (by decide +kernel) (by decide +kernel) rfl (by decide) ?_
                                  refine z_aload_n C0 dL_law_539 rfl (lv_at hl 1 rfl) ?_
                                  refine z_aload_n C0 dL_law_540 rfl (lv_at hl 0 rfl) ?_
                                  refine z_iload_n C0 dL_law_541 rfl (lv_at hl 3 rfl) ?_
                                  refine z_iconst C0 dL_law_542 ?_
                                  refine z_iadd C0 dL_law_543 ?_
                                  obtain ⟨g131, hf⟩ := zg_some hf
                                  refine z_sld C0 hX hbl hbA hL hsc hS g131 dL_law_544 ?_
                                  refine z_aload_n C0 dL_law_545 rfl (lv_at hl 0 rfl) ?_
                                  refine z_iload_n C0 dL_law_546 rfl (lv_at hl 3 rfl) ?_
                                  refine z_iconst C0 dL_law_547 ?_
                                  refine z_iadd C0 dL_law_548 ?_
                                  obtain ⟨g132, hf⟩ := zg_some hf
                                  refine z_sld C0 hX hbl hbA hL hsc hS g132 dL_law_549 ?_
                                  obtain ⟨r133, hc134, hf⟩ := zbind hf
                                  refine z_callAl (rest := []) C0 hP (zD hD rfl) hS (zmX3_rate l D cI cZ h _ (zx_lag t) (zx_dead t) (zx_manner t) (zx_setting t) (zx_keptRow t) (zx_liveRow t) (zx_shiftedRow t) (zx_groups t) (zx_search t) (zx_deadUntil t) (zx_settled t) (zx_known t) (zx_tooLate t) (zx_ended t) (zsc (Int.toNat (i3 + 1))) (zsc (Int.toNat (i3 + 2))) r133 hc134) (zkL_70 ⟨by decide, by decide⟩ C0.2.2.2.2.1) 3 rfl rfl rfl rfl hl.1 (Nat.le_of_ble_eq_true rfl) dL_law_550 ⟨Nat.le_refl _, Nat.le_refl _⟩ (fun H locs hP hS => ?_)
                                  have hP : va_P D vwCl ((wX h cI (zx_lag t) (zx_dead t) (zx_manner t) (zx_setting t) (zx_keptRow t) (zx_liveRow t) (zx_shiftedRow t) (zx_groups t) (zx_search t) (zx_deadUntil t) (zx_settled t) (zx_known t) (zx_tooLate t) (zx_ended t)) ++ (wM h2 cI cZ (zm_lag t2) (zm_dead t2) (zm_manner t2) (zm_setting t2) (zm_leastOf t2) (zm_mostOf t2) (zm_kept t2) (zm_planeOf t2) (zm_momentOf t2) (zm_stripOf t2) (zm_late t2) (zm_isOver t2) (zm_isLive t2) (zm_endOf t2) (zm_known t2) (zm_timeOf t2) (zm_pulseOf t2) (zm_groupOf t2) (zm_groups t2) (zm_shut t2) (zm_firstOf t2) (zm_agrees t2) (zm_agreeSet t2) (zm_missed t2) (zm_bestA t2) (zm_bestB t2) (zm_bestAgrees t2) (zm_bestMissed t2))) H := hP
                                  refine z_aload_n C0 dL_law_553 rfl (lv_at hl 2 rfl) ?_
                                  refine z_aload_n C0 dL_law_554 rfl (lv_at hl 0 rfl) ?_
                                  refine z_iload_n C0 dL_law_555 rfl (lv_at hl 3 rfl) ?_
                                  refine z_iconst C0 dL_law_556 ?_
                                  refine z_iadd C0 dL_law_557 ?_
                                  obtain ⟨g135, hf⟩ := zg_some hf
                                  refine z_sld C0 hX hbl hbA hL hsc hS g135 dL_law_558 ?_
                                  refine z_aload_n C0 dL_law_559 rfl (lv_at hl 0 rfl) ?_
                                  refine z_iload_n C0 dL_law_560 rfl (lv_at hl 3 rfl) ?_
                                  refine z_iconst C0 dL_law_561 ?_
                                  refine z_iadd C0 dL_law_562 ?_
                                  obtain ⟨g136, hf⟩ := zg_some hf
                                  refine z_sld C0 hX hbl hbA hL hsc hS g136 dL_law_563 ?_
                                  obtain ⟨r137, hc138, hf⟩ := zbind hf
                                  refine z_callBl (rest := [.long (zL r133)]) C0 hP (zD hD rfl) hS (zmX4_rate l D cI cZ h2 _ (zm_lag t2) (zm_dead t2) (zm_manner t2) (zm_setting t2) (zm_leastOf t2) (zm_mostOf t2) (zm_kept t2) (zm_planeOf t2) (zm_momentOf t2) (zm_stripOf t2) (zm_late t2) (zm_isOver t2) (zm_isLive t2) (zm_endOf t2) (zm_known t2) (zm_timeOf t2) (zm_pulseOf t2) (zm_groupOf t2) (zm_groups t2) (zm_shut t2) (zm_firstOf t2) (zm_agrees t2) (zm_agreeSet t2) (zm_missed t2) (zm_bestA t2) (zm_bestB t2) (zm_bestAgrees t2) (zm_bestMissed t2) (zsc (Int.toNat (i3 + 1))) (zsc (Int.toNat (i3 + 2))) r137 hc138) (zkL_74 ⟨by decide, by decide⟩ C0.2.2.2.2.1) 4 rfl rfl rfl rfl hl.1 (Nat.le_of_ble_eq_true rfl) dL_law_564 ⟨Nat.le_refl _, Nat.le_refl _⟩ (fun H locs hP hS => ?_)
                                  have hP : va_P D vwCl ((wX h cI (zx_lag t) (zx_dead t) (zx_manner t) (zx_setting t) (zx_keptRow t) (zx_liveRow t) (zx_shiftedRow t) (zx_groups t) (zx_search t) (zx_deadUntil t) (zx_settled t) (zx_known t) (zx_tooLate t) (zx_ended t)) ++ (wM h2 cI cZ (zm_lag t2) (zm_dead t2) (zm_manner t2) (zm_setting t2) (zm_leastOf t2) (zm_mostOf t2) (zm_kept t2) (zm_planeOf t2) (zm_momentOf t2) (zm_stripOf t2) (zm_late t2) (zm_isOver t2) r137.2.1 r137.2.2 (zm_known t2) (zm_timeOf t2) (zm_pulseOf t2) (zm_groupOf t2) (zm_groups t2) (zm_shut t2) (zm_firstOf t2) (zm_agrees t2) (zm_agreeSet t2) (zm_missed t2) (zm_bestA t2) (zm_bestB t2) (zm_bestAgrees t2) (zm_bestMissed t2))) H := hP
                                  refine z_lcmp C0 dL_law_567 ?_
                                  refine z_ifeq C0 706 dL_law_568 (by decide) (fun c139 => ?_) (fun c139 => ?_)
                                  · have hf := zif_pos hf c139
                                    refine z_iinc C0 [(3, .int (zI (i3 + 5))), (0, .ref b), (1, .ref (h 0)), (2, .ref (h2 0))] dL_law_706 hl 3 rfl (by decide) rfl (fun ls hl => ?_)
                                    refine z_goto C0 18 dL_law_709 (by decide) ?_
                                    exact ih t (zk_M (zm_lag t2) (zm_dead t2) (zm_manner t2) (zm_setting t2) (zm_leastOf t2) (zm_mostOf t2) (zm_kept t2) (zm_planeOf t2) (zm_momentOf t2) (zm_stripOf t2) (zm_late t2) (zm_isOver t2) r137.2.1 r137.2.2 (zm_known t2) (zm_timeOf t2) (zm_pulseOf t2) (zm_groupOf t2) (zm_groups t2) (zm_shut t2) (zm_firstOf t2) (zm_agrees t2) (zm_agreeSet t2) (zm_missed t2) (zm_bestA t2) (zm_bestB t2) (zm_bestAgrees t2) (zm_bestMissed t2)) (i3 + 5) hf _ _ hP (zD hD rfl) hS ls (lv_sub hl [1, 2, 3, 0] rfl)
                                  · have hf := zif_neg hf c139
                                    refine z_iconst C0 dL_law_571 ?_
                                    exact absurd hf (by decide)
                                · have hf := zif_neg hf c130
                                  by_cases c140 : zE (zand (zsc (Int.toNat i3)) 31) 14
                                  · have hf := zif_pos hf c140
                                    refine z_tabIn C0 c140 573 dL_law_32 (by decide +kernel) (by decide +kernel) rfl (by decide) ?_
                                    refine z_aload_n C0 dL_law_573 rfl (lv_at hl 1 rfl) ?_
                                    refine z_aload_n C0 dL_law_574 rfl (lv_at hl 0 rfl) ?_
                                    refine z_iload_n C0 dL_law_575 rfl (lv_at hl 3 rfl) ?_
                                    refine z_iconst C0 dL_law_576 ?_
                                    refine z_iadd C0 dL_law_577 ?_
                                    obtain ⟨g141, hf⟩ := zg_some hf
                                    refine z_sld C0 hX hbl hbA hL hsc hS g141 dL_law_578 ?_
                                    refine z_aload_n C0 dL_law_579 rfl (lv_at hl 0 rfl) ?_
                                    refine z_iload_n C0 dL_law_580 rfl (lv_at hl 3 rfl) ?_
                                    refine z_iconst C0 dL_law_581 ?_
                                    refine z_iadd C0 dL_law_582 ?_
                                    obtain ⟨g142, hf⟩ := zg_some hf
                                    refine z_sld C0 hX hbl hbA hL hsc hS g142 dL_law_583 ?_
                                    refine z_aload_n C0 dL_law_584 rfl (lv_at hl 0 rfl) ?_
                                    refine z_iload_n C0 dL_law_585 rfl (lv_at hl 3 rfl) ?_
                                    refine z_iconst C0 dL_law_586 ?_
                                    refine z_iadd C0 dL_law_587 ?_
                                    obtain ⟨g143, hf⟩ := zg_some hf
                                    refine z_sld C0 hX hbl hbA hL hsc hS g143 dL_law_588 ?_
                                    obtain ⟨r144, hc145, hf⟩ := zbind hf
                                    refine z_callAl (rest := []) C0 hP (zD hD rfl) hS (zmX3_expected l D cI cZ h _ (zx_lag t) (zx_dead t) (zx_manner t) (zx_setting t) (zx_keptRow t) (zx_liveRow t) (zx_shiftedRow t) (zx_groups t) (zx_search t) (zx_deadUntil t) (zx_settled t) (zx_known t) (zx_tooLate t) (zx_ended t) (zsc (Int.toNat (i3 + 1))) (zsc (Int.toNat (i3 + 2))) (zsc (Int.toNat (i3 + 3))) r144 hc145) (zkL_75 ⟨by decide, by decide⟩ C0.2.2.2.2.1) 3 rfl rfl rfl rfl hl.1 (Nat.le_of_ble_eq_true rfl) dL_law_589 ⟨Nat.le_refl _, Nat.le_refl _⟩ (fun H locs hP hS => ?_)
                                    have hP : va_P D vwCl ((wX h cI (zx_lag t) (zx_dead t) (zx_manner t) (zx_setting t) (zx_keptRow t) (zx_liveRow t) (zx_shiftedRow t) (zx_groups t) (zx_search t) (zx_deadUntil t) (zx_settled t) (zx_known t) (zx_tooLate t) (zx_ended t)) ++ (wM h2 cI cZ (zm_lag t2) (zm_dead t2) (zm_manner t2) (zm_setting t2) (zm_leastOf t2) (zm_mostOf t2) (zm_kept t2) (zm_planeOf t2) (zm_momentOf t2) (zm_stripOf t2) (zm_late t2) (zm_isOver t2) (zm_isLive t2) (zm_endOf t2) (zm_known t2) (zm_timeOf t2) (zm_pulseOf t2) (zm_groupOf t2) (zm_groups t2) (zm_shut t2) (zm_firstOf t2) (zm_agrees t2) (zm_agreeSet t2) (zm_missed t2) (zm_bestA t2) (zm_bestB t2) (zm_bestAgrees t2) (zm_bestMissed t2))) H := hP
                                    refine z_aload_n C0 dL_law_592 rfl (lv_at hl 2 rfl) ?_
                                    refine z_aload_n C0 dL_law_593 rfl (lv_at hl 0 rfl) ?_
                                    refine z_iload_n C0 dL_law_594 rfl (lv_at hl 3 rfl) ?_
                                    refine z_iconst C0 dL_law_595 ?_
                                    refine z_iadd C0 dL_law_596 ?_
                                    obtain ⟨g146, hf⟩ := zg_some hf
                                    refine z_sld C0 hX hbl hbA hL hsc hS g146 dL_law_597 ?_
                                    refine z_aload_n C0 dL_law_598 rfl (lv_at hl 0 rfl) ?_
                                    refine z_iload_n C0 dL_law_599 rfl (lv_at hl 3 rfl) ?_
                                    refine z_iconst C0 dL_law_600 ?_
                                    refine z_iadd C0 dL_law_601 ?_
                                    obtain ⟨g147, hf⟩ := zg_some hf
                                    refine z_sld C0 hX hbl hbA hL hsc hS g147 dL_law_602 ?_
                                    refine z_aload_n C0 dL_law_603 rfl (lv_at hl 0 rfl) ?_
                                    refine z_iload_n C0 dL_law_604 rfl (lv_at hl 3 rfl) ?_
                                    refine z_iconst C0 dL_law_605 ?_
                                    refine z_iadd C0 dL_law_606 ?_
                                    obtain ⟨g148, hf⟩ := zg_some hf
                                    refine z_sld C0 hX hbl hbA hL hsc hS g148 dL_law_607 ?_
                                    obtain ⟨r149, hc150, hf⟩ := zbind hf
                                    refine z_callBl (rest := [.long (zL r144)]) C0 hP (zD hD rfl) hS (zmX4_expected l D cI cZ h2 _ (zm_lag t2) (zm_dead t2) (zm_manner t2) (zm_setting t2) (zm_leastOf t2) (zm_mostOf t2) (zm_kept t2) (zm_planeOf t2) (zm_momentOf t2) (zm_stripOf t2) (zm_late t2) (zm_isOver t2) (zm_isLive t2) (zm_endOf t2) (zm_known t2) (zm_timeOf t2) (zm_pulseOf t2) (zm_groupOf t2) (zm_groups t2) (zm_shut t2) (zm_firstOf t2) (zm_agrees t2) (zm_agreeSet t2) (zm_missed t2) (zm_bestA t2) (zm_bestB t2) (zm_bestAgrees t2) (zm_bestMissed t2) (zsc (Int.toNat (i3 + 1))) (zsc (Int.toNat (i3 + 2))) (zsc (Int.toNat (i3 + 3))) r149 hc150) (zkL_79 ⟨by decide, by decide⟩ C0.2.2.2.2.1) 4 rfl rfl rfl rfl hl.1 (Nat.le_of_ble_eq_true rfl) dL_law_608 ⟨Nat.le_refl _, Nat.le_refl _⟩ (fun H locs hP hS => ?_)
                                    have hP : va_P D vwCl ((wX h cI (zx_lag t) (zx_dead t) (zx_manner t) (zx_setting t) (zx_keptRow t) (zx_liveRow t) (zx_shiftedRow t) (zx_groups t) (zx_search t) (zx_deadUntil t) (zx_settled t) (zx_known t) (zx_tooLate t) (zx_ended t)) ++ (wM h2 cI cZ (zm_lag t2) (zm_dead t2) (zm_manner t2) (zm_setting t2) (zm_leastOf t2) (zm_mostOf t2) (zm_kept t2) (zm_planeOf t2) (zm_momentOf t2) (zm_stripOf t2) (zm_late t2) (zm_isOver t2) r149.2.1 r149.2.2 (zm_known t2) (zm_timeOf t2) (zm_pulseOf t2) (zm_groupOf t2) (zm_groups t2) (zm_shut t2) (zm_firstOf t2) (zm_agrees t2) (zm_agreeSet t2) (zm_missed t2) (zm_bestA t2) (zm_bestB t2) (zm_bestAgrees t2) (zm_bestMissed t2))) H := hP
                                    refine z_lcmp C0 dL_law_611 ?_
                                    refine z_ifeq C0 706 dL_law_612 (by decide) (fun c151 => ?_) (fun c151 => ?_)
                                    · have hf := zif_pos hf c151
                                      refine z_iinc C0 [(3, .int (zI (i3 + 5))), (0, .ref b), (1, .ref (h 0)), (2, .ref (h2 0))] dL_law_706 hl 3 rfl (by decide) rfl (fun ls hl => ?_)
                                      refine z_goto C0 18 dL_law_709 (by decide) ?_
                                      exact ih t (zk_M (zm_lag t2) (zm_dead t2) (zm_manner t2) (zm_setting t2) (zm_leastOf t2) (zm_mostOf t2) (zm_kept t2) (zm_planeOf t2) (zm_momentOf t2) (zm_stripOf t2) (zm_late t2) (zm_isOver t2) r149.2.1 r149.2.2 (zm_known t2) (zm_timeOf t2) (zm_pulseOf t2) (zm_groupOf t2) (zm_groups t2) (zm_shut t2) (zm_firstOf t2) (zm_agrees t2) (zm_agreeSet t2) (zm_missed t2) (zm_bestA t2) (zm_bestB t2) (zm_bestAgrees t2) (zm_bestMissed t2)) (i3 + 5) hf _ _ hP (zD hD rfl) hS ls (lv_sub hl [1, 2, 3, 0] rfl)
                                    · have hf := zif_neg hf c151
                                      refine z_iconst C0 dL_law_615 ?_
                                      exact absurd hf (by decide)
                                  · have hf := zif_neg hf c140
                                    by_cases c152 : zE (zand (zsc (Int.toNat i3)) 31) 15
                                    · have hf := zif_pos hf c152
                                      refine z_tabIn C0 c152 617 dL_law_32 (by decide +kernel) (by decide +kernel) rfl (by decide) ?_
                                      refine z_aload_n C0 dL_law_617 rfl (lv_at hl 1 rfl) ?_
                                      refine z_aload_n C0 dL_law_618 rfl (lv_at hl 0 rfl) ?_
                                      refine z_iload_n C0 dL_law_619 rfl (lv_at hl 3 rfl) ?_
                                      refine z_iconst C0 dL_law_620 ?_
                                      refine z_iadd C0 dL_law_621 ?_
                                      obtain ⟨g153, hf⟩ := zg_some hf
                                      refine z_sld C0 hX hbl hbA hL hsc hS g153 dL_law_622 ?_
                                      refine z_aload_n C0 dL_law_623 rfl (lv_at hl 0 rfl) ?_
                                      refine z_iload_n C0 dL_law_624 rfl (lv_at hl 3 rfl) ?_
                                      refine z_iconst C0 dL_law_625 ?_
                                      refine z_iadd C0 dL_law_626 ?_
                                      obtain ⟨g154, hf⟩ := zg_some hf
                                      refine z_sld C0 hX hbl hbA hL hsc hS g154 dL_law_627 ?_
                                      obtain ⟨r155, hc156, hf⟩ := zbind hf
                                      refine z_callAi (rest := []) C0 hP (zD hD rfl) hS (zmX3_track l D cI cZ h _ (zx_lag t) (zx_dead t) (zx_manner t) (zx_setting t) (zx_keptRow t) (zx_liveRow t) (zx_shiftedRow t) (zx_groups t) (zx_search t) (zx_deadUntil t) (zx_settled t) (zx_known t) (zx_tooLate t) (zx_ended t) (zsc (Int.toNat (i3 + 1))) (zsc (Int.toNat (i3 + 2))) r155 hc156) (zkL_80 ⟨by decide, by decide⟩ C0.2.2.2.2.1) 3 rfl rfl rfl rfl hl.1 (Nat.le_of_ble_eq_true rfl) dL_law_628 ⟨Nat.le_refl _, Nat.le_refl _⟩ (fun H locs hP hS => ?_)
                                      have hP : va_P D vwCl ((wX h cI (zx_lag t) (zx_dead t) (zx_manner t) (zx_setting t) (zx_keptRow t) (zx_liveRow t) (zx_shiftedRow t) (zx_groups t) (zx_search t) (zx_deadUntil t) (zx_settled t) (zx_known t) (zx_tooLate t) (zx_ended t)) ++ (wM h2 cI cZ (zm_lag t2) (zm_dead t2) (zm_manner t2) (zm_setting t2) (zm_leastOf t2) (zm_mostOf t2) (zm_kept t2) (zm_planeOf t2) (zm_momentOf t2) (zm_stripOf t2) (zm_late t2) (zm_isOver t2) (zm_isLive t2) (zm_endOf t2) (zm_known t2) (zm_timeOf t2) (zm_pulseOf t2) (zm_groupOf t2) (zm_groups t2) (zm_shut t2) (zm_firstOf t2) (zm_agrees t2) (zm_agreeSet t2) (zm_missed t2) (zm_bestA t2) (zm_bestB t2) (zm_bestAgrees t2) (zm_bestMissed t2))) H := hP
                                      refine z_aload_n C0 dL_law_631 rfl (lv_at hl 2 rfl) ?_
                                      refine z_aload_n C0 dL_law_632 rfl (lv_at hl 0 rfl) ?_
                                      refine z_iload_n C0 dL_law_633 rfl (lv_at hl 3 rfl) ?_
                                      refine z_iconst C0 dL_law_634 ?_
                                      refine z_iadd C0 dL_law_635 ?_
                                      obtain ⟨g157, hf⟩ := zg_some hf
                                      refine z_sld C0 hX hbl hbA hL hsc hS g157 dL_law_636 ?_
                                      refine z_aload_n C0 dL_law_637 rfl (lv_at hl 0 rfl) ?_
                                      refine z_iload_n C0 dL_law_638 rfl (lv_at hl 3 rfl) ?_
                                      refine z_iconst C0 dL_law_639 ?_
                                      refine z_iadd C0 dL_law_640 ?_
                                      obtain ⟨g158, hf⟩ := zg_some hf
                                      refine z_sld C0 hX hbl hbA hL hsc hS g158 dL_law_641 ?_
                                      obtain ⟨r159, hc160, hf⟩ := zbind hf
                                      refine z_callBi (rest := [.int (zI r155)]) C0 hP (zD hD rfl) hS (zmX4_track l D cI cZ h2 _ (zm_lag t2) (zm_dead t2) (zm_manner t2) (zm_setting t2) (zm_leastOf t2) (zm_mostOf t2) (zm_kept t2) (zm_planeOf t2) (zm_momentOf t2) (zm_stripOf t2) (zm_late t2) (zm_isOver t2) (zm_isLive t2) (zm_endOf t2) (zm_known t2) (zm_timeOf t2) (zm_pulseOf t2) (zm_groupOf t2) (zm_groups t2) (zm_shut t2) (zm_firstOf t2) (zm_agrees t2) (zm_agreeSet t2) (zm_missed t2) (zm_bestA t2) (zm_bestB t2) (zm_bestAgrees t2) (zm_bestMissed t2) (zsc (Int.toNat (i3 + 1))) (zsc (Int.toNat (i3 + 2))) r159 hc160) (zkL_83 ⟨by decide, by decide⟩ C0.2.2.2.2.1) 4 rfl rfl rfl rfl hl.1 (Nat.le_of_ble_eq_true rfl) dL_law_642 ⟨Nat.le_refl _, Nat.le_refl _⟩ (fun H locs hP hS => ?_)
                                      have hP : va_P D vwCl ((wX h cI (zx_lag t) (zx_dead t) (zx_manner t) (zx_setting t) (zx_keptRow t) (zx_liveRow t) (zx_shiftedRow t) (zx_groups t) (zx_search t) (zx_deadUntil t) (zx_settled t) (zx_known t) (zx_tooLate t) (zx_ended t)) ++ (wM h2 cI cZ (zm_lag t2) (zm_dead t2) (zm_manner t2) (zm_setting t2) (zm_leastOf t2) (zm_mostOf t2) (zm_kept t2) (zm_planeOf t2) (zm_momentOf t2) (zm_stripOf t2) (zm_late t2) (zm_isOver t2) r159.2.1 r159.2.2.1 r159.2.2.2.1 r159.2.2.2.2.1 r159.2.2.2.2.2.1 r159.2.2.2.2.2.2.1 r159.2.2.2.2.2.2.2.1 r159.2.2.2.2.2.2.2.2.1 r159.2.2.2.2.2.2.2.2.2.1 r159.2.2.2.2.2.2.2.2.2.2.1 r159.2.2.2.2.2.2.2.2.2.2.2.1 r159.2.2.2.2.2.2.2.2.2.2.2.2.1 r159.2.2.2.2.2.2.2.2.2.2.2.2.2.1 r159.2.2.2.2.2.2.2.2.2.2.2.2.2.2.1 r159.2.2.2.2.2.2.2.2.2.2.2.2.2.2.2.1 r159.2.2.2.2.2.2.2.2.2.2.2.2.2.2.2.2)) H := hP
                                      refine z_icmpeq C0 706 dL_law_645 (by decide) (fun c161 => ?_) (fun c161 => ?_)
                                      · have hf := zif_pos hf c161
                                        refine z_iinc C0 [(3, .int (zI (i3 + 5))), (0, .ref b), (1, .ref (h 0)), (2, .ref (h2 0))] dL_law_706 hl 3 rfl (by decide) rfl (fun ls hl => ?_)
                                        refine z_goto C0 18 dL_law_709 (by decide) ?_
                                        exact ih t (zk_M (zm_lag t2) (zm_dead t2) (zm_manner t2) (zm_setting t2) (zm_leastOf t2) (zm_mostOf t2) (zm_kept t2) (zm_planeOf t2) (zm_momentOf t2) (zm_stripOf t2) (zm_late t2) (zm_isOver t2) r159.2.1 r159.2.2.1 r159.2.2.2.1 r159.2.2.2.2.1 r159.2.2.2.2.2.1 r159.2.2.2.2.2.2.1 r159.2.2.2.2.2.2.2.1 r159.2.2.2.2.2.2.2.2.1 r159.2.2.2.2.2.2.2.2.2.1 r159.2.2.2.2.2.2.2.2.2.2.1 r159.2.2.2.2.2.2.2.2.2.2.2.1 r159.2.2.2.2.2.2.2.2.2.2.2.2.1 r159.2.2.2.2.2.2.2.2.2.2.2.2.2.1 r159.2.2.2.2.2.2.2.2.2.2.2.2.2.2.1 r159.2.2.2.2.2.2.2.2.2.2.2.2.2.2.2.1 r159.2.2.2.2.2.2.2.2.2.2.2.2.2.2.2.2) (i3 + 5) hf _ _ hP (zD hD rfl) hS ls (lv_sub hl [1, 2, 3, 0] rfl)
                                      · have hf := zif_neg hf c161
                                        refine z_iconst C0 dL_law_648 ?_
                                        exact absurd hf (by decide)
                                    · have hf := zif_neg hf c152
                                      by_cases c162 : zE (zand (zsc (Int.toNat i3)) 31) 16
                                      · have hf := zif_pos hf c162
                                        refine z_tabIn C0 c162 650 dL_law_32 (by decide +kernel) (by decide +kernel) rfl (by decide) ?_
                                        refine z_aload_n C0 dL_law_650 rfl (lv_at hl 1 rfl) ?_
                                        refine z_aload_n C0 dL_law_651 rfl (lv_at hl 0 rfl) ?_
                                        refine z_iload_n C0 dL_law_652 rfl (lv_at hl 3 rfl) ?_
                                        refine z_iconst C0 dL_law_653 ?_
                                        refine z_iadd C0 dL_law_654 ?_
                                        obtain ⟨g163, hf⟩ := zg_some hf
                                        refine z_sld C0 hX hbl hbA hL hsc hS g163 dL_law_655 ?_
                                        refine z_aload_n C0 dL_law_656 rfl (lv_at hl 0 rfl) ?_
                                        refine z_iload_n C0 dL_law_657 rfl (lv_at hl 3 rfl) ?_
                                        refine z_iconst C0 dL_law_658 ?_
                                        refine z_iadd C0 dL_law_659 ?_
                                        obtain ⟨g164, hf⟩ := zg_some hf
                                        refine z_sld C0 hX hbl hbA hL hsc hS g164 dL_law_660 ?_
                                        obtain ⟨r165, hc166, hf⟩ := zbind hf
                                        refine z_callAi (rest := []) C0 hP (zD hD rfl) hS (zmX3_through l D cI cZ h _ (zx_lag t) (zx_dead t) (zx_manner t) (zx_setting t) (zx_keptRow t) (zx_liveRow t) (zx_shiftedRow t) (zx_groups t) (zx_search t) (zx_deadUntil t) (zx_settled t) (zx_known t) (zx_tooLate t) (zx_ended t) (zsc (Int.toNat (i3 + 1))) (zsc (Int.toNat (i3 + 2))) r165 hc166) (zkL_84 ⟨by decide, by decide⟩ C0.2.2.2.2.1) 3 rfl rfl rfl rfl hl.1 (Nat.le_of_ble_eq_true rfl) dL_law_661 ⟨Nat.le_refl _, Nat.le_refl _⟩ (fun H locs hP hS => ?_)
                                        have hP : va_P D vwCl ((wX h cI (zx_lag t) (zx_dead t) (zx_manner t) (zx_setting t) (zx_keptRow t) (zx_liveRow t) (zx_shiftedRow t) (zx_groups t) (zx_search t) (zx_deadUntil t) (zx_settled t) (zx_known t) (zx_tooLate t) (zx_ended t)) ++ (wM h2 cI cZ (zm_lag t2) (zm_dead t2) (zm_manner t2) (zm_setting t2) (zm_leastOf t2) (zm_mostOf t2) (zm_kept t2) (zm_planeOf t2) (zm_momentOf t2) (zm_stripOf t2) (zm_late t2) (zm_isOver t2) (zm_isLive t2) (zm_endOf t2) (zm_known t2) (zm_timeOf t2) (zm_pulseOf t2) (zm_groupOf t2) (zm_groups t2) (zm_shut t2) (zm_firstOf t2) (zm_agrees t2) (zm_agreeSet t2) (zm_missed t2) (zm_bestA t2) (zm_bestB t2) (zm_bestAgrees t2) (zm_bestMissed t2))) H := hP
                                        refine z_aload_n C0 dL_law_664 rfl (lv_at hl 2 rfl) ?_
                                        refine z_aload_n C0 dL_law_665 rfl (lv_at hl 0 rfl) ?_
                                        refine z_iload_n C0 dL_law_666 rfl (lv_at hl 3 rfl) ?_
                                        refine z_iconst C0 dL_law_667 ?_
                                        refine z_iadd C0 dL_law_668 ?_
                                        obtain ⟨g167, hf⟩ := zg_some hf
                                        refine z_sld C0 hX hbl hbA hL hsc hS g167 dL_law_669 ?_
                                        refine z_aload_n C0 dL_law_670 rfl (lv_at hl 0 rfl) ?_
                                        refine z_iload_n C0 dL_law_671 rfl (lv_at hl 3 rfl) ?_
                                        refine z_iconst C0 dL_law_672 ?_
                                        refine z_iadd C0 dL_law_673 ?_
                                        obtain ⟨g168, hf⟩ := zg_some hf
                                        refine z_sld C0 hX hbl hbA hL hsc hS g168 dL_law_674 ?_
                                        obtain ⟨r169, hc170, hf⟩ := zbind hf
                                        refine z_callBi (rest := [.int (zI r165)]) C0 hP (zD hD rfl) hS (zmX4_through l D cI cZ h2 _ (zm_lag t2) (zm_dead t2) (zm_manner t2) (zm_setting t2) (zm_leastOf t2) (zm_mostOf t2) (zm_kept t2) (zm_planeOf t2) (zm_momentOf t2) (zm_stripOf t2) (zm_late t2) (zm_isOver t2) (zm_isLive t2) (zm_endOf t2) (zm_known t2) (zm_timeOf t2) (zm_pulseOf t2) (zm_groupOf t2) (zm_groups t2) (zm_shut t2) (zm_firstOf t2) (zm_agrees t2) (zm_agreeSet t2) (zm_missed t2) (zm_bestA t2) (zm_bestB t2) (zm_bestAgrees t2) (zm_bestMissed t2) (zsc (Int.toNat (i3 + 1))) (zsc (Int.toNat (i3 + 2))) r169 hc170) (zkL_87 ⟨by decide, by decide⟩ C0.2.2.2.2.1) 4 rfl rfl rfl rfl hl.1 (Nat.le_of_ble_eq_true rfl) dL_law_675 ⟨Nat.le_refl _, Nat.le_refl _⟩ (fun H locs hP hS => ?_)
                                        have hP : va_P D vwCl ((wX h cI (zx_lag t) (zx_dead t) (zx_manner t) (zx_setting t) (zx_keptRow t) (zx_liveRow t) (zx_shiftedRow t) (zx_groups t) (zx_search t) (zx_deadUntil t) (zx_settled t) (zx_known t) (zx_tooLate t) (zx_ended t)) ++ (wM h2 cI cZ (zm_lag t2) (zm_dead t2) (zm_manner t2) (zm_setting t2) (zm_leastOf t2) (zm_mostOf t2) (zm_kept t2) (zm_planeOf t2) (zm_momentOf t2) (zm_stripOf t2) (zm_late t2) (zm_isOver t2) r169.2.1 r169.2.2.1 r169.2.2.2.1 r169.2.2.2.2.1 r169.2.2.2.2.2.1 r169.2.2.2.2.2.2.1 r169.2.2.2.2.2.2.2.1 r169.2.2.2.2.2.2.2.2.1 r169.2.2.2.2.2.2.2.2.2.1 r169.2.2.2.2.2.2.2.2.2.2.1 r169.2.2.2.2.2.2.2.2.2.2.2.1 r169.2.2.2.2.2.2.2.2.2.2.2.2.1 r169.2.2.2.2.2.2.2.2.2.2.2.2.2.1 r169.2.2.2.2.2.2.2.2.2.2.2.2.2.2.1 r169.2.2.2.2.2.2.2.2.2.2.2.2.2.2.2.1 r169.2.2.2.2.2.2.2.2.2.2.2.2.2.2.2.2)) H := hP
                                        refine z_icmpeq C0 706 dL_law_678 (by decide) (fun c171 => ?_) (fun c171 => ?_)
                                        · have hf := zif_pos hf c171
                                          refine z_iinc C0 [(3, .int (zI (i3 + 5))), (0, .ref b), (1, .ref (h 0)), (2, .ref (h2 0))] dL_law_706 hl 3 rfl (by decide) rfl (fun ls hl => ?_)
                                          refine z_goto C0 18 dL_law_709 (by decide) ?_
                                          exact ih t (zk_M (zm_lag t2) (zm_dead t2) (zm_manner t2) (zm_setting t2) (zm_leastOf t2) (zm_mostOf t2) (zm_kept t2) (zm_planeOf t2) (zm_momentOf t2) (zm_stripOf t2) (zm_late t2) (zm_isOver t2) r169.2.1 r169.2.2.1 r169.2.2.2.1 r169.2.2.2.2.1 r169.2.2.2.2.2.1 r169.2.2.2.2.2.2.1 r169.2.2.2.2.2.2.2.1 r169.2.2.2.2.2.2.2.2.1 r169.2.2.2.2.2.2.2.2.2.1 r169.2.2.2.2.2.2.2.2.2.2.1 r169.2.2.2.2.2.2.2.2.2.2.2.1 r169.2.2.2.2.2.2.2.2.2.2.2.2.1 r169.2.2.2.2.2.2.2.2.2.2.2.2.2.1 r169.2.2.2.2.2.2.2.2.2.2.2.2.2.2.1 r169.2.2.2.2.2.2.2.2.2.2.2.2.2.2.2.1 r169.2.2.2.2.2.2.2.2.2.2.2.2.2.2.2.2) (i3 + 5) hf _ _ hP (zD hD rfl) hS ls (lv_sub hl [1, 2, 3, 0] rfl)
                                        · have hf := zif_neg hf c171
                                          refine z_iconst C0 dL_law_681 ?_
                                          exact absurd hf (by decide)
                                      · have hf := zif_neg hf c162
                                        by_cases c172 : zE (zand (zsc (Int.toNat i3)) 31) 17
                                        · have hf := zif_pos hf c172
                                          refine z_tabIn C0 c172 683 dL_law_32 (by decide +kernel) (by decide +kernel) rfl (by decide) ?_
                                          refine z_aload_n C0 dL_law_683 rfl (lv_at hl 1 rfl) ?_
                                          refine z_aload_n C0 dL_law_684 rfl (lv_at hl 0 rfl) ?_
                                          refine z_iload_n C0 dL_law_685 rfl (lv_at hl 3 rfl) ?_
                                          refine z_iconst C0 dL_law_686 ?_
                                          refine z_iadd C0 dL_law_687 ?_
                                          obtain ⟨g173, hf⟩ := zg_some hf
                                          refine z_sld C0 hX hbl hbA hL hsc hS g173 dL_law_688 ?_
                                          obtain ⟨r174, hc175, hf⟩ := zbind hf
                                          refine z_callAi (rest := []) C0 hP (zD hD rfl) hS (zmX3_many l D cI cZ h _ (zx_lag t) (zx_dead t) (zx_manner t) (zx_setting t) (zx_keptRow t) (zx_liveRow t) (zx_shiftedRow t) (zx_groups t) (zx_search t) (zx_deadUntil t) (zx_settled t) (zx_known t) (zx_tooLate t) (zx_ended t) (zsc (Int.toNat (i3 + 1))) r174 hc175) (zkL_88 ⟨by decide, by decide⟩ C0.2.2.2.2.1) 3 rfl rfl rfl rfl hl.1 (Nat.le_of_ble_eq_true rfl) dL_law_689 ⟨Nat.le_refl _, Nat.le_refl _⟩ (fun H locs hP hS => ?_)
                                          have hP : va_P D vwCl ((wX h cI (zx_lag t) (zx_dead t) (zx_manner t) (zx_setting t) (zx_keptRow t) (zx_liveRow t) (zx_shiftedRow t) (zx_groups t) (zx_search t) (zx_deadUntil t) (zx_settled t) (zx_known t) (zx_tooLate t) (zx_ended t)) ++ (wM h2 cI cZ (zm_lag t2) (zm_dead t2) (zm_manner t2) (zm_setting t2) (zm_leastOf t2) (zm_mostOf t2) (zm_kept t2) (zm_planeOf t2) (zm_momentOf t2) (zm_stripOf t2) (zm_late t2) (zm_isOver t2) (zm_isLive t2) (zm_endOf t2) (zm_known t2) (zm_timeOf t2) (zm_pulseOf t2) (zm_groupOf t2) (zm_groups t2) (zm_shut t2) (zm_firstOf t2) (zm_agrees t2) (zm_agreeSet t2) (zm_missed t2) (zm_bestA t2) (zm_bestB t2) (zm_bestAgrees t2) (zm_bestMissed t2))) H := hP
                                          refine z_aload_n C0 dL_law_692 rfl (lv_at hl 2 rfl) ?_
                                          refine z_aload_n C0 dL_law_693 rfl (lv_at hl 0 rfl) ?_
                                          refine z_iload_n C0 dL_law_694 rfl (lv_at hl 3 rfl) ?_
                                          refine z_iconst C0 dL_law_695 ?_
                                          refine z_iadd C0 dL_law_696 ?_
                                          obtain ⟨g176, hf⟩ := zg_some hf
                                          refine z_sld C0 hX hbl hbA hL hsc hS g176 dL_law_697 ?_
                                          obtain ⟨r177, hc178, hf⟩ := zbind hf
                                          refine z_callBi (rest := [.int (zI r174)]) C0 hP (zD hD rfl) hS (zmX4_many l D cI cZ h2 _ (zm_lag t2) (zm_dead t2) (zm_manner t2) (zm_setting t2) (zm_leastOf t2) (zm_mostOf t2) (zm_kept t2) (zm_planeOf t2) (zm_momentOf t2) (zm_stripOf t2) (zm_late t2) (zm_isOver t2) (zm_isLive t2) (zm_endOf t2) (zm_known t2) (zm_timeOf t2) (zm_pulseOf t2) (zm_groupOf t2) (zm_groups t2) (zm_shut t2) (zm_firstOf t2) (zm_agrees t2) (zm_agreeSet t2) (zm_missed t2) (zm_bestA t2) (zm_bestB t2) (zm_bestAgrees t2) (zm_bestMissed t2) (zsc (Int.toNat (i3 + 1))) r177 hc178) (zkL_91 ⟨by decide, by decide⟩ C0.2.2.2.2.1) 4 rfl rfl rfl rfl hl.1 (Nat.le_of_ble_eq_true rfl) dL_law_698 ⟨Nat.le_refl _, Nat.le_refl _⟩ (fun H locs hP hS => ?_)
                                          have hP : va_P D vwCl ((wX h cI (zx_lag t) (zx_dead t) (zx_manner t) (zx_setting t) (zx_keptRow t) (zx_liveRow t) (zx_shiftedRow t) (zx_groups t) (zx_search t) (zx_deadUntil t) (zx_settled t) (zx_known t) (zx_tooLate t) (zx_ended t)) ++ (wM h2 cI cZ (zm_lag t2) (zm_dead t2) (zm_manner t2) (zm_setting t2) (zm_leastOf t2) (zm_mostOf t2) (zm_kept t2) (zm_planeOf t2) (zm_momentOf t2) (zm_stripOf t2) (zm_late t2) (zm_isOver t2) r177.2.1 r177.2.2.1 r177.2.2.2.1 r177.2.2.2.2.1 r177.2.2.2.2.2.1 r177.2.2.2.2.2.2.1 r177.2.2.2.2.2.2.2.1 r177.2.2.2.2.2.2.2.2.1 r177.2.2.2.2.2.2.2.2.2.1 r177.2.2.2.2.2.2.2.2.2.2.1 r177.2.2.2.2.2.2.2.2.2.2.2.1 r177.2.2.2.2.2.2.2.2.2.2.2.2.1 r177.2.2.2.2.2.2.2.2.2.2.2.2.2.1 r177.2.2.2.2.2.2.2.2.2.2.2.2.2.2.1 r177.2.2.2.2.2.2.2.2.2.2.2.2.2.2.2.1 r177.2.2.2.2.2.2.2.2.2.2.2.2.2.2.2.2)) H := hP
                                          refine z_icmpeq C0 706 dL_law_701 (by decide) (fun c179 => ?_) (fun c179 => ?_)
                                          · have hf := zif_pos hf c179
                                            refine z_iinc C0 [(3, .int (zI (i3 + 5))), (0, .ref b), (1, .ref (h 0)), (2, .ref (h2 0))] dL_law_706 hl 3 rfl (by decide) rfl (fun ls hl => ?_)
                                            refine z_goto C0 18 dL_law_709 (by decide) ?_
                                            exact ih t (zk_M (zm_lag t2) (zm_dead t2) (zm_manner t2) (zm_setting t2) (zm_leastOf t2) (zm_mostOf t2) (zm_kept t2) (zm_planeOf t2) (zm_momentOf t2) (zm_stripOf t2) (zm_late t2) (zm_isOver t2) r177.2.1 r177.2.2.1 r177.2.2.2.1 r177.2.2.2.2.1 r177.2.2.2.2.2.1 r177.2.2.2.2.2.2.1 r177.2.2.2.2.2.2.2.1 r177.2.2.2.2.2.2.2.2.1 r177.2.2.2.2.2.2.2.2.2.1 r177.2.2.2.2.2.2.2.2.2.2.1 r177.2.2.2.2.2.2.2.2.2.2.2.1 r177.2.2.2.2.2.2.2.2.2.2.2.2.1 r177.2.2.2.2.2.2.2.2.2.2.2.2.2.1 r177.2.2.2.2.2.2.2.2.2.2.2.2.2.2.1 r177.2.2.2.2.2.2.2.2.2.2.2.2.2.2.2.1 r177.2.2.2.2.2.2.2.2.2.2.2.2.2.2.2.2) (i3 + 5) hf _ _ hP (zD hD rfl) hS ls (lv_sub hl [1, 2, 3, 0] rfl)
                                          · have hf := zif_neg hf c179
                                            refine z_iconst C0 dL_law_704 ?_
                                            exact absurd hf (by decide)
                                        · have hf := zif_neg hf c172
                                          refine z_tabOut C0 706 dL_law_32 (zsw 17 (fun k hk => by rcases (show k = 0 ∨ k = 1 ∨ k = 2 ∨ k = 3 ∨ k = 4 ∨ k = 5 ∨ k = 6 ∨ k = 7 ∨ k = 8 ∨ k = 9 ∨ k = 10 ∨ k = 11 ∨ k = 12 ∨ k = 13 ∨ k = 14 ∨ k = 15 ∨ k = 16 ∨ k = 17 by omega) with rfl | rfl | rfl | rfl | rfl | rfl | rfl | rfl | rfl | rfl | rfl | rfl | rfl | rfl | rfl | rfl | rfl | rfl <;> assumption)) (by decide) ?_
                                          refine z_iinc C0 [(3, .int (zI (i3 + 5))), (0, .ref b), (1, .ref (h 0)), (2, .ref (h2 0))] dL_law_706 hl 3 rfl (by decide) rfl (fun ls hl => ?_)
                                          refine z_goto C0 18 dL_law_709 (by decide) ?_
                                          exact ih t t2 (i3 + 5) hf _ _ hP (zD hD rfl) hS ls (lv_sub hl [1, 2, 3, 0] rfl)
