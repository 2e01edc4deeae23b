set_option maxHeartbeats 8000000 in
set_option maxRecDepth 100000 in
theorem zwalk {p : Program} {l : Launch} {e : Env} {s : State} {m : MethodId} {below : List Frame} {meth : Method} {c : Code} {D : va_G} {cI cZ : ClassId} {A : Nat → Prop} {b zL0 : Nat} {zsc : Nat → Int} {Q : State → Prop} (C0 : zC p s m #[Value.ref b] c D cI cZ A cL_law 16 RL) (hX : zScr b zL0 zsc A s s.heap) (hZ : zSt A s s.heap) (hcl : zCl A s s.heap)
    (hret : ∀ {pc : Nat} {H : Heap} {locs : List Loc} {ls : Array Slot}, va_S A s.heap H locs → decode cL_law pc = .ok (.ireturn, 1) → W p l e room_1 s m #[Value.ref b] below meth c H locs 600000 7302250 Q (F0 m pc ls [.int (zI 1)]))
    (hf : fL_law zL0 zsc zX0 zX0 (fun _ => 0) (fun _ => 0) (fun _ => 0) (fun _ => 0) = some 1) (ls : Array Slot) (hl : lv_has ls 16 [(0, .ref b)]) : W p l e room_1 s m #[Value.ref b] below meth c s.heap [] 0 0 Q (F0 m 0 ls []) := by
  have hP : va_P D vwCl [] s.heap := fun k q h => by simp at h
  have hD : va_D A [] := ⟨fun i j p q h => by simp at h, fun k q h => by simp at h⟩
  have hS : va_S A s.heap s.heap [] := va_S.rf
  refine znL_20 C0 hP hD hS (Nat.le_of_ble_eq_true rfl) (Nat.le_of_ble_eq_true rfl) dL_law_0 (fun q1 H hP hD hS => ?_)
  refine z_dup C0 dL_law_3 rfl ?_
  refine z_callIC (rest := [.ref q1]) (wr := ([] : va_W)) (wc := [(q1, .inr (3, [.null, .null, .null, .null, .null, .null, .null, .null, .null, .null, .int (zI 0), .int (zI 0), .int (zI 0), .int (zI 0)]))]) (wf := fun h => (wX h cI (fun _ => 0) (fun _ => 0) (fun _ => 0) zS3 (zk_R (fun _ => 0) (fun _ => 0) (fun _ => 0) 0) (zk_R (fun _ => 0) (fun _ => 0) (fun _ => 0) 0) (zk_R (fun _ => 0) (fun _ => 0) (fun _ => 0) 0) (zk_G (fun _ => 0) (fun _ => 0) (fun _ => 0) (fun _ => 0) (fun _ => 0) (fun _ => 0) 0) (zk_S (fun _ => 0) 0 0 0 0) (fun _ => 0) 0 0 0 0)) C0 hP hD hS hcl (zmX3_init l D cI cZ q1 _) (z_cwI zw365 zw366 zw80 zw367 rfl rfl rfl (by decide +kernel) ⟨by decide, by decide⟩ C0.2.2.2.2.1) hl.1 (Nat.le_of_ble_eq_true rfl) dL_law_4 ⟨Nat.le_of_ble_eq_true rfl, Nat.le_of_ble_eq_true rfl⟩ (fun h H locs he0 hP hD hS => ?_)
  have hP : va_P D vwCl (wX h cI (fun _ => 0) (fun _ => 0) (fun _ => 0) zS3 (zk_R (fun _ => 0) (fun _ => 0) (fun _ => 0) 0) (zk_R (fun _ => 0) (fun _ => 0) (fun _ => 0) 0) (zk_R (fun _ => 0) (fun _ => 0) (fun _ => 0) 0) (zk_G (fun _ => 0) (fun _ => 0) (fun _ => 0) (fun _ => 0) (fun _ => 0) (fun _ => 0) 0) (zk_S (fun _ => 0) 0 0 0 0) (fun _ => 0) 0 0 0 0) _ := hP
  have hD : va_D A (wX h cI (fun _ => 0) (fun _ => 0) (fun _ => 0) zS3 (zk_R (fun _ => 0) (fun _ => 0) (fun _ => 0) 0) (zk_R (fun _ => 0) (fun _ => 0) (fun _ => 0) 0) (zk_R (fun _ => 0) (fun _ => 0) (fun _ => 0) 0) (zk_G (fun _ => 0) (fun _ => 0) (fun _ => 0) (fun _ => 0) (fun _ => 0) (fun _ => 0) 0) (zk_S (fun _ => 0) 0 0 0 0) (fun _ => 0) 0 0 0 0) := hD
  refine z_astore_n C0 [(1, .ref q1), (0, .ref b)] dL_law_7 rfl hl (by decide) rfl (fun ls hl => ?_)
  refine znL_20 C0 hP hD hS (Nat.le_of_ble_eq_true rfl) (Nat.le_of_ble_eq_true rfl) dL_law_8 (fun q2 H hP hD hS => ?_)
  refine z_dup C0 dL_law_11 rfl ?_
  refine z_callIC (rest := [.ref q2]) (wr := ((wX h cI (fun _ => 0) (fun _ => 0) (fun _ => 0) zS3 (zk_R (fun _ => 0) (fun _ => 0) (fun _ => 0) 0) (zk_R (fun _ => 0) (fun _ => 0) (fun _ => 0) 0) (zk_R (fun _ => 0) (fun _ => 0) (fun _ => 0) 0) (zk_G (fun _ => 0) (fun _ => 0) (fun _ => 0) (fun _ => 0) (fun _ => 0) (fun _ => 0) 0) (zk_S (fun _ => 0) 0 0 0 0) (fun _ => 0) 0 0 0 0))) (wc := [(q2, .inr (3, [.null, .null, .null, .null, .null, .null, .null, .null, .null, .null, .int (zI 0), .int (zI 0), .int (zI 0), .int (zI 0)]))]) (wf := fun h => (wX h cI (fun _ => 0) (fun _ => 0) (fun _ => 0) zS3 (zk_R (fun _ => 0) (fun _ => 0) (fun _ => 0) 0) (zk_R (fun _ => 0) (fun _ => 0) (fun _ => 0) 0) (zk_R (fun _ => 0) (fun _ => 0) (fun _ => 0) 0) (zk_G (fun _ => 0) (fun _ => 0) (fun _ => 0) (fun _ => 0) (fun _ => 0) (fun _ => 0) 0) (zk_S (fun _ => 0) 0 0 0 0) (fun _ => 0) 0 0 0 0)) C0 hP hD hS hcl (zmX3_init l D cI cZ q2 _) (z_cwI zw365 zw366 zw80 zw367 rfl rfl rfl (by decide +kernel) ⟨by decide, by decide⟩ C0.2.2.2.2.1) hl.1 (Nat.le_of_ble_eq_true rfl) dL_law_12 ⟨Nat.le_of_ble_eq_true rfl, Nat.le_of_ble_eq_true rfl⟩ (fun h2 H locs he1 hP hD hS => ?_)
  refine z_astore_n C0 [(2, .ref q2), (1, .ref q1), (0, .ref b)] dL_law_15 rfl hl (by decide) rfl (fun ls hl => ?_)
  refine z_bipush C0 dL_law_16 (by decide +kernel) ?_
  refine z_newi C0 hP hD hS 48 (by decide) zw314 (Nat.le_of_ble_eq_true rfl) (Nat.le_of_ble_eq_true rfl) (by decide) dL_law_18 (fun b3 H hP hD hS => ?_)
  refine z_astore_n C0 [(3, .ref b3), (2, .ref q2), (1, .ref q1), (0, .ref b)] dL_law_20 rfl hl (by decide) rfl (fun ls hl => ?_)
  refine z_bipush C0 dL_law_21 (by decide +kernel) ?_
  refine z_newi C0 hP hD hS 48 (by decide) zw314 (Nat.le_of_ble_eq_true rfl) (Nat.le_of_ble_eq_true rfl) (by decide) dL_law_23 (fun b4 H hP hD hS => ?_)
  refine z_astore C0 [(4, .ref b4), (3, .ref b3), (2, .ref q2), (1, .ref q1), (0, .ref b)] dL_law_25 hl (by decide) rfl (fun ls hl => ?_)
  refine z_bipush C0 dL_law_27 (by decide +kernel) ?_
  refine z_newi C0 hP hD hS 48 (by decide) zw314 (Nat.le_of_ble_eq_true rfl) (Nat.le_of_ble_eq_true rfl) (by decide) dL_law_29 (fun b5 H hP hD hS => ?_)
  refine z_astore C0 [(5, .ref b5), (4, .ref b4), (3, .ref b3), (2, .ref q2), (1, .ref q1), (0, .ref b)] dL_law_31 hl (by decide) rfl (fun ls hl => ?_)
  refine z_bipush C0 dL_law_33 (by decide +kernel) ?_
  refine z_newi C0 hP hD hS 48 (by decide) zw314 (Nat.le_of_ble_eq_true rfl) (Nat.le_of_ble_eq_true rfl) (by decide) dL_law_35 (fun b6 H hP hD hS => ?_)
  refine z_astore C0 [(6, .ref b6), (5, .ref b5), (4, .ref b4), (3, .ref b3), (2, .ref q2), (1, .ref q1), (0, .ref b)] dL_law_37 hl (by decide) rfl (fun ls hl => ?_)
  refine z_iconst C0 dL_law_39 ?_
  refine z_istore C0 [(7, .int (zI 0)), (6, .ref b6), (5, .ref b5), (4, .ref b4), (3, .ref b3), (2, .ref q2), (1, .ref q1), (0, .ref b)] dL_law_40 hl (by decide) rfl (fun ls hl => ?_)
  have hPf := zapp4 hP
  have hDf := zapp4D hD
  have hSf := hS
  have hlf := hl
  subst he0
  subst he1
  refine W.widen (k := 600000) (n := 7302250) (Nat.le_of_ble_eq_true rfl) (Nat.le_of_ble_eq_true rfl) ?_
  exact law_walk (h := h) (h2 := h2) (b3 := b3) (b4 := b4) (b5 := b5) (b6 := b6) C0 hX hZ hret zX0 zX0 _ _ _ _ hf _ _ hPf hDf hSf ls (lv_sub hlf [7, 6, 5, 4, 3, 2, 1, 0] rfl)
set_option maxHeartbeats 8000000 in
set_option maxRecDepth 100000 in
theorem zknown {s : State} {args : Array Value} (ht : ∀ w ∈ zTb, w.before args s = true) : ∃ (D : va_G) (cI cZ : ClassId), va_K D vwCl (zTY cI cZ) s := by
  obtain ⟨c0, i0, h0⟩ := u_known (C := RX0) (T := TX0) (N := 7) (n := 7) ht zinX0 (ht _ zw331)
  obtain ⟨c1, i1, h1⟩ := u_known (C := RX1) (T := TX1) (N := 5) (n := 5) ht zinX1 (ht _ zw336)
  obtain ⟨c2, i2, h2⟩ := u_known (C := RX2) (T := TX2) (N := 4) (n := 4) ht zinX2 (ht _ zw326)
  obtain ⟨c3, i3, h3⟩ := u_known (C := RX3) (T := TX3) (N := 14) (n := 14) ht zinX3 (ht _ zw364)
  obtain ⟨cI, kI, compI, a1, a2, a3⟩ := Cond.arrayClass_spec (type := .int) (ht _ zw314)
  refine ⟨(fun k => if k = 0 then c0 else if k = 1 then c1 else if k = 2 then c2 else c3, fun k => if k = 0 then i0 else if k = 1 then i1 else if k = 2 then i2 else i3), cI, cI, ?_, ?_⟩
  · intro k q hq
    match k, hq with
    | 0, hq => cases hq; exact h0
    | 1, hq => cases hq; exact h1
    | 2, hq => cases hq; exact h2
    | 3, hq => cases hq; exact h3
    | k + 4, hq => simp [vwCl] at hq
  · intro k q hq
    match k, hq with
    | 0, hq => cases hq; exact ⟨fun n z => ⟨fun k h => (by cases h), kI, a2, compI, a3⟩, a1⟩
    | k + 1, hq => simp at hq
