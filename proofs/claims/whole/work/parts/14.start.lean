set_option maxHeartbeats 8000000 in
set_option maxRecDepth 100000 in
theorem zwalk {p : Program} {l : Launch} {e : Env} {s : State} {m : MethodId} {below : List Frame} {meth : Method} {c : Code} {D : va_G} {cI cZ : ClassId} {A : Nat → Prop} {b zL0 : Nat} {xs : Nat → Int32} {zsc : Nat → Int} {Q : State → Prop} (C0 : zC p s m #[Value.ref b] c D cI cZ A cL_law 4 RL) (hX : va_X b zL0 xs s s.heap) (hbl : b < s.heap.size) (hbA : ¬ A b) (hL : zL0 < 2147483648) (hsc : ∀ j, xs j = zI (zsc j)) (hZ : zSt A s s.heap) (hcl : zCl A s s.heap)
    (hret : ∀ {pc : Nat} {H : Heap} {locs : List Loc} {ls : Array Slot}, va_S A s.heap H locs → decode cL_law pc = .ok (.ireturn, 1) → W p l e room_1 s m #[Value.ref b] below meth c H locs 600000 7302250 Q (F0 m pc ls [.int (zI 1)]))
    (hf : fL_law zF zL0 zsc zX0 zM0 0 = some 1) (ls : Array Slot) (hl : lv_has ls 4 [(0, .ref b)]) : W p l e room_1 s m #[Value.ref b] below meth c s.heap [] 0 0 Q (F0 m 0 ls []) := by
  have hP : va_P D vwCl [] s.heap := fun k q h => by simp at h
  have hD : va_D A [] := ⟨fun i j p q h => by simp at h, fun k q h => by simp at h⟩
  have hS : va_S A s.heap s.heap [] := va_S.rf
  refine znL_7 C0 hP hD hS (Nat.le_of_ble_eq_true rfl) (Nat.le_of_ble_eq_true rfl) dL_law_0 (fun q1 H hP hD hS => ?_)
  refine z_dup C0 dL_law_3 rfl ?_
  refine z_callIC (rest := [.ref q1]) (wr := []) (wc := [(q1, .inr (3, [.null, .null, .null, .null, .null, .null, .null, .null, .null, .null, .int (zI 0), .int (zI 0), .int (zI 0), .int (zI 0)]))]) (wf := fun h => (wX h cI (fun _ => 0) (fun _ => 0) (fun _ => 0) zS3 (zk_R (fun _ => 0) (fun _ => 0) (fun _ => 0) 0) (zk_R (fun _ => 0) (fun _ => 0) (fun _ => 0) 0) (zk_R (fun _ => 0) (fun _ => 0) (fun _ => 0) 0) (zk_G (fun _ => 0) (fun _ => 0) (fun _ => 0) (fun _ => 0) (fun _ => 0) (fun _ => 0) 0) (zk_S (fun _ => 0) 0 0 0 0) (fun _ => 0) 0 0 0 0)) C0 hP hD hS hcl (zmX3_init l D cI cZ q1 _) (z_cwI zw555 zw556 zw80 zw557 rfl rfl rfl (by decide +kernel) ⟨by decide, by decide⟩ C0.2.2.2.2.1) hl.1 (Nat.le_of_ble_eq_true rfl) dL_law_4 ⟨Nat.le_of_ble_eq_true rfl, Nat.le_of_ble_eq_true rfl⟩ (fun h H1 locs1 he hP1 hD1 hS1 => ?_)
  refine z_astore_n C0 [(1, .ref q1), (0, .ref b)] dL_law_7 rfl hl (by decide) rfl (fun ls hl => ?_)
  refine znL_10 C0 hP1 hD1 hS1 (Nat.le_of_ble_eq_true rfl) (Nat.le_of_ble_eq_true rfl) dL_law_8 (fun q2 H2 hP2 hD2 hS2 => ?_)
  refine z_dup C0 dL_law_11 rfl ?_
  refine z_callI (rest := [.ref q2]) (wr := [] ++ (wX h cI (fun _ => 0) (fun _ => 0) (fun _ => 0) zS3 (zk_R (fun _ => 0) (fun _ => 0) (fun _ => 0) 0) (zk_R (fun _ => 0) (fun _ => 0) (fun _ => 0) 0) (zk_R (fun _ => 0) (fun _ => 0) (fun _ => 0) 0) (zk_G (fun _ => 0) (fun _ => 0) (fun _ => 0) (fun _ => 0) (fun _ => 0) (fun _ => 0) 0) (zk_S (fun _ => 0) 0 0 0 0) (fun _ => 0) 0 0 0 0)) (wc := [(q2, .inr (4, [.null, .null, .null, .null, .null, .null, .int (zI 0), .null, .null, .null, .int (zI 0), .int (zI 0), .null, .null, .int (zI 0), .null, .null, .null, .int (zI 0), .int (zI 0), .null, .int (zI 0), .int (zI 0), .int (zI 0), .int (zI 0), .int (zI 0), .int (zI 0), .int (zI 0)]))]) (wf := fun h => (wM h cI cZ (fun _ => 0) (fun _ => 0) (fun _ => 0) (zu (zu (zu (zu (fun _ => 0) 0 20) 1 5) 2 2) 3 1) (zu (zu (zu (zu (fun _ => 0) 0 0) 1 0) 2 2) 3 0) (zu (zu (zu (zu (fun _ => 0) 0 100) 1 40) 2 6) 3 3) 0 (fun _ => 0) (fun _ => 0) (fun _ => 0) 0 0 (fun _ => 0) (fun _ => 0) 0 (fun _ => 0) (fun _ => 0) (fun _ => 0) 0 0 (fun _ => 0) 0 0 0 0 0 0 0)) C0 hP2 hD2 hS2 (zmX4_init l D cI cZ q2 _) (z_cwI zw558 zw559 zw241 zw560 rfl rfl rfl (by decide +kernel) ⟨by decide, by decide⟩ C0.2.2.2.2.1) hl.1 (Nat.le_of_ble_eq_true rfl) dL_law_12 ⟨Nat.le_of_ble_eq_true rfl, Nat.le_of_ble_eq_true rfl⟩ (fun h2 H3 locs3 he2 hP3 hD3 hS3 => ?_)
  refine z_astore_n C0 [(2, .ref q2), (1, .ref q1), (0, .ref b)] dL_law_15 rfl hl (by decide) rfl (fun ls hl => ?_)
  refine z_iconst C0 dL_law_16 ?_
  refine z_istore_n C0 [(3, .int (zI 0)), (2, .ref q2), (1, .ref q1), (0, .ref b)] dL_law_17 rfl hl (by decide) rfl (fun ls hl => ?_)
  subst he
  subst he2
  refine W.widen (k := 600000) (n := 7302250) (Nat.le_of_ble_eq_true rfl) (Nat.le_of_ble_eq_true rfl) ?_
  exact law_loop C0 hX hbl hbA hL hsc hZ hret zF zX0 zM0 0 hf _ _ hP3 (zD hD3 rfl) hS3 ls (lv_sub hl [3, 2, 1, 0] rfl)
set_option maxHeartbeats 8000000 in
set_option maxRecDepth 100000 in
theorem zknown {s : State} {args : Array Value} (ht : ∀ w ∈ zTb, w.before args s = true) : ∃ (D : va_G) (cI cZ : ClassId), va_K D vwCl (zTY cI cZ) s := by
  obtain ⟨c0, i0, h0⟩ := u_known (C := RX0) (T := TX0) (N := 7) (n := 7) ht zinX0 (ht _ zw396)
  obtain ⟨c1, i1, h1⟩ := u_known (C := RX1) (T := TX1) (N := 5) (n := 5) ht zinX1 (ht _ zw401)
  obtain ⟨c2, i2, h2⟩ := u_known (C := RX2) (T := TX2) (N := 4) (n := 4) ht zinX2 (ht _ zw391)
  obtain ⟨c3, i3, h3⟩ := u_known (C := RX3) (T := TX3) (N := 14) (n := 14) ht zinX3 (ht _ zw552)
  obtain ⟨c4, i4, h4⟩ := u_known (C := RX4) (T := TX4) (N := 28) (n := 28) ht zinX4 (ht _ zw554)
  obtain ⟨cI, kI, compI, a1, a2, a3⟩ := Cond.arrayClass_spec (type := .int) (ht _ zw379)
  obtain ⟨cZ, kZ, compZ, b1, b2, b3⟩ := Cond.arrayClass_spec (type := .boolean) (ht _ zw406)
  refine ⟨(fun k => if k = 0 then c0 else if k = 1 then c1 else if k = 2 then c2 else if k = 3 then c3 else c4, fun k => if k = 0 then i0 else if k = 1 then i1 else if k = 2 then i2 else if k = 3 then i3 else i4), cI, cZ, ?_, ?_⟩
  · intro k q hq
    match k, hq with
    | 0, hq => cases hq; exact h0
    | 1, hq => cases hq; exact h1
    | 2, hq => cases hq; exact h2
    | 3, hq => cases hq; exact h3
    | 4, hq => cases hq; exact h4
    | k + 5, hq => simp [vwCl] at hq
  · intro k q hq
    match k, hq with
    | 0, hq => cases hq; exact ⟨fun n z => ⟨fun k h => (by cases h), kI, a2, compI, a3⟩, a1⟩
    | 1, hq => cases hq; exact ⟨fun n z => ⟨fun k h => (by cases h), kZ, b2, compZ, b3⟩, b1⟩
    | k + 2, hq => simp at hq
