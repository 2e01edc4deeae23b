/-! ===== the script, and calls over a part of the world ===== -/
def zScr (b L : Nat) (zsc : Nat → Int) (A : Nat → Prop) (U : State) (H : Heap) : Prop := va_X b L (fun j => zI (zsc j)) U H ∧ b < H.size ∧ ¬ A b ∧ L < 2147483648
theorem zScr_go {b L : Nat} {zsc : Nat → Int} {A B : Nat → Prop} {s U : State} {H : Heap} {locs : List Loc} (h : zScr b L zsc A s s.heap) (hS : va_S A s.heap H locs) (hU : U.heap = H) (hW : s.WarmedH U.vm) (hAB : ∀ q, B q → A q) : zScr b L zsc B U U.heap := by
  obtain ⟨h1, h2, h3, h4⟩ := h
  rw [hU]
  exact ⟨va_X.moved hW.alike (h1.kept (hS.2.1 b h2 h3)), Nat.lt_of_lt_of_le h2 hS.1, fun q => h3 (hAB b q), h4⟩
def zPreX (b L : Nat) (zsc : Nat → Int) (D : va_G) (cI cZ : ClassId) (ws : va_W) (sz : Nat) (U : State) : Prop := zPreS D cI cZ ws sz U ∧ zScr b L zsc (va_A ws sz) U U.heap
theorem zPreX_blind {b L : Nat} {zsc : Nat → Int} {av : List Value} {D : va_G} {cI cZ : ClassId} {ws : va_W} {sz : Nat} : FrameBlind (va_Pc av (zPreX b L zsc D cI cZ ws sz)) := fun a U g mk q => by
  obtain ⟨q0, q1, x1, x2, x3, x4⟩ := q
  obtain ⟨_, r1⟩ := zPreS_blind a U g mk (show va_Pc av (zPreS D cI cZ ws sz) a U from ⟨q0, q1⟩)
  have hal : U.vm.Alike (U.calling g mk a).vm := Vm.Alike.refl U.vm
  exact ⟨q0, r1, va_X.moved hal x1, x2, x3, x4⟩
theorem zPreX_ok {b L : Nat} {zsc : Nat → Int} {D : va_G} {cI cZ : ClassId} {A A' : Nat → Prop} {ws : va_W} {s : State} {H : Heap} {locs : List Loc} (hP : va_P D vwCl ws H) (hK : va_K D vwCl (zTY cI cZ) s) (hD : va_D A' ws) (hZ : zSt A s s.heap) (hX : zScr b L zsc A s s.heap) (hS : va_S A s.heap H locs) (hF : ∀ q, va_A ws H.size q → A q) : ∀ U : State, U.heap = H → s.WarmedH U.vm → zPreX b L zsc D cI cZ ws H.size U := fun U hU hW => by
  refine ⟨zPreS_ok hP hK hD hZ hS hF U hU hW, ?_⟩
  have h := zScr_go hX hS hU hW hF
  exact h
/-! worlds in another order -/
theorem zP_mem {D : va_G} {ws ws' : va_W} {H : Heap} (h : va_P D vwCl ws H) (hs : ∀ q, q ∈ ws' → q ∈ ws) : va_P D vwCl ws' H := fun k q hk => by
  obtain ⟨j, hj⟩ := List.getElem?_of_mem (hs q (List.mem_of_getElem? hk))
  exact h j q hj
theorem zD_app {A : Nat → Prop} {a b : va_W} (ha : va_D A a) (hb : va_D A b) (hab : ∀ (i j : Nat) (x y : Nat × va_E), a[i]? = some x → b[j]? = some y → x.1 ≠ y.1) : va_D A (a ++ b) := by
  refine ⟨fun i j x y hx hy hxy => ?_, fun k q hq => ?_⟩
  · by_cases hi : i < a.length
    · rw [List.getElem?_append_left hi] at hx
      by_cases hj : j < a.length
      · rw [List.getElem?_append_left hj] at hy
        exact ha.1 i j x y hx hy hxy
      · rw [List.getElem?_append_right (by omega)] at hy
        exact absurd hxy (hab _ _ _ _ hx hy)
    · rw [List.getElem?_append_right (by omega)] at hx
      by_cases hj : j < a.length
      · rw [List.getElem?_append_left hj] at hy
        exact absurd hxy.symm (hab _ _ _ _ hy hx)
      · rw [List.getElem?_append_right (by omega)] at hy
        have := hb.1 _ _ x y hx hy hxy
        omega
  · by_cases hi : k < a.length
    · rw [List.getElem?_append_left hi] at hq
      exact ha.2 k q hq
    · rw [List.getElem?_append_right (by omega)] at hq
      exact hb.2 _ q hq
theorem zD_swap {A : Nat → Prop} {a b : va_W} (h : va_D A (a ++ b)) : va_D A (b ++ a) := zD_app (zD_right h) (zD_left h) (fun i j x y hx hy e => zD_apart h hy hx e.symm)
section ZCV
variable {D : va_G} {A : Nat → Prop} {a b c : va_W} {H : Heap}
theorem zc0 (h : va_P D vwCl a H) : va_P D vwCl (([] : va_W) ++ a) H := h
theorem zd0 (h : va_D A a) : va_D A (([] : va_W) ++ a) := h
theorem zb0 (h : va_P D vwCl (([] : va_W) ++ a) H) : va_P D vwCl a H := h
theorem zc1n (h : va_P D vwCl a H) : va_P D vwCl (a ++ []) H := by rw [List.append_nil]; exact h
theorem zd1n (h : va_D A a) : va_D A (a ++ []) := by rw [List.append_nil]; exact h
theorem zb1n (h : va_P D vwCl (a ++ []) H) : va_P D vwCl a H := by rw [List.append_nil] at h; exact h
theorem zc20 (h : va_P D vwCl (a ++ b) H) : va_P D vwCl (a ++ b) H := h
theorem zd20 (h : va_D A (a ++ b)) : va_D A (a ++ b) := h
theorem zb20 (h : va_P D vwCl (a ++ b) H) : va_P D vwCl (a ++ b) H := h
theorem zc21 (h : va_P D vwCl (a ++ b) H) : va_P D vwCl (b ++ a) H := zP_mem h (fun q m => by rw [List.mem_append] at m ⊢; exact m.symm)
theorem zd21 (h : va_D A (a ++ b)) : va_D A (b ++ a) := zD_swap h
theorem zb21 (h : va_P D vwCl (b ++ a) H) : va_P D vwCl (a ++ b) H := zc21 h
theorem zc2n (h : va_P D vwCl (a ++ b) H) : va_P D vwCl ((a ++ b) ++ []) H := zc1n h
theorem zd2n (h : va_D A (a ++ b)) : va_D A ((a ++ b) ++ []) := zd1n h
theorem zb2n (h : va_P D vwCl ((a ++ b) ++ []) H) : va_P D vwCl (a ++ b) H := zb1n h
theorem zc30 (h : va_P D vwCl (a ++ b ++ c) H) : va_P D vwCl (a ++ (b ++ c)) H := by rw [← List.append_assoc]; exact h
theorem zd30 (h : va_D A (a ++ b ++ c)) : va_D A (a ++ (b ++ c)) := by rw [← List.append_assoc]; exact h
theorem zb30 (h : va_P D vwCl (a ++ (b ++ c)) H) : va_P D vwCl (a ++ b ++ c) H := by rw [List.append_assoc]; exact h
theorem zc31 (h : va_P D vwCl (a ++ b ++ c) H) : va_P D vwCl (b ++ (a ++ c)) H := zP_mem h (fun q m => by
  simp only [List.mem_append] at m ⊢
  rcases m with m | m | m
  · exact Or.inl (Or.inr m)
  · exact Or.inl (Or.inl m)
  · exact Or.inr m)
theorem zb31 (h : va_P D vwCl (b ++ (a ++ c)) H) : va_P D vwCl (a ++ b ++ c) H := zP_mem h (fun q m => by
  simp only [List.mem_append] at m ⊢
  rcases m with (m | m) | m
  · exact Or.inr (Or.inl m)
  · exact Or.inl m
  · exact Or.inr (Or.inr m))
theorem zd3ba (h : va_D A (a ++ b ++ c)) : va_D A (b ++ a ++ c) := zD_app (zD_swap (zD_left h)) (zD_right h) (fun i j x y hx hy => by
  obtain ⟨k, hk⟩ := List.getElem?_of_mem (show x ∈ a ++ b by have := List.mem_of_getElem? hx; rw [List.mem_append] at this ⊢; exact this.symm)
  exact zD_apart h hk hy)
theorem zd31 (h : va_D A (a ++ b ++ c)) : va_D A (b ++ (a ++ c)) := zd30 (zd3ba h)
theorem zc3b (h : va_P D vwCl (a ++ b ++ c) H) : va_P D vwCl (a ++ b ++ c) H := h
theorem zd3b (h : va_D A (a ++ b ++ c)) : va_D A (a ++ b ++ c) := h
theorem zb3b (h : va_P D vwCl (a ++ b ++ c) H) : va_P D vwCl (a ++ b ++ c) H := h
theorem zc3ba (h : va_P D vwCl (a ++ b ++ c) H) : va_P D vwCl (b ++ a ++ c) H := zP_mem h (fun q m => by
  simp only [List.mem_append] at m ⊢
  rcases m with (m | m) | m
  · exact Or.inl (Or.inr m)
  · exact Or.inl (Or.inl m)
  · exact Or.inr m)
theorem zb3ba (h : va_P D vwCl (b ++ a ++ c) H) : va_P D vwCl (a ++ b ++ c) H := zc3ba h
theorem zapp4 {x y z w : Nat × va_E} (h : va_P D vwCl (a ++ [x] ++ [y] ++ [z] ++ [w]) H) : va_P D vwCl (a ++ ([x, y, z, w] : va_W)) H := zP_mem h (fun q m => by
  simp only [List.mem_append, List.mem_cons, List.not_mem_nil, or_false] at m ⊢
  rcases m with m | m | m | m | m
  · exact Or.inl (Or.inl (Or.inl (Or.inl m)))
  · exact Or.inl (Or.inl (Or.inl (Or.inr m)))
  · exact Or.inl (Or.inl (Or.inr m))
  · exact Or.inl (Or.inr m)
  · exact Or.inr m)
theorem zapp4D {x y z w : Nat × va_E} (h : va_D A (a ++ [x] ++ [y] ++ [z] ++ [w])) : va_D A (a ++ ([x, y, z, w] : va_W)) := by
  have e : a ++ [x] ++ [y] ++ [z] ++ [w] = a ++ [x, y, z, w] := by simp
  rw [e] at h
  exact h
end ZCV
section ZQ
variable {p : Program} {l : Launch} {e : Env} {R : Room} {s : State} {m : MethodId} {args : Array Value} {below : List Frame} {meth : Method} {c : Code} {H : Heap} {locs : List Loc} {cells slots : Nat} {Q : State → Prop}
variable {cc : ByteArray} {pc nL : Nat} {ls : Array Slot} {rest : List Value} {D : va_G} {cI cZ : ClassId} {A : Nat → Prop} {own : String} {x y : Int}
theorem z_irem (C0 : zC p s m args c D cI cZ A cc nL own) (hy : ¬ zE y 0) (hdg : decode cc pc = .ok (.irem, 1)) (k : W p l e R s m args below meth c H locs cells slots Q (F0 m (pc + 1) ls (.int (zI (zirem x y)) :: rest))) : W p l e R s m args below meth c H locs cells slots Q (F0 m pc ls (.int (zI y) :: .int (zI x) :: rest)) := lv_irem C0.1 C0.2.1 hdg hy (by unfold zirem at k; rw [zI_toInt] at k; exact k)
theorem z_enterX_i {b L : Nat} {zsc : Nat → Int} {y : MethodName} {cc : ByteArray} {maxL : Nat} {rm : Room} {av : List Value} {D : va_G} {cI cZ : ClassId} {ws w1 : va_W} {sz : Nat} {own : String} {r : Int} (hy : plainName y.cls = true) (hown : y.cls = own) (hmax : (lg_sl av).length ≤ maxL)
    (body : ∀ (p : Program) (e : Env) (s : State) (m : MethodId) (args : Array Value) (below : List Frame) (meth : Method) (c : Code) (A : Nat → Prop) (Q : State → Prop), zC p s m args c D cI cZ A cc maxL own → va_P D vwCl ws s.heap → va_D A ws → va_S A s.heap s.heap [] → zSt A s s.heap → zScr b L zsc A s s.heap → (∀ {pc : Nat} {H : Heap} {locs : List Loc} {ls : Array Slot}, va_P D vwCl w1 H → va_S A s.heap H locs → decode cc pc = .ok (.ireturn, 1) → W p l e rm s m args below meth c H locs 0 0 Q (F0 m pc ls [.int (zI r)])) → ∀ ls : Array Slot, lv_has ls maxL (lv_args 0 av) → W p l e rm s m args below meth c s.heap [] 0 0 Q (F0 m 0 ls [])) :
    Met l y (zW y cc maxL (some .int)) rm (va_Pc av (zPreX b L zsc D cI cZ ws sz)) (va_Qi (fun r' (_ : Unit) => r' = zI r) (fun _ t => va_P D vwCl w1 t.heap) (va_A ws sz)) 0 0 (va_A ws sz) := by
  refine Met.ofW (cc := cc) (maxL := maxL) (ret := some .int) hy rfl ?_
  intro p e s m args below meth c s₁ B0 hml hv
  obtain ⟨rfl, ⟨⟨hsz, hP, hK, hD0⟩, hZ⟩, hX⟩ := hv
  have hts := atoms_spec (ws := zW y cc maxL (some .int)) B0.pre
  have hown' : s.vm.findClass own = some m.cls := hown ▸ findClass_of_methodNamed B0.named
  subst hsz
  rw [lg_entry_eq]
  have C0 : zC p s m av.toArray c D cI cZ (va_A ws s.heap.size) cc maxL own := ⟨B0.exec, B0.bytes, hml, hown', fun w hw => hts w (List.mem_cons_of_mem _ hw), hK, fun q h => Or.inr h⟩
  exact body p e s m _ below meth c _ _ C0 hP hD0.self va_S.rf hZ hX (fun hP hS hd => z_iret C0 B0.returns B0.notSynchronized hP hS hd) _ (lv_entry av hmax)
theorem z_enterX_z {b L : Nat} {zsc : Nat → Int} {y : MethodName} {cc : ByteArray} {maxL : Nat} {rm : Room} {av : List Value} {D : va_G} {cI cZ : ClassId} {ws w1 : va_W} {sz : Nat} {own : String} {r : Int} (hy : plainName y.cls = true) (hown : y.cls = own) (hmax : (lg_sl av).length ≤ maxL)
    (body : ∀ (p : Program) (e : Env) (s : State) (m : MethodId) (args : Array Value) (below : List Frame) (meth : Method) (c : Code) (A : Nat → Prop) (Q : State → Prop), zC p s m args c D cI cZ A cc maxL own → va_P D vwCl ws s.heap → va_D A ws → va_S A s.heap s.heap [] → zSt A s s.heap → zScr b L zsc A s s.heap → (∀ {pc : Nat} {H : Heap} {locs : List Loc} {ls : Array Slot}, (r = 0 ∨ r = 1) → va_P D vwCl w1 H → va_S A s.heap H locs → decode cc pc = .ok (.ireturn, 1) → W p l e rm s m args below meth c H locs 0 0 Q (F0 m pc ls [.int (zI r)])) → ∀ ls : Array Slot, lv_has ls maxL (lv_args 0 av) → W p l e rm s m args below meth c s.heap [] 0 0 Q (F0 m 0 ls [])) :
    Met l y (zW y cc maxL (some .boolean)) rm (va_Pc av (zPreX b L zsc D cI cZ ws sz)) (va_Qi (fun r' (_ : Unit) => r' = zI r) (fun _ t => va_P D vwCl w1 t.heap) (va_A ws sz)) 0 0 (va_A ws sz) := by
  refine Met.ofW (cc := cc) (maxL := maxL) (ret := some .boolean) hy rfl ?_
  intro p e s m args below meth c s₁ B0 hml hv
  obtain ⟨rfl, ⟨⟨hsz, hP, hK, hD0⟩, hZ⟩, hX⟩ := hv
  have hts := atoms_spec (ws := zW y cc maxL (some .boolean)) B0.pre
  have hown' : s.vm.findClass own = some m.cls := hown ▸ findClass_of_methodNamed B0.named
  subst hsz
  rw [lg_entry_eq]
  have C0 : zC p s m av.toArray c D cI cZ (va_A ws s.heap.size) cc maxL own := ⟨B0.exec, B0.bytes, hml, hown', fun w hw => hts w (List.mem_cons_of_mem _ hw), hK, fun q h => Or.inr h⟩
  exact body p e s m _ below meth c _ _ C0 hP hD0.self va_S.rf hZ hX (fun hz hP hS hd => z_zret C0 B0.returns B0.notSynchronized hz hP hS hd) _ (lv_entry av hmax)
theorem z_qVi {y : MethodName} {bytes : ByteArray} {maxL n index : Nat} {ret : Option FieldType} {rm : Room} {r : Int} {wa wb w1 : va_W} {C : String} {b : Nat} {As st0 : List Value} {fs : List Value} {T : u_T} {N : Nat} (C0 : zC p s m args c D cI cZ A cc nL own) (hP : va_P D vwCl (wa ++ wb) H) (hD : va_D A (wa ++ wb)) (hS : va_S A s.heap H locs) 
    (hM : Met l y (zW y bytes maxL ret) rm (va_Pc (.ref b :: As) (zPre D cI cZ wa H.size)) (va_Qi (fun r' (_ : Unit) => r' = zI r) (fun _ t => va_P D vwCl w1 t.heap) (va_A wa H.size)) 0 0 (va_A wa H.size)) (cw : CallW R s args own C index y bytes maxL ret (zW y bytes maxL ret) rm 0 0 n) (ci : Nat) (he : wa[0]? = some (b, .inr (ci, fs))) (hci : vwCl[ci]? = some (C, T, N))
    (hst : st0 = As.reverse ++ .ref b :: rest) (hlen : As.length = n) (hls : ls.size = nL) (hroom : (rest.map fun v => v.category).sum ≤ 8) (hdg : decode cc pc = .ok (.invokevirtual index, 3)) (hcs : cells ≤ R.cells ∧ slots ≤ R.slots)
    (kk : ∀ (H1 : Heap) (locs1 : List Loc), va_P D vwCl (w1 ++ wb) H1 → va_S A s.heap H1 locs1 → W p l e R s m args below meth c H1 locs1 cells slots Q (F0 m (pc + 3) ls (.int (zI r) :: rest))) : W p l e R s m args below meth c H locs cells slots Q (F0 m pc ls st0) := by
  have hF := zF_of (zD_left hD) hS C0.2.2.2.2.2.2
  refine va_calli (va_runV ⟨C0.1, C0.2.1, C0.2.2.1, C0.2.2.2.1, C0.2.2.2.2.1⟩ hM cw ⟨zPre_blind, va_recv (q0 := 0) C0.2.2.2.2.2.1 (zP_left hP) hci he, fun U hU hW => ⟨rfl, zPre_ok (zP_left hP) C0.2.2.2.2.2.1 (zD_left hD) U hU hW⟩⟩ rfl hlen hls hst (lv_room hroom) hdg hcs) hS (fun q _ h => hF q h) hF (fun r' u t H1 locs1 ht hvm hr hB hz1 hk1 hS1 => ?_)
  subst hr
  rw [ht] at hB
  exact kk H1 locs1 (va_P.app hB (zkeepR hP hD hk1)) hS1
theorem z_qViS {y : MethodName} {bytes : ByteArray} {maxL n index : Nat} {ret : Option FieldType} {rm : Room} {r : Int} {wa wb w1 : va_W} {C : String} {b : Nat} {As st0 : List Value} {fs : List Value} {T : u_T} {N : Nat} (C0 : zC p s m args c D cI cZ A cc nL own) (hP : va_P D vwCl (wa ++ wb) H) (hD : va_D A (wa ++ wb)) (hS : va_S A s.heap H locs) (hZ : zSt A s s.heap) 
    (hM : Met l y (zW y bytes maxL ret) rm (va_Pc (.ref b :: As) (zPreS D cI cZ wa H.size)) (va_Qi (fun r' (_ : Unit) => r' = zI r) (fun _ t => va_P D vwCl w1 t.heap) (va_A wa H.size)) 0 0 (va_A wa H.size)) (cw : CallW R s args own C index y bytes maxL ret (zW y bytes maxL ret) rm 0 0 n) (ci : Nat) (he : wa[0]? = some (b, .inr (ci, fs))) (hci : vwCl[ci]? = some (C, T, N))
    (hst : st0 = As.reverse ++ .ref b :: rest) (hlen : As.length = n) (hls : ls.size = nL) (hroom : (rest.map fun v => v.category).sum ≤ 8) (hdg : decode cc pc = .ok (.invokevirtual index, 3)) (hcs : cells ≤ R.cells ∧ slots ≤ R.slots)
    (kk : ∀ (H1 : Heap) (locs1 : List Loc), va_P D vwCl (w1 ++ wb) H1 → va_S A s.heap H1 locs1 → W p l e R s m args below meth c H1 locs1 cells slots Q (F0 m (pc + 3) ls (.int (zI r) :: rest))) : W p l e R s m args below meth c H locs cells slots Q (F0 m pc ls st0) := by
  have hF := zF_of (zD_left hD) hS C0.2.2.2.2.2.2
  refine va_calli (va_runV ⟨C0.1, C0.2.1, C0.2.2.1, C0.2.2.2.1, C0.2.2.2.2.1⟩ hM cw ⟨zPreS_blind, va_recv (q0 := 0) C0.2.2.2.2.2.1 (zP_left hP) hci he, fun U hU hW => ⟨rfl, zPreS_ok (zP_left hP) C0.2.2.2.2.2.1 (zD_left hD) hZ hS hF U hU hW⟩⟩ rfl hlen hls hst (lv_room hroom) hdg hcs) hS (fun q _ h => hF q h) hF (fun r' u t H1 locs1 ht hvm hr hB hz1 hk1 hS1 => ?_)
  subst hr
  rw [ht] at hB
  exact kk H1 locs1 (va_P.app hB (zkeepR hP hD hk1)) hS1
theorem z_qVl {y : MethodName} {bytes : ByteArray} {maxL n index : Nat} {ret : Option FieldType} {rm : Room} {r : Int} {wa wb w1 : va_W} {C : String} {b : Nat} {As st0 : List Value} {fs : List Value} {T : u_T} {N : Nat} (C0 : zC p s m args c D cI cZ A cc nL own) (hP : va_P D vwCl (wa ++ wb) H) (hD : va_D A (wa ++ wb)) (hS : va_S A s.heap H locs) 
    (hM : Met l y (zW y bytes maxL ret) rm (va_Pc (.ref b :: As) (zPre D cI cZ wa H.size)) (va_Ql (fun r' (_ : Unit) => r' = zL r) (fun _ t => va_P D vwCl w1 t.heap) (va_A wa H.size)) 0 0 (va_A wa H.size)) (cw : CallW R s args own C index y bytes maxL ret (zW y bytes maxL ret) rm 0 0 n) (ci : Nat) (he : wa[0]? = some (b, .inr (ci, fs))) (hci : vwCl[ci]? = some (C, T, N))
    (hst : st0 = As.reverse ++ .ref b :: rest) (hlen : As.length = n) (hls : ls.size = nL) (hroom : (rest.map fun v => v.category).sum ≤ 8) (hdg : decode cc pc = .ok (.invokevirtual index, 3)) (hcs : cells ≤ R.cells ∧ slots ≤ R.slots)
    (kk : ∀ (H1 : Heap) (locs1 : List Loc), va_P D vwCl (w1 ++ wb) H1 → va_S A s.heap H1 locs1 → W p l e R s m args below meth c H1 locs1 cells slots Q (F0 m (pc + 3) ls (.long (zL r) :: rest))) : W p l e R s m args below meth c H locs cells slots Q (F0 m pc ls st0) := by
  have hF := zF_of (zD_left hD) hS C0.2.2.2.2.2.2
  refine va_calll (va_runV ⟨C0.1, C0.2.1, C0.2.2.1, C0.2.2.2.1, C0.2.2.2.2.1⟩ hM cw ⟨zPre_blind, va_recv (q0 := 0) C0.2.2.2.2.2.1 (zP_left hP) hci he, fun U hU hW => ⟨rfl, zPre_ok (zP_left hP) C0.2.2.2.2.2.1 (zD_left hD) U hU hW⟩⟩ rfl hlen hls hst (lv_room hroom) hdg hcs) hS (fun q _ h => hF q h) hF (fun r' u t H1 locs1 ht hvm hr hB hz1 hk1 hS1 => ?_)
  subst hr
  rw [ht] at hB
  exact kk H1 locs1 (va_P.app hB (zkeepR hP hD hk1)) hS1
theorem z_qSi {y : MethodName} {bytes : ByteArray} {maxL n index : Nat} {ret : Option FieldType} {rm : Room} {r : Int} {wa wb w1 : va_W} {As st0 : List Value} (C0 : zC p s m args c D cI cZ A cc nL own) (hP : va_P D vwCl (wa ++ wb) H) (hD : va_D A (wa ++ wb)) (hS : va_S A s.heap H locs) 
    (hM : Met l y (zW y bytes maxL ret) rm (va_Pc As (zPre D cI cZ wa H.size)) (va_Qi (fun r' (_ : Unit) => r' = zI r) (fun _ t => va_P D vwCl w1 t.heap) (va_A wa H.size)) 0 0 (va_A wa H.size)) (cw : CallB R s args own index y bytes maxL ret (zW y bytes maxL ret) rm 0 0 n ∧ (Cond.static y).before args s = true)
    (hst : st0 = As.reverse ++ rest) (hlen : As.length = n) (hls : ls.size = nL) (hroom : (rest.map fun v => v.category).sum ≤ 8) (hdg : decode cc pc = .ok (.invokestatic index, 3)) (hcs : cells ≤ R.cells ∧ slots ≤ R.slots)
    (kk : ∀ (H1 : Heap) (locs1 : List Loc), va_P D vwCl (w1 ++ wb) H1 → va_S A s.heap H1 locs1 → W p l e R s m args below meth c H1 locs1 cells slots Q (F0 m (pc + 3) ls (.int (zI r) :: rest))) : W p l e R s m args below meth c H locs cells slots Q (F0 m pc ls st0) := by
  have hF := zF_of (zD_left hD) hS C0.2.2.2.2.2.2
  refine va_calli (va_runS ⟨C0.1, C0.2.1, C0.2.2.1, C0.2.2.2.1, C0.2.2.2.2.1⟩ hM cw ⟨zPre_blind, fun U hU hW => ⟨rfl, zPre_ok (zP_left hP) C0.2.2.2.2.2.1 (zD_left hD) U hU hW⟩⟩ rfl hlen hls hst (lv_room hroom) hdg hcs) hS (fun q _ h => hF q h) hF (fun r' u t H1 locs1 ht hvm hr hB hz1 hk1 hS1 => ?_)
  subst hr
  rw [ht] at hB
  exact kk H1 locs1 (va_P.app hB (zkeepR hP hD hk1)) hS1
theorem z_qSiS {y : MethodName} {bytes : ByteArray} {maxL n index : Nat} {ret : Option FieldType} {rm : Room} {r : Int} {wa wb w1 : va_W} {As st0 : List Value} (C0 : zC p s m args c D cI cZ A cc nL own) (hP : va_P D vwCl (wa ++ wb) H) (hD : va_D A (wa ++ wb)) (hS : va_S A s.heap H locs) (hZ : zSt A s s.heap) 
    (hM : Met l y (zW y bytes maxL ret) rm (va_Pc As (zPreS D cI cZ wa H.size)) (va_Qi (fun r' (_ : Unit) => r' = zI r) (fun _ t => va_P D vwCl w1 t.heap) (va_A wa H.size)) 0 0 (va_A wa H.size)) (cw : CallB R s args own index y bytes maxL ret (zW y bytes maxL ret) rm 0 0 n ∧ (Cond.static y).before args s = true)
    (hst : st0 = As.reverse ++ rest) (hlen : As.length = n) (hls : ls.size = nL) (hroom : (rest.map fun v => v.category).sum ≤ 8) (hdg : decode cc pc = .ok (.invokestatic index, 3)) (hcs : cells ≤ R.cells ∧ slots ≤ R.slots)
    (kk : ∀ (H1 : Heap) (locs1 : List Loc), va_P D vwCl (w1 ++ wb) H1 → va_S A s.heap H1 locs1 → W p l e R s m args below meth c H1 locs1 cells slots Q (F0 m (pc + 3) ls (.int (zI r) :: rest))) : W p l e R s m args below meth c H locs cells slots Q (F0 m pc ls st0) := by
  have hF := zF_of (zD_left hD) hS C0.2.2.2.2.2.2
  refine va_calli (va_runS ⟨C0.1, C0.2.1, C0.2.2.1, C0.2.2.2.1, C0.2.2.2.2.1⟩ hM cw ⟨zPreS_blind, fun U hU hW => ⟨rfl, zPreS_ok (zP_left hP) C0.2.2.2.2.2.1 (zD_left hD) hZ hS hF U hU hW⟩⟩ rfl hlen hls hst (lv_room hroom) hdg hcs) hS (fun q _ h => hF q h) hF (fun r' u t H1 locs1 ht hvm hr hB hz1 hk1 hS1 => ?_)
  subst hr
  rw [ht] at hB
  exact kk H1 locs1 (va_P.app hB (zkeepR hP hD hk1)) hS1
theorem z_qSiX {bb LL : Nat} {zsc : Nat → Int} {y : MethodName} {bytes : ByteArray} {maxL n index : Nat} {ret : Option FieldType} {rm : Room} {r : Int} {wa wb w1 : va_W} {As st0 : List Value} (C0 : zC p s m args c D cI cZ A cc nL own) (hP : va_P D vwCl (wa ++ wb) H) (hD : va_D A (wa ++ wb)) (hS : va_S A s.heap H locs) (hZ : zSt A s s.heap) (hX : zScr bb LL zsc A s s.heap) 
    (hM : Met l y (zW y bytes maxL ret) rm (va_Pc As (zPreX bb LL zsc D cI cZ wa H.size)) (va_Qi (fun r' (_ : Unit) => r' = zI r) (fun _ t => va_P D vwCl w1 t.heap) (va_A wa H.size)) 0 0 (va_A wa H.size)) (cw : CallB R s args own index y bytes maxL ret (zW y bytes maxL ret) rm 0 0 n ∧ (Cond.static y).before args s = true)
    (hst : st0 = As.reverse ++ rest) (hlen : As.length = n) (hls : ls.size = nL) (hroom : (rest.map fun v => v.category).sum ≤ 8) (hdg : decode cc pc = .ok (.invokestatic index, 3)) (hcs : cells ≤ R.cells ∧ slots ≤ R.slots)
    (kk : ∀ (H1 : Heap) (locs1 : List Loc), va_P D vwCl (w1 ++ wb) H1 → va_S A s.heap H1 locs1 → W p l e R s m args below meth c H1 locs1 cells slots Q (F0 m (pc + 3) ls (.int (zI r) :: rest))) : W p l e R s m args below meth c H locs cells slots Q (F0 m pc ls st0) := by
  have hF := zF_of (zD_left hD) hS C0.2.2.2.2.2.2
  refine va_calli (va_runS ⟨C0.1, C0.2.1, C0.2.2.1, C0.2.2.2.1, C0.2.2.2.2.1⟩ hM cw ⟨zPreX_blind, fun U hU hW => ⟨rfl, zPreX_ok (zP_left hP) C0.2.2.2.2.2.1 (zD_left hD) hZ hX hS hF U hU hW⟩⟩ rfl hlen hls hst (lv_room hroom) hdg hcs) hS (fun q _ h => hF q h) hF (fun r' u t H1 locs1 ht hvm hr hB hz1 hk1 hS1 => ?_)
  subst hr
  rw [ht] at hB
  exact kk H1 locs1 (va_P.app hB (zkeepR hP hD hk1)) hS1
end ZQ
