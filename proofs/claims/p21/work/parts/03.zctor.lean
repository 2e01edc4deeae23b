/-! ===== new cells: rows, constructors' entries and calls; worlds of two parts ===== -/
theorem zP_left {D : va_G} {a b : va_W} {H : Heap} (h : va_P D vwCl (a ++ b) H) : va_P D vwCl a H := fun k q hk => h k q (by rw [List.getElem?_append_left (List.getElem?_eq_some_iff.mp hk).1]; exact hk)
theorem zP_right {D : va_G} {a b : va_W} {H : Heap} (h : va_P D vwCl (a ++ b) H) : va_P D vwCl b H := fun k q hk => h (a.length + k) q (by rw [List.getElem?_append_right (by omega)]; simpa using hk)
theorem zD_left {A : Nat → Prop} {a b : va_W} (h : va_D A (a ++ b)) : va_D A a :=
  ⟨fun i j x y hx hy e => h.1 i j x y (by rw [List.getElem?_append_left (List.getElem?_eq_some_iff.mp hx).1]; exact hx) (by rw [List.getElem?_append_left (List.getElem?_eq_some_iff.mp hy).1]; exact hy) e, fun k q hk => h.2 k q (by rw [List.getElem?_append_left (List.getElem?_eq_some_iff.mp hk).1]; exact hk)⟩
theorem zD_right {A : Nat → Prop} {a b : va_W} (h : va_D A (a ++ b)) : va_D A b :=
  ⟨fun i j x y hx hy e => by
    have := h.1 (a.length + i) (a.length + j) x y (by rw [List.getElem?_append_right (by omega)]; simpa using hx) (by rw [List.getElem?_append_right (by omega)]; simpa using hy) e
    omega, fun k q hk => h.2 (a.length + k) q (by rw [List.getElem?_append_right (by omega)]; simpa using hk)⟩
theorem zD_apart {A : Nat → Prop} {a b : va_W} (h : va_D A (a ++ b)) {i j : Nat} {x y : Nat × va_E} (hx : a[i]? = some x) (hy : b[j]? = some y) : x.1 ≠ y.1 := by
  intro e
  have hl := (List.getElem?_eq_some_iff.mp hx).1
  have := h.1 i (a.length + j) x y (by rw [List.getElem?_append_left hl]; exact hx) (by rw [List.getElem?_append_right (by omega)]; simpa using hy) e
  omega
/-- the other part of a world stays through a call that is handed the one part -/
theorem zkeepL {A : Nat → Prop} {D : va_G} {a b : va_W} {H H1 : Heap} (hP : va_P D vwCl (a ++ b) H) (hD : va_D A (a ++ b)) (hk : ∀ q : Nat, q < H.size → ¬ va_A b H.size q → H1[q]? = H[q]?) : va_P D vwCl a H1 := by
  intro k q hq
  have h1 := zP_left hP k q hq
  refine h1.kept (hk q.1 h1.lt (fun h => ?_))
  rcases h with ⟨k2, e, h⟩ | h
  · exact zD_apart hD hq h rfl
  · have := h1.lt
    omega
theorem zkeepR {A : Nat → Prop} {D : va_G} {a b : va_W} {H H1 : Heap} (hP : va_P D vwCl (a ++ b) H) (hD : va_D A (a ++ b)) (hk : ∀ q : Nat, q < H.size → ¬ va_A a H.size q → H1[q]? = H[q]?) : va_P D vwCl b H1 := by
  intro k q hq
  have h1 := zP_right hP k q hq
  refine h1.kept (hk q.1 h1.lt (fun h => ?_))
  rcases h with ⟨k2, e, h⟩ | h
  · exact zD_apart hD h hq rfl
  · have := h1.lt
    omega
theorem zjoinR {A : Nat → Prop} {D : va_G} {a b b1 : va_W} {H H1 : Heap} (hP : va_P D vwCl (a ++ b) H) (hD : va_D A (a ++ b)) (hk : ∀ q : Nat, q < H.size → ¬ va_A b H.size q → H1[q]? = H[q]?) (hF : ∀ q, va_A b H.size q → A q) (hP1 : va_P D vwCl b1 H1) (hD1 : va_D (va_A b H.size) b1) : va_P D vwCl (a ++ b1) H1 ∧ va_D A (a ++ b1) := by
  refine ⟨va_P.app (zkeepL hP hD hk) hP1, va_D.app (zD_left hD) (hD1.weaken (fun k q _ h => hF q.1 h)) (fun i j x y hx hy e => ?_)⟩
  have hlt := (zP_left hP i x hx).lt
  rcases hD1.2 j y hy with ⟨k2, e2, h⟩ | h
  · exact zD_apart hD hx h e
  · omega
theorem zF_of {A : Nat → Prop} {ws : va_W} {H0 H : Heap} {locs : List Loc} (hD : va_D A ws) (hS : va_S A H0 H locs) (hA : ∀ q, H0.size ≤ q → A q) : ∀ q, va_A ws H.size q → A q := fun q h => by
  rcases h with ⟨k, e, h⟩ | h
  · exact hD.2 k (q, e) h
  · exact hA q (Nat.le_trans hS.1 h)
/-- the array that the constructor copies -/
def zCl (A : Nat → Prop) (U : State) (H : Heap) : Prop := ∃ (t : Nat) (cell : Cell) (cC : ClassId), va_Z "CounterHouse" "SETTING_AT_FIRST" "[I" (.ref t) A U H ∧ H[t]? = some cell ∧ cell.vm.isStatics = false ∧ cell.vm ≠ .unknown ∧ cell.slots = (arrV cell.cls 4 (fun j => .int (za zS3 j))).slots ∧ U.vm.findClass "[I" = some cell.cls ∧ U.vm.findClass "java/lang/Cloneable" = some cC ∧ U.vm.assignable cell.cls cC = true ∧ ¬ A t
theorem zCl_moved {A : Nat → Prop} {u U : State} {H : Heap} (hvm : u.vm.Alike U.vm) (h : zCl A u H) : zCl A U H := by
  obtain ⟨t, cell, cC, h1, h2, h3, h4, h5, h6, h7, h8, h9⟩ := h
  exact ⟨t, cell, cC, va_Z.moved hvm h1, h2, h3, h4, h5, by rw [hvm.findClass]; exact h6, by rw [hvm.findClass]; exact h7, by rw [hvm.assignable]; exact h8, h9⟩
theorem zCl_go {A B : Nat → Prop} {s U : State} {H : Heap} {locs : List Loc} (h : zCl A s s.heap) (hS : va_S A s.heap H locs) (hU : U.heap = H) (hW : s.WarmedH U.vm) (hAB : ∀ q, B q → A q) : zCl B U U.heap := by
  refine zCl_moved hW.alike ?_
  obtain ⟨t, cell, cC, h1, h2, h3, h4, h5, h6, h7, h8, h9⟩ := h
  rw [hU]
  exact ⟨t, cell, cC, (h1.kept hS.2.1).narrow hAB, by rw [hS.2.1 t (Array.getElem?_eq_some_iff.mp h2).1 h9]; exact h2, h3, h4, h5, h6, h7, h8, fun z => h9 (hAB t z)⟩
def zPreC (D : va_G) (cI cZ : ClassId) (ws : va_W) (sz : Nat) (U : State) : Prop := zPre D cI cZ ws sz U ∧ zCl (va_A ws sz) U U.heap
theorem zPreC_blind {av : List Value} {D : va_G} {cI cZ : ClassId} {ws : va_W} {sz : Nat} : FrameBlind (va_Pc av (zPreC D cI cZ ws sz)) := fun a U g mk q => by
  obtain ⟨q0, ⟨q1, qP, qK, qD⟩, hc⟩ := q
  have hal : U.vm.Alike (U.calling g mk a).vm := Vm.Alike.refl U.vm
  exact ⟨q0, ⟨q1, qP, va_K.moved (u := U) (U := U.calling g mk a) hal qK, qD⟩, zCl_moved (u := U) (U := U.calling g mk a) hal hc⟩
section ZC
variable {p : Program} {l : Launch} {e : Env} {R : Room} {s : State} {m : MethodId} {args : Array Value} {below : List Frame} {meth : Method} {c : Code} {H : Heap} {locs : List Loc} {cells slots : Nat} {Q : State → Prop}
variable {cc : ByteArray} {pc nL : Nat} {ls : Array Slot} {rest : List Value} {D : va_G} {cI cZ : ClassId} {A : Nat → Prop} {own : String} {ws : va_W} {a : Nat} {x y : Int}
theorem z_objinit (C0 : zC p s m args c D cI cZ A cc nL own) (hls : ls.size = nL) {idx : Nat} (h1 : Cond.methodLink own idx Lib.objectInit ∈ zTb) (h2 : Cond.instanceMethod Lib.objectInit ∈ zTb) (h3 : Cond.code Lib.objectInit ⟨#[0xb1]⟩ 1 none ∈ zTb) (hdg : decode cc pc = .ok (.invokespecial idx, 3)) (hf : 1 ≤ R.frames) (hl : (rest.map fun v => v.category).sum + 12 ≤ R.locals)
    (k : W p l e R s m args below meth c H locs cells slots Q (F0 m (pc + 3) ls rest)) : W p l e R s m args below meth c H locs cells slots Q (F0 m pc ls (.ref a :: rest)) :=
  W.objInit C0.1 C0.2.1 C0.2.2.2.1 (C0.2.2.2.2.1 _ h1) (C0.2.2.2.2.1 _ h2) (C0.2.2.2.2.1 _ h3) rfl (by rw [C0.2.2.1]; exact hls) rfl hdg hf (by show 2 * 0 + _ + 12 ≤ _; omega) k
theorem z_newi (C0 : zC p s m args c D cI cZ A cc nL own) (hP : va_P D vwCl ws H) (hD : va_D A ws) (hS : va_S A s.heap H locs) (N : Nat) (hN : N < 2147483648) (harr : Cond.arrayClass .int ∈ zTb) (hcells : cells + 1 ≤ R.cells) (hslots : slots + N ≤ R.slots) (hb : N * componentBytes .int ≤ 536870912) (hdg : decode cc pc = .ok (.newarray .int, 2))
    (kk : ∀ (q : Nat) (H1 : Heap), va_P D vwCl (ws ++ [(q, .inl (cI, N, .inl (za (fun _ => 0))))]) H1 → va_D A (ws ++ [(q, .inl (cI, N, .inl (za (fun _ => 0))))]) → va_S A s.heap H1 locs → W p l e R s m args below meth c H1 locs (cells + 1) (slots + N) Q (F0 m (pc + 2) ls (.ref q :: rest))) : W p l e R s m args below meth c H locs cells slots Q (F0 m pc ls (.int (zI (N : Int)) :: rest)) := by
  refine va_newa (atype := .int) (ty := .int) (a0 := (N, .inl (za (fun _ => 0)))) C0.1 C0.2.1 (C0.2.2.2.2.1 _ harr) rfl C0.2.2.2.2.2.1 hP hD hS C0.2.2.2.2.2.2 (fun _ => rfl) (by rw [zI_nat]; exact nI_pos (by omega)) (by rw [zI_nat]; exact nI_clamp (by omega)) hb hcells hslots hdg (fun q cA H1 hK1 hP1 hD1 hS1 => ?_)
  have e1 := va_nm_int (hK1.2 1 _ rfl).2
  have e2 := va_nm_int (hK1.2 0 _ rfl).2
  have e3 : cA = cI := Option.some.inj (e1.symm.trans e2)
  subst e3
  exact kk q H1 hP1 hD1 hS1
theorem z_clone (C0 : zC p s m args c D cI cZ A cc nL own) (hls : ls.size = nL) (hP : va_P D vwCl ws H) (hD : va_D A ws) (hS : va_S A s.heap H locs) {cell : Cell} {cC : ClassId} (g1 : s.heap[a]? = some cell) (g2 : cell.vm.isStatics = false) (g3 : cell.vm ≠ .unknown) (g4 : cell.slots = (arrV cell.cls 4 (fun j => .int (za zS3 j))).slots) (g5 : s.vm.findClass "[I" = some cell.cls) (g6 : s.vm.findClass "java/lang/Cloneable" = some cC) (g7 : s.vm.assignable cell.cls cC = true) (g8 : ¬ A a)
    {index : Nat} (h1 : Cond.methodLink own index ⟨"[I", "clone", "()Ljava/lang/Object;"⟩ ∈ zTb) (h2 : Cond.sameMethod "[I" "java/lang/Object" "clone" "()Ljava/lang/Object;" ∈ zTb) (h3 : Cond.native ⟨"java/lang/Object", "clone", "()Ljava/lang/Object;"⟩ ∈ zTb) (h4 : Cond.instanceMethod ⟨"java/lang/Object", "clone", "()Ljava/lang/Object;"⟩ ∈ zTb) (h5 : Cond.selects "[I" ⟨"[I", "clone", "()Ljava/lang/Object;"⟩ ⟨"java/lang/Object", "clone", "()Ljava/lang/Object;"⟩ ∈ zTb)
    (hframes : 1 ≤ R.frames) (hlocals : (rest.map fun v => v.category).sum + 14 ≤ R.locals) (hcells : cells + 1 ≤ R.cells) (hslots : slots + 4 ≤ R.slots) (hdg : decode cc pc = .ok (.invokevirtual index, 3))
    (kk : ∀ (q : Nat) (H1 : Heap), va_P D vwCl (ws ++ [(q, .inl (cI, 4, .inl (za zS3)))]) H1 → va_D A (ws ++ [(q, .inl (cI, 4, .inl (za zS3)))]) → va_S A s.heap H1 locs → W p l e R s m args below meth c H1 locs (cells + 1) (slots + 4) Q (F0 m (pc + 3) ls (.ref q :: rest))) : W p l e R s m args below meth c H locs cells slots Q (F0 m pc ls (.ref a :: rest)) := by
  have hK := C0.2.2.2.2.2.1
  have hsz : cell.slots.size = 4 := by rw [g4]; exact arrV_size _ _ _
  have hcI : cell.cls = cI := Option.some.inj (g5.symm.trans (va_nm_int (hK.2 0 _ rfl).2))
  have hcellE : ({ cls := cell.cls, slots := cell.slots } : Cell) = vp_cell cI (4, .inl (za zS3)) := by
    rw [vp_cell_i, ← hcI]
    rw [g4]
    rfl
  intro T hT X
  have hHt : H[a]? = some cell := by rw [hS.2.1 a (Array.getElem?_eq_some_iff.mp g1).1 g8]; exact g1
  obtain ⟨-, kA, hkA, comp, hkind⟩ := State.isArrayOf_alike X.warmed.alike ((hK.2 0 _ rfl).1 0 (fun _ => .null))
  obtain ⟨-, kS, hkS, compS, hkindS⟩ := (hK.2 0 _ rfl).1 0 (fun _ => .null)
  obtain ⟨vm', X', st⟩ := X.cloneArray C0.1 C0.2.2.2.1 (C0.2.2.2.2.1 _ h1) (C0.2.2.2.2.1 _ h2) (C0.2.2.2.2.1 _ h3) (C0.2.2.2.2.1 _ h4) (C0.2.2.2.2.1 _ h5) (a := a) (cell := cell) (by rw [hT]; exact hHt) (fun k h => by rw [h] at g2; cases g2) g3 g5 g6 g7
    (fun i v hv => by
      have hk' : T.vm.classes[cell.cls]? = some kA := by rw [hcI]; exact hkA
      have hf : fits .int v = true := va_fit (cA := cell.cls) (n := 4) (F := fun j => .int (za zS3 j)) (ty := .int) (fun _ _ => rfl) i v (by rw [← g4]; exact hv)
      simpa [State.fitsSlot, State.slotType?, hk', hkind] using hf)
    (g := F0 m pc ls (.ref a :: rest)) rfl (by rw [C0.2.2.1]; exact hls) rfl (by rw [C0.2.1]; exact hdg) hframes (by show 2 * 0 + _ + 14 ≤ _; omega) hcells (by rw [hsz]; exact hslots) (hloader := by rw [hcI]; exact Vm.clonesLoader_of_array hkS hkindS)
  rw [hcellE, hsz] at X'
  generalize hH1 : H.push (vp_cell cI (4, .inl (za zS3))) = H1
  have z1 : H1.size = H.size + 1 := by rw [← hH1, Array.size_push]
  have e1 : H1[H.size]? = some (vp_cell cI (4, .inl (za zS3))) := by rw [← hH1, Array.getElem?_push_size]
  have o1 : ∀ q : Nat, q < H.size → H1[q]? = H[q]? := fun q hq => by rw [← hH1, Array.getElem?_push, if_neg (Nat.ne_of_lt hq)]
  have hk : ∀ (k : Nat) (y : Nat × va_E), ws[k]? = some y → H1[y.1]? = H[y.1]? := fun k y hy => o1 y.1 ((hP k y hy).lt)
  obtain ⟨t, b1, b2⟩ := kk H.size H1 ((hP.kept hk).app (fun k y hy => by
      have hz : k < 1 := (List.getElem?_eq_some_iff.mp hy).1
      rw [show k = 0 by omega] at hy
      cases hy
      exact e1)) (hD.push hP rfl (C0.2.2.2.2.2.2 _ hS.1)) ⟨Nat.le_trans hS.1 (by omega), fun y h1 h2 => (o1 y (Nat.lt_of_lt_of_le h1 hS.1)).trans (hS.2.1 y h1 h2), hS.2.2⟩
    ((T.setVm vm').pushCell (vp_cell cI (4, .inl (za zS3)))) (by rw [← hH1, ← hT]; rfl) X'
  refine ⟨t, st t ?_, b2⟩
  rw [hcellE, hT]
  exact b1
theorem z_cast (C0 : zC p s m args c D cI cZ A cc nL own) {index : Nat} (hw : Cond.classLink own index "[I" ∈ zTb) (hP : va_P D vwCl ws H) (q0 : Nat) {f : vp_A} (ha : ws[q0]? = some (a, .inl (cI, f))) (hdg : decode cc pc = .ok (.checkcast index, 3)) (k : W p l e R s m args below meth c H locs cells slots Q (F0 m (pc + 3) ls (.ref a :: rest))) : W p l e R s m args below meth c H locs cells slots Q (F0 m pc ls (.ref a :: rest)) :=
  va_castA C0.1 C0.2.1 C0.2.2.2.1 (C0.2.2.2.2.1 _ hw) hP q0 ha (va_nm_int (C0.2.2.2.2.2.1.2 0 _ rfl).2) hdg k
theorem z_enter_c {y : MethodName} {maxL mc ms : Nat} {rm : Room} {av : List Value} {sz : Nat} {B : (Nat → Prop) → Heap → Prop} (hy : plainName y.cls = true) (hown : y.cls = own) (hnm : y.name = "<init>") (hmax : (lg_sl av).length ≤ maxL)
    (body : ∀ (p : Program) (e : Env) (s : State) (m : MethodId) (args : Array Value) (below : List Frame) (meth : Method) (c : Code) (A : Nat → Prop) (Q : State → Prop), zC p s m args c D cI cZ A cc maxL own → meth.name = "<init>" → va_P D vwCl ws s.heap → va_D A ws → va_S A s.heap s.heap [] → (∀ {pc : Nat} {H : Heap} {locs : List Loc} {ls : Array Slot}, B A H → va_S A s.heap H locs → decode cc pc = .ok (.return_, 1) → W p l e rm s m args below meth c H locs mc ms Q (F0 m pc ls [])) → ∀ ls : Array Slot, lv_has ls maxL (lv_args 0 av) → W p l e rm s m args below meth c s.heap [] 0 0 Q (F0 m 0 ls [])) :
    Met l y (zW y cc maxL none) rm (va_Pc av (zPre D cI cZ ws sz)) (va_Qv (fun (_ : Unit) => True) (fun _ t => B (va_A ws sz) t.heap) (va_A ws sz)) mc ms (va_A ws sz) := by
  refine Met.ofW (cc := cc) (maxL := maxL) (ret := none) hy rfl ?_
  intro p e s m args below meth c s₁ B0 hml hv
  obtain ⟨rfl, hsz, hP, hK, hD0⟩ := hv
  have hts := atoms_spec (ws := zW y cc maxL none) B0.pre
  have hown' : s.vm.findClass own = some m.cls := hown ▸ findClass_of_methodNamed B0.named
  have hin : meth.name = "<init>" := (name_of_methodNamed B0.named B0.method).1.trans hnm
  subst hsz
  rw [lg_entry_eq]
  have C0 : zC p s m av.toArray c D cI cZ (va_A ws s.heap.size) cc maxL own := ⟨B0.exec, B0.bytes, hml, hown', fun w hw => hts w (List.mem_cons_of_mem _ hw), hK, fun q h => Or.inr h⟩
  exact body p e s m _ below meth c _ _ C0 hin hP hD0.self va_S.rf (fun hB hS hd => W.vret C0.1 C0.2.1 B0.returns (fun t ht _ => ⟨⟨(), rfl, trivial, by show B _ t.heap; rw [ht]; exact hB⟩, hS.F ht⟩) hS.2.2 hd B0.notSynchronized) _ (lv_entry av hmax)
theorem z_enterC_c {y : MethodName} {maxL mc ms : Nat} {rm : Room} {av : List Value} {sz : Nat} {B : (Nat → Prop) → Heap → Prop} (hy : plainName y.cls = true) (hown : y.cls = own) (hnm : y.name = "<init>") (hmax : (lg_sl av).length ≤ maxL)
    (body : ∀ (p : Program) (e : Env) (s : State) (m : MethodId) (args : Array Value) (below : List Frame) (meth : Method) (c : Code) (A : Nat → Prop) (Q : State → Prop), zC p s m args c D cI cZ A cc maxL own → meth.name = "<init>" → va_P D vwCl ws s.heap → va_D A ws → va_S A s.heap s.heap [] → zCl A s s.heap → (∀ {pc : Nat} {H : Heap} {locs : List Loc} {ls : Array Slot}, B A H → va_S A s.heap H locs → decode cc pc = .ok (.return_, 1) → W p l e rm s m args below meth c H locs mc ms Q (F0 m pc ls [])) → ∀ ls : Array Slot, lv_has ls maxL (lv_args 0 av) → W p l e rm s m args below meth c s.heap [] 0 0 Q (F0 m 0 ls [])) :
    Met l y (zW y cc maxL none) rm (va_Pc av (zPreC D cI cZ ws sz)) (va_Qv (fun (_ : Unit) => True) (fun _ t => B (va_A ws sz) t.heap) (va_A ws sz)) mc ms (va_A ws sz) := by
  refine Met.ofW (cc := cc) (maxL := maxL) (ret := none) hy rfl ?_
  intro p e s m args below meth c s₁ B0 hml hv
  obtain ⟨rfl, ⟨hsz, hP, hK, hD0⟩, hcl⟩ := hv
  have hts := atoms_spec (ws := zW y cc maxL none) B0.pre
  have hown' : s.vm.findClass own = some m.cls := hown ▸ findClass_of_methodNamed B0.named
  have hin : meth.name = "<init>" := (name_of_methodNamed B0.named B0.method).1.trans hnm
  subst hsz
  rw [lg_entry_eq]
  have C0 : zC p s m av.toArray c D cI cZ (va_A ws s.heap.size) cc maxL own := ⟨B0.exec, B0.bytes, hml, hown', fun w hw => hts w (List.mem_cons_of_mem _ hw), hK, fun q h => Or.inr h⟩
  exact body p e s m _ below meth c _ _ C0 hin hP hD0.self va_S.rf hcl (fun hB hS hd => W.vret C0.1 C0.2.1 B0.returns (fun t ht _ => ⟨⟨(), rfl, trivial, by show B _ t.heap; rw [ht]; exact hB⟩, hS.F ht⟩) hS.2.2 hd B0.notSynchronized) _ (lv_entry av hmax)
theorem z_cwI {index maxL mc ms : Nat} {y : MethodName} {bytes : ByteArray} {rm : Room} (h1 : Cond.methodLink own index y ∈ zTb) (h2 : Cond.instanceMethod y ∈ zTb) (h4 : Cond.initialized y.cls ∈ zTb) (h5 : Cond.code y bytes maxL none ∈ zTb) (hc : rm.cells = mc) (hs : rm.slots = ms) (hy : y.name = "<init>")
    (hd : y.cls ≠ "java/lang/invoke/MethodHandle" ∧ y.cls ≠ "java/lang/invoke/VarHandle" ∧ (parseMethodDescriptor y.desc).map (fun d => d.parameters.length) = some 0) (hR : rm.frames + 1 ≤ R.frames ∧ 8 + (maxL + 11) + rm.locals ≤ R.locals) (ht : ∀ w ∈ zTb, w.before args s = true) :
    CallB R s args own index y bytes maxL none (zW y bytes maxL none) rm mc ms 0 ∧ y.name = "<init>" ∧ (Cond.instanceMethod y).before args s = true :=
  cwI 0 ht (zgoodc (fun w hw => by
    rcases List.mem_cons.mp hw with rfl | h
    · exact h5
    · exact h)) rfl hc hs (ht _ h4) (ht _ h1) (ht _ h2) hy hd hR
/-- a constructor's call: the new object is the world's last cell -/
theorem z_callI {wr wc : va_W} {y : MethodName} {bytes : ByteArray} {maxL mc ms index : Nat} {rm : Room} {b : Nat} {wf : (Nat → Nat) → va_W} (C0 : zC p s m args c D cI cZ A cc nL own) (hP : va_P D vwCl (wr ++ wc) H) (hD : va_D A (wr ++ wc)) (hS : va_S A s.heap H locs)
    (hM : Met l y (zW y bytes maxL none) rm (va_Pc [.ref b] (zPre D cI cZ wc H.size)) (va_Qv (fun (_ : Unit) => True) (fun _ t => ∃ h : Nat → Nat, h 0 = b ∧ va_P D vwCl (wf h) t.heap ∧ va_D (va_A wc H.size) (wf h)) (va_A wc H.size)) mc ms (va_A wc H.size)) (cw : CallB R s args own index y bytes maxL none (zW y bytes maxL none) rm mc ms 0 ∧ y.name = "<init>" ∧ (Cond.instanceMethod y).before args s = true)
    (hls : ls.size = nL) (hroom : (rest.map fun v => v.category).sum ≤ 8) (hdg : decode cc pc = .ok (.invokespecial index, 3)) (hcs : cells + mc ≤ R.cells ∧ slots + ms ≤ R.slots)
    (kk : ∀ (h : Nat → Nat) (H1 : Heap) (locs1 : List Loc), h 0 = b → va_P D vwCl (wr ++ wf h) H1 → va_D A (wr ++ wf h) → va_S A s.heap H1 locs1 → W p l e R s m args below meth c H1 locs1 (cells + mc) (slots + ms) Q (F0 m (pc + 3) ls rest)) : W p l e R s m args below meth c H locs cells slots Q (F0 m pc ls (.ref b :: rest)) := by
  have hF := zF_of (zD_right hD) hS C0.2.2.2.2.2.2
  refine va_callv (va_runI (As := []) ⟨C0.1, C0.2.1, C0.2.2.1, C0.2.2.2.1, C0.2.2.2.2.1⟩ hM cw ⟨zPre_blind, fun U hU hW => ⟨rfl, zPre_ok (zP_right hP) C0.2.2.2.2.2.1 (zD_right hD) U hU hW⟩⟩ rfl rfl hls rfl (lv_room hroom) hdg hcs) hS (fun q _ h => hF q h) hF (fun u t H1 locs1 ht hvm hr hB hz1 hk1 hS1 => ?_)
  obtain ⟨h, h0, hP1, hD1⟩ := hB
  rw [ht] at hP1
  obtain ⟨g1, g2⟩ := zjoinR hP hD hk1 hF hP1 hD1
  exact kk h H1 locs1 h0 g1 g2 hS1
theorem z_callIC {wr wc : va_W} {y : MethodName} {bytes : ByteArray} {maxL mc ms index : Nat} {rm : Room} {b : Nat} {wf : (Nat → Nat) → va_W} (C0 : zC p s m args c D cI cZ A cc nL own) (hP : va_P D vwCl (wr ++ wc) H) (hD : va_D A (wr ++ wc)) (hS : va_S A s.heap H locs) (hcl : zCl A s s.heap)
    (hM : Met l y (zW y bytes maxL none) rm (va_Pc [.ref b] (zPreC D cI cZ wc H.size)) (va_Qv (fun (_ : Unit) => True) (fun _ t => ∃ h : Nat → Nat, h 0 = b ∧ va_P D vwCl (wf h) t.heap ∧ va_D (va_A wc H.size) (wf h)) (va_A wc H.size)) mc ms (va_A wc H.size)) (cw : CallB R s args own index y bytes maxL none (zW y bytes maxL none) rm mc ms 0 ∧ y.name = "<init>" ∧ (Cond.instanceMethod y).before args s = true)
    (hls : ls.size = nL) (hroom : (rest.map fun v => v.category).sum ≤ 8) (hdg : decode cc pc = .ok (.invokespecial index, 3)) (hcs : cells + mc ≤ R.cells ∧ slots + ms ≤ R.slots)
    (kk : ∀ (h : Nat → Nat) (H1 : Heap) (locs1 : List Loc), h 0 = b → va_P D vwCl (wr ++ wf h) H1 → va_D A (wr ++ wf h) → va_S A s.heap H1 locs1 → W p l e R s m args below meth c H1 locs1 (cells + mc) (slots + ms) Q (F0 m (pc + 3) ls rest)) : W p l e R s m args below meth c H locs cells slots Q (F0 m pc ls (.ref b :: rest)) := by
  have hF := zF_of (zD_right hD) hS C0.2.2.2.2.2.2
  refine va_callv (va_runI (As := []) ⟨C0.1, C0.2.1, C0.2.2.1, C0.2.2.2.1, C0.2.2.2.2.1⟩ hM cw ⟨zPreC_blind, fun U hU hW => ⟨rfl, zPre_ok (zP_right hP) C0.2.2.2.2.2.1 (zD_right hD) U hU hW, zCl_go hcl hS hU hW hF⟩⟩ rfl rfl hls rfl (lv_room hroom) hdg hcs) hS (fun q _ h => hF q h) hF (fun u t H1 locs1 ht hvm hr hB hz1 hk1 hS1 => ?_)
  obtain ⟨h, h0, hP1, hD1⟩ := hB
  rw [ht] at hP1
  obtain ⟨g1, g2⟩ := zjoinR hP hD hk1 hF hP1 hD1
  exact kk h H1 locs1 h0 g1 g2 hS1
theorem z_callAi {y : MethodName} {bytes : ByteArray} {maxL n index : Nat} {ret : Option FieldType} {rm : Room} {r : Int} {wa wb w1 : va_W} {C : String} {b : Nat} {As st0 : List Value} {fs : List Value} {T : u_T} {N : Nat} (C0 : zC p s m args c D cI cZ A cc nL own) (hP : va_P D vwCl (wa ++ wb) H) (hD : va_D A (wa ++ wb)) (hS : va_S A s.heap H locs) 
    (hM : Met l y (zW y bytes maxL ret) rm (va_Pc (.ref b :: As) (zPre D cI cZ wa H.size)) (va_Qi (fun r' (_ : Unit) => r' = zI r) (fun _ t => va_P D vwCl w1 t.heap) (va_A wa H.size)) 0 0 (va_A wa H.size)) (cw : CallW R s args own C index y bytes maxL ret (zW y bytes maxL ret) rm 0 0 n) (ci : Nat) (he : wa[0]? = some (b, .inr (ci, fs))) (hci : vwCl[ci]? = some (C, T, N))
    (hst : st0 = As.reverse ++ .ref b :: rest) (hlen : As.length = n) (hls : ls.size = nL) (hroom : (rest.map fun v => v.category).sum ≤ 8) (hdg : decode cc pc = .ok (.invokevirtual index, 3)) (hcs : cells ≤ R.cells ∧ slots ≤ R.slots)
    (kk : ∀ (H1 : Heap) (locs1 : List Loc), va_P D vwCl (w1 ++ wb) H1 → va_S A s.heap H1 locs1 → W p l e R s m args below meth c H1 locs1 cells slots Q (F0 m (pc + 3) ls (.int (zI r) :: rest))) : W p l e R s m args below meth c H locs cells slots Q (F0 m pc ls st0) := by
  have hF := zF_of (zD_left hD) hS C0.2.2.2.2.2.2
  refine va_calli (va_runV ⟨C0.1, C0.2.1, C0.2.2.1, C0.2.2.2.1, C0.2.2.2.2.1⟩ hM cw ⟨zPre_blind, va_recv (q0 := 0) C0.2.2.2.2.2.1 (zP_left hP) hci he, fun U hU hW => ⟨rfl, zPre_ok (zP_left hP) C0.2.2.2.2.2.1 (zD_left hD) U hU hW⟩⟩ rfl hlen hls hst (lv_room hroom) hdg hcs) hS (fun q _ h => hF q h) hF (fun r' u t H1 locs1 ht hvm hr hB hz1 hk1 hS1 => ?_)
  subst hr
  rw [ht] at hB
  exact kk H1 locs1 (va_P.app hB (zkeepR hP hD hk1)) hS1
theorem z_callAl {y : MethodName} {bytes : ByteArray} {maxL n index : Nat} {ret : Option FieldType} {rm : Room} {r : Int} {wa wb w1 : va_W} {C : String} {b : Nat} {As st0 : List Value} {fs : List Value} {T : u_T} {N : Nat} (C0 : zC p s m args c D cI cZ A cc nL own) (hP : va_P D vwCl (wa ++ wb) H) (hD : va_D A (wa ++ wb)) (hS : va_S A s.heap H locs) 
    (hM : Met l y (zW y bytes maxL ret) rm (va_Pc (.ref b :: As) (zPre D cI cZ wa H.size)) (va_Ql (fun r' (_ : Unit) => r' = zL r) (fun _ t => va_P D vwCl w1 t.heap) (va_A wa H.size)) 0 0 (va_A wa H.size)) (cw : CallW R s args own C index y bytes maxL ret (zW y bytes maxL ret) rm 0 0 n) (ci : Nat) (he : wa[0]? = some (b, .inr (ci, fs))) (hci : vwCl[ci]? = some (C, T, N))
    (hst : st0 = As.reverse ++ .ref b :: rest) (hlen : As.length = n) (hls : ls.size = nL) (hroom : (rest.map fun v => v.category).sum ≤ 8) (hdg : decode cc pc = .ok (.invokevirtual index, 3)) (hcs : cells ≤ R.cells ∧ slots ≤ R.slots)
    (kk : ∀ (H1 : Heap) (locs1 : List Loc), va_P D vwCl (w1 ++ wb) H1 → va_S A s.heap H1 locs1 → W p l e R s m args below meth c H1 locs1 cells slots Q (F0 m (pc + 3) ls (.long (zL r) :: rest))) : W p l e R s m args below meth c H locs cells slots Q (F0 m pc ls st0) := by
  have hF := zF_of (zD_left hD) hS C0.2.2.2.2.2.2
  refine va_calll (va_runV ⟨C0.1, C0.2.1, C0.2.2.1, C0.2.2.2.1, C0.2.2.2.2.1⟩ hM cw ⟨zPre_blind, va_recv (q0 := 0) C0.2.2.2.2.2.1 (zP_left hP) hci he, fun U hU hW => ⟨rfl, zPre_ok (zP_left hP) C0.2.2.2.2.2.1 (zD_left hD) U hU hW⟩⟩ rfl hlen hls hst (lv_room hroom) hdg hcs) hS (fun q _ h => hF q h) hF (fun r' u t H1 locs1 ht hvm hr hB hz1 hk1 hS1 => ?_)
  subst hr
  rw [ht] at hB
  exact kk H1 locs1 (va_P.app hB (zkeepR hP hD hk1)) hS1
theorem z_callAiS {y : MethodName} {bytes : ByteArray} {maxL n index : Nat} {ret : Option FieldType} {rm : Room} {r : Int} {wa wb w1 : va_W} {C : String} {b : Nat} {As st0 : List Value} {fs : List Value} {T : u_T} {N : Nat} (C0 : zC p s m args c D cI cZ A cc nL own) (hP : va_P D vwCl (wa ++ wb) H) (hD : va_D A (wa ++ wb)) (hS : va_S A s.heap H locs) (hZ : zSt A s s.heap) 
    (hM : Met l y (zW y bytes maxL ret) rm (va_Pc (.ref b :: As) (zPreS D cI cZ wa H.size)) (va_Qi (fun r' (_ : Unit) => r' = zI r) (fun _ t => va_P D vwCl w1 t.heap) (va_A wa H.size)) 0 0 (va_A wa H.size)) (cw : CallW R s args own C index y bytes maxL ret (zW y bytes maxL ret) rm 0 0 n) (ci : Nat) (he : wa[0]? = some (b, .inr (ci, fs))) (hci : vwCl[ci]? = some (C, T, N))
    (hst : st0 = As.reverse ++ .ref b :: rest) (hlen : As.length = n) (hls : ls.size = nL) (hroom : (rest.map fun v => v.category).sum ≤ 8) (hdg : decode cc pc = .ok (.invokevirtual index, 3)) (hcs : cells ≤ R.cells ∧ slots ≤ R.slots)
    (kk : ∀ (H1 : Heap) (locs1 : List Loc), va_P D vwCl (w1 ++ wb) H1 → va_S A s.heap H1 locs1 → W p l e R s m args below meth c H1 locs1 cells slots Q (F0 m (pc + 3) ls (.int (zI r) :: rest))) : W p l e R s m args below meth c H locs cells slots Q (F0 m pc ls st0) := by
  have hF := zF_of (zD_left hD) hS C0.2.2.2.2.2.2
  refine va_calli (va_runV ⟨C0.1, C0.2.1, C0.2.2.1, C0.2.2.2.1, C0.2.2.2.2.1⟩ hM cw ⟨zPreS_blind, va_recv (q0 := 0) C0.2.2.2.2.2.1 (zP_left hP) hci he, fun U hU hW => ⟨rfl, zPreS_ok (zP_left hP) C0.2.2.2.2.2.1 (zD_left hD) hZ hS hF U hU hW⟩⟩ rfl hlen hls hst (lv_room hroom) hdg hcs) hS (fun q _ h => hF q h) hF (fun r' u t H1 locs1 ht hvm hr hB hz1 hk1 hS1 => ?_)
  subst hr
  rw [ht] at hB
  exact kk H1 locs1 (va_P.app hB (zkeepR hP hD hk1)) hS1
theorem z_callBi {y : MethodName} {bytes : ByteArray} {maxL n index : Nat} {ret : Option FieldType} {rm : Room} {r : Int} {wa wb w1 : va_W} {C : String} {b : Nat} {As st0 : List Value} {fs : List Value} {T : u_T} {N : Nat} (C0 : zC p s m args c D cI cZ A cc nL own) (hP : va_P D vwCl (wa ++ wb) H) (hD : va_D A (wa ++ wb)) (hS : va_S A s.heap H locs) 
    (hM : Met l y (zW y bytes maxL ret) rm (va_Pc (.ref b :: As) (zPre D cI cZ wb H.size)) (va_Qi (fun r' (_ : Unit) => r' = zI r) (fun _ t => va_P D vwCl w1 t.heap) (va_A wb H.size)) 0 0 (va_A wb H.size)) (cw : CallW R s args own C index y bytes maxL ret (zW y bytes maxL ret) rm 0 0 n) (ci : Nat) (he : wb[0]? = some (b, .inr (ci, fs))) (hci : vwCl[ci]? = some (C, T, N))
    (hst : st0 = As.reverse ++ .ref b :: rest) (hlen : As.length = n) (hls : ls.size = nL) (hroom : (rest.map fun v => v.category).sum ≤ 8) (hdg : decode cc pc = .ok (.invokevirtual index, 3)) (hcs : cells ≤ R.cells ∧ slots ≤ R.slots)
    (kk : ∀ (H1 : Heap) (locs1 : List Loc), va_P D vwCl (wa ++ w1) H1 → va_S A s.heap H1 locs1 → W p l e R s m args below meth c H1 locs1 cells slots Q (F0 m (pc + 3) ls (.int (zI r) :: rest))) : W p l e R s m args below meth c H locs cells slots Q (F0 m pc ls st0) := by
  have hF := zF_of (zD_right hD) hS C0.2.2.2.2.2.2
  refine va_calli (va_runV ⟨C0.1, C0.2.1, C0.2.2.1, C0.2.2.2.1, C0.2.2.2.2.1⟩ hM cw ⟨zPre_blind, va_recv (q0 := 0) C0.2.2.2.2.2.1 (zP_right hP) hci he, fun U hU hW => ⟨rfl, zPre_ok (zP_right hP) C0.2.2.2.2.2.1 (zD_right hD) U hU hW⟩⟩ rfl hlen hls hst (lv_room hroom) hdg hcs) hS (fun q _ h => hF q h) hF (fun r' u t H1 locs1 ht hvm hr hB hz1 hk1 hS1 => ?_)
  subst hr
  rw [ht] at hB
  exact kk H1 locs1 (va_P.app (zkeepL hP hD hk1) hB) hS1
theorem z_callBl {y : MethodName} {bytes : ByteArray} {maxL n index : Nat} {ret : Option FieldType} {rm : Room} {r : Int} {wa wb w1 : va_W} {C : String} {b : Nat} {As st0 : List Value} {fs : List Value} {T : u_T} {N : Nat} (C0 : zC p s m args c D cI cZ A cc nL own) (hP : va_P D vwCl (wa ++ wb) H) (hD : va_D A (wa ++ wb)) (hS : va_S A s.heap H locs) 
    (hM : Met l y (zW y bytes maxL ret) rm (va_Pc (.ref b :: As) (zPre D cI cZ wb H.size)) (va_Ql (fun r' (_ : Unit) => r' = zL r) (fun _ t => va_P D vwCl w1 t.heap) (va_A wb H.size)) 0 0 (va_A wb H.size)) (cw : CallW R s args own C index y bytes maxL ret (zW y bytes maxL ret) rm 0 0 n) (ci : Nat) (he : wb[0]? = some (b, .inr (ci, fs))) (hci : vwCl[ci]? = some (C, T, N))
    (hst : st0 = As.reverse ++ .ref b :: rest) (hlen : As.length = n) (hls : ls.size = nL) (hroom : (rest.map fun v => v.category).sum ≤ 8) (hdg : decode cc pc = .ok (.invokevirtual index, 3)) (hcs : cells ≤ R.cells ∧ slots ≤ R.slots)
    (kk : ∀ (H1 : Heap) (locs1 : List Loc), va_P D vwCl (wa ++ w1) H1 → va_S A s.heap H1 locs1 → W p l e R s m args below meth c H1 locs1 cells slots Q (F0 m (pc + 3) ls (.long (zL r) :: rest))) : W p l e R s m args below meth c H locs cells slots Q (F0 m pc ls st0) := by
  have hF := zF_of (zD_right hD) hS C0.2.2.2.2.2.2
  refine va_calll (va_runV ⟨C0.1, C0.2.1, C0.2.2.1, C0.2.2.2.1, C0.2.2.2.2.1⟩ hM cw ⟨zPre_blind, va_recv (q0 := 0) C0.2.2.2.2.2.1 (zP_right hP) hci he, fun U hU hW => ⟨rfl, zPre_ok (zP_right hP) C0.2.2.2.2.2.1 (zD_right hD) U hU hW⟩⟩ rfl hlen hls hst (lv_room hroom) hdg hcs) hS (fun q _ h => hF q h) hF (fun r' u t H1 locs1 ht hvm hr hB hz1 hk1 hS1 => ?_)
  subst hr
  rw [ht] at hB
  exact kk H1 locs1 (va_P.app (zkeepL hP hD hk1) hB) hS1
theorem z_sld (C0 : zC p s m args c D cI cZ A cc nL own) {b L : Nat} {xs : Nat → Int32} {zsc : Nat → Int} (hX : va_X b L xs s s.heap) (hbl : b < s.heap.size) (hbA : ¬ A b) (hL : L < 2147483648) (hsc : ∀ j, xs j = zI (zsc j)) (hS : va_S A s.heap H locs) (hin : zIn x L) (hdg : decode cc pc = .ok (.iaload, 1)) (kk : W p l e R s m args below meth c H locs cells slots Q (F0 m (pc + 1) ls (.int (zI (zsc x.toNat)) :: rest))) : W p l e R s m args below meth c H locs cells slots Q (F0 m pc ls (.int (zI x) :: .ref b :: rest)) :=
  va_sld C0.1 C0.2.1 hX hbl hbA hS (zI_in hL hin) hdg (by rw [zI_clamp hL hin, hsc]; exact kk)
theorem z_slen (C0 : zC p s m args c D cI cZ A cc nL own) {b L : Nat} {xs : Nat → Int32} (hX : va_X b L xs s s.heap) (hbl : b < s.heap.size) (hbA : ¬ A b) (hS : va_S A s.heap H locs) (hdg : decode cc pc = .ok (.arraylength, 1)) (kk : W p l e R s m args below meth c H locs cells slots Q (F0 m (pc + 1) ls (.int (zI (L : Int)) :: rest))) : W p l e R s m args below meth c H locs cells slots Q (F0 m pc ls (.ref b :: rest)) :=
  va_slen C0.1 C0.2.1 hX hbl hbA hS hdg (by rw [zI_nat] at kk; exact kk)
end ZC
