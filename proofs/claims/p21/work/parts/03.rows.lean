/-! ===== whole numbers: a machine's int or long is named by an Int ===== -/
def zI (x : Int) : Int32 := Int32.ofInt x
def zL (x : Int) : Int64 := Int64.ofInt x
def za (f : Nat → Int) : Nat → Int32 := fun j => zI (f j)
def zu (f : Nat → Int) (i x : Int) : Nat → Int := fun j => if j = i.toNat then x else f j
abbrev zE (x y : Int) : Prop := zI x = zI y
abbrev zLt (x y : Int) : Prop := zI x < zI y
abbrev zLe (x y : Int) : Prop := zI x ≤ zI y
abbrev zIn (i : Int) (n : Nat) : Prop := 0 ≤ i ∧ i < (n : Int)
def zR (x : Int) : Prop := -2147483648 ≤ x ∧ x < 2147483648
def zg {α : Type} (c : Prop) [Decidable c] (k : Option α) : Option α := if c then k else none
def zl {α : Type} (e : Int) (f : Int → Option α) : Option α := f e
def zand (x y : Int) : Int := (zI x &&& zI y).toInt
def zor (x y : Int) : Int := (zI x ||| zI y).toInt
def zxor (x y : Int) : Int := (zI x ^^^ zI y).toInt
def zshl (x y : Int) : Int := (zI x <<< (zI y &&& 31)).toInt
def zshr (x y : Int) : Int := (zI x >>> (zI y &&& 31)).toInt
def zushr (x y : Int) : Int := ((zI x).toUInt32 >>> ((zI y).toUInt32 &&& Int32.toUInt32 31)).toInt32.toInt
def zldiv (x y : Int) : Int := (zL x / zL y).toInt
def zlrem (x y : Int) : Int := (zL x - zL x / zL y * zL y).toInt
def zlcmp (x y : Int) : Int := (lg_cmp (zL x) (zL y)).toInt
def zi2l (x : Int) : Int := (zI x).toInt
abbrev zLE (x y : Int) : Prop := zL x = zL y
theorem zg_some {α : Type} {c : Prop} [Decidable c] {k : Option α} {o : α} (h : zg c k = some o) : c ∧ k = some o := by
  unfold zg at h
  split at h
  · exact ⟨by assumption, h⟩
  · cases h
theorem zg_pos {α : Type} {c : Prop} [Decidable c] {k : Option α} (h : c) : zg c k = k := if_pos h
theorem zl_some {α : Type} {e : Int} {f : Int → Option α} {o : α} (h : zl e f = some o) : ∃ v, e = v ∧ f v = some o := ⟨e, rfl, h⟩
theorem zbind {α β : Type} {o : Option α} {f : α → Option β} {b : β} (h : o.bind f = some b) : ∃ a, o = some a ∧ f a = some b := by
  cases o with
  | none => cases h
  | some a => exact ⟨a, rfl, h⟩
theorem zI_toInt (x : Int32) : zI x.toInt = x := by simp [zI]
theorem zL_toInt (x : Int64) : zL x.toInt = x := by simp [zL]
theorem zI_add (x y : Int) : zI x + zI y = zI (x + y) := by simp [zI, Int32.ofInt_add]
theorem zI_sub (x y : Int) : zI x - zI y = zI (x - y) := by simp [zI, Int32.ofInt_sub]
theorem zI_mul (x y : Int) : zI x * zI y = zI (x * y) := by simp [zI, Int32.ofInt_mul]
theorem zI_neg (x : Int) : -zI x = zI (-x) := by simp [zI, Int32.ofInt_neg]
theorem zL_add (x y : Int) : zL x + zL y = zL (x + y) := by simp [zL, Int64.ofInt_add]
theorem zL_sub (x y : Int) : zL x - zL y = zL (x - y) := by simp [zL, Int64.ofInt_sub]
theorem zL_mul (x y : Int) : zL x * zL y = zL (x * y) := by simp [zL, Int64.ofInt_mul]
theorem zI_nat (n : Nat) : zI (n : Int) = nI n := by
  show Int32.ofInt (n : Int) = Int32.ofNat n
  first | exact Int32.ofInt_eq_ofNat | simp | rfl
theorem zI_clamp {i : Int} {n : Nat} (hn : n < 2147483648) (h : zIn i n) : (zI i).toNatClampNeg = i.toNat := by
  obtain ⟨h1, h2⟩ := h
  obtain ⟨k, rfl⟩ := Int.eq_ofNat_of_zero_le h1
  rw [zI_nat, nI_clamp (by omega)]
  simp
theorem zI_in {i : Int} {n : Nat} (hn : n < 2147483648) (h : zIn i n) : vp_in (zI i) n := by
  obtain ⟨h1, h2⟩ := h
  obtain ⟨k, rfl⟩ := Int.eq_ofNat_of_zero_le h1
  rw [zI_nat]
  exact nI_in (by omega) hn
theorem zI_get {x : Int} (h : zR x) : (zI x).toInt = x := by
  obtain ⟨h1, h2⟩ := h
  unfold zI
  rw [Int32.toInt_ofInt]
  have e : Int32.size = 4294967296 := rfl
  first
    | exact Int.bmod_eq_of_le (by omega) (by omega)
    | (rw [Int.bmod_def]; omega)
theorem zE_iff {x y : Int} (hx : zR x) (hy : zR y) : zE x y ↔ x = y := by
  unfold zE
  rw [← Int32.toInt_inj, zI_get hx, zI_get hy]
theorem zLt_iff {x y : Int} (hx : zR x) (hy : zR y) : zLt x y ↔ x < y := by
  unfold zLt
  rw [Int32.lt_iff_toInt_lt, zI_get hx, zI_get hy]
theorem zLe_iff {x y : Int} (hx : zR x) (hy : zR y) : zLe x y ↔ x ≤ y := by
  unfold zLe
  rw [Int32.le_iff_toInt_le, zI_get hx, zI_get hy]
theorem za_upd (f : Nat → Int) (i x : Int) {n : Nat} (hn : n < 2147483648) (h : zIn i n) : upd (za f) (zI i).toNatClampNeg (zI x) = za (zu f i x) := by
  rw [zI_clamp hn h]
  funext j
  unfold upd za zu
  split <;> rfl
/-- the tables' words that stay through a call -/
def zTb : List Cond := lw_tbl.filter goodWord
theorem zgood : GoodIn zTb zTb := fun w hw => ⟨hw, good_of_word (List.mem_filter.mp hw).2⟩
theorem zin {w : Cond} {i : Nat} (h : lw_tbl[i]? = some w) (hg : goodWord w = true) : w ∈ zTb := List.mem_filter.mpr ⟨List.mem_of_getElem? h, hg⟩
/-! ===== worlds: what a method's callers hand over and get back ===== -/
abbrev zTY (cI cZ : ClassId) : List (ClassId × FieldType) := [(cI, .int)]
def zW (y : MethodName) (b : ByteArray) (n : Nat) (r : Option FieldType) : List Cond := .code y b n r :: zTb
def zPre (D : va_G) (cI cZ : ClassId) (ws : va_W) (sz : Nat) (U : State) : Prop := U.heap.size = sz ∧ va_P D vwCl ws U.heap ∧ va_K D vwCl (zTY cI cZ) U ∧ va_D (fun _ => True) ws
theorem zPre_blind {av : List Value} {D : va_G} {cI cZ : ClassId} {ws : va_W} {sz : Nat} : FrameBlind (va_Pc av (zPre D cI cZ ws sz)) := fun a U g mk q => by
  obtain ⟨q0, q1, qP, qK, qD⟩ := q
  exact ⟨q0, q1, qP, va_K.moved (u := U) (U := U.calling g mk a) (Vm.Alike.refl U.vm) qK, qD⟩
theorem zPre_ok {D : va_G} {cI cZ : ClassId} {A : Nat → Prop} {ws : va_W} {s : State} {H : Heap} (hP : va_P D vwCl ws H) (hK : va_K D vwCl (zTY cI cZ) s) (hD : va_D A ws) : ∀ U : State, U.heap = H → s.WarmedH U.vm → zPre D cI cZ ws H.size U :=
  fun U hU hW => ⟨by rw [hU], by rw [hU]; exact hP, va_K.moved hW.alike hK, hD.weaken (fun _ _ _ _ => trivial)⟩
/-- the addresses of a world stay, whatever its cells hold -/
theorem zD {A : Nat → Prop} {ws ws' : va_W} (h : va_D A ws) (e : ws'.map Prod.fst = ws.map Prod.fst) : va_D A ws' := by
  have key : ∀ (k : Nat) (q : Nat × va_E), ws'[k]? = some q → ∃ q' : Nat × va_E, ws[k]? = some q' ∧ q'.1 = q.1 := by
    intro k q hq
    have h1 : (ws'.map Prod.fst)[k]? = some q.1 := by rw [List.getElem?_map, hq]; rfl
    rw [e, List.getElem?_map] at h1
    cases hc : ws[k]? with
    | none => rw [hc] at h1; cases h1
    | some q' => rw [hc] at h1; exact ⟨q', rfl, Option.some.inj h1⟩
  refine ⟨fun i j x y hx hy hxy => ?_, fun k q hq => ?_⟩
  · obtain ⟨x', h1, h2⟩ := key i x hx
    obtain ⟨y', h3, h4⟩ := key j y hy
    exact h.1 i j x' y' h1 h3 (by rw [h2, h4, hxy])
  · obtain ⟨q', h1, h2⟩ := key k q hq
    rw [← h2]
    exact h.2 k q' h1
/-- a world with some of its cells anew -/
def zrep : va_W → List Nat → va_W → va_W
  | ws, i :: is, c :: cs => zrep (ws.set i c) is cs
  | ws, _, _ => ws
theorem zrep_at {D : va_G} {H1 : Heap} : ∀ (is : List Nat) (ws w1 : va_W), (∀ (k : Nat) (q : Nat × va_E), ws[k]? = some q → k ∉ is → va_at D vwCl q H1) → va_P D vwCl w1 H1 → is.length ≤ w1.length → va_P D vwCl (zrep ws is w1) H1 := by
  intro is
  induction is with
  | nil =>
    intro ws w1 h _ _ k q hq
    have e : zrep ws [] w1 = ws := by cases w1 <;> rfl
    rw [e] at hq
    exact h k q hq List.not_mem_nil
  | cons i is ih =>
    intro ws w1 h hw hl
    cases w1 with
    | nil => exact absurd hl (by simp)
    | cons c cs =>
      refine ih (ws.set i c) cs (fun k q hq hk => ?_) (fun k q hq => hw (k + 1) q (by simpa using hq)) (by simpa using hl)
      rw [List.getElem?_set] at hq
      by_cases hik : i = k
      · subst hik
        rw [if_pos rfl] at hq
        split at hq
        · cases hq
          exact hw 0 c rfl
        · cases hq
      · rw [if_neg hik] at hq
        exact h k q hq (by simp only [List.mem_cons, not_or]; exact ⟨fun e => hik e.symm, hk⟩)
/-- behind a call: the caller's world, the callee's cells in their places -/
theorem zjoin {A0 : Nat → Prop} {D : va_G} {ws wc w1 : va_W} {H H1 : Heap} (hP : va_P D vwCl ws H) (hD : va_D A0 ws) (isC : List Nat) (hC : isC.map (fun i => ws[i]?) = wc.map some)
    (hk : ∀ q : Nat, q < H.size → ¬ va_A wc H.size q → H1[q]? = H[q]?) (hP1 : va_P D vwCl w1 H1) (hl : isC.length ≤ w1.length) : va_P D vwCl (zrep ws isC w1) H1 := by
  refine zrep_at isC ws w1 (fun k q hq hn => ?_) hP1 hl
  have hlt := (hP k q hq).lt
  refine (hP k q hq).kept (hk q.1 hlt (fun h => ?_))
  rcases h with ⟨k2, e, h⟩ | h
  · have h1 : (isC.map (fun i => ws[i]?))[k2]? = some (some (q.1, e)) := by rw [hC, List.getElem?_map, h]; rfl
    rw [List.getElem?_map] at h1
    cases hi : isC[k2]? with
    | none => rw [hi] at h1; cases h1
    | some i =>
      rw [hi] at h1
      have h2 := hD.1 k i q (q.1, e) hq (Option.some.inj h1) rfl
      subst h2
      exact hn (List.mem_of_getElem? hi)
  · omega
/-- the four arrays that nobody writes -/
def zS0 : Nat → Int := fun j => [0, -1, 1, -2, 2, -3, 3].getD j 0
def zS1 : Nat → Int := fun j => [0, 0, 2, 0].getD j 0
def zS2 : Nat → Int := fun j => [100, 40, 6, 3].getD j 0
def zS3 : Nat → Int := fun j => [20, 5, 2, 1].getD j 0
def zT0 : Nat → Value := fun j => .int (zI (zS0 j))
def zT1 : Nat → Value := fun j => .int (zI (zS1 j))
def zT2 : Nat → Value := fun j => .int (zI (zS2 j))
def zT3 : Nat → Value := fun j => .int (zI (zS3 j))
/-- more turns than any loop takes -/
def zF : Nat := 100000
def zSt1 (C n : String) (N : Nat) (f : Nat → Value) (A : Nat → Prop) (U : State) (H : Heap) : Prop := ∃ t : Nat, va_Z C n "[I" (.ref t) A U H ∧ va_T .int t N f A U H
def zSt (A : Nat → Prop) (U : State) (H : Heap) : Prop := zSt1 "CounterHouse$LineSearch" "SLOPES" 7 zT0 A U H ∧ zSt1 "CounterHouse" "LEAST_OF_SETTING" 4 zT1 A U H ∧ zSt1 "CounterHouse" "MOST_OF_SETTING" 4 zT2 A U H
theorem zSt1_go {C n : String} {N : Nat} {f : Nat → Value} {A B : Nat → Prop} {s U : State} {H : Heap} {locs : List Loc} (h : zSt1 C n N f A s s.heap) (hS : va_S A s.heap H locs) (hU : U.heap = H) (hW : s.WarmedH U.vm) (hAB : ∀ q, B q → A q) : zSt1 C n N f B U U.heap := by
  obtain ⟨t, h1, h2⟩ := h
  rw [hU]
  exact ⟨t, va_Z.moved hW.alike ((h1.kept hS.2.1).narrow hAB), va_T.moved hW.alike ((h2.kept hS.2.1).narrow hAB)⟩
theorem zSt_go {A B : Nat → Prop} {s U : State} {H : Heap} {locs : List Loc} (h : zSt A s s.heap) (hS : va_S A s.heap H locs) (hU : U.heap = H) (hW : s.WarmedH U.vm) (hAB : ∀ q, B q → A q) : zSt B U U.heap :=
  ⟨zSt1_go h.1 hS hU hW hAB, zSt1_go h.2.1 hS hU hW hAB, zSt1_go h.2.2 hS hU hW hAB⟩
def zPreS (D : va_G) (cI cZ : ClassId) (ws : va_W) (sz : Nat) (U : State) : Prop := zPre D cI cZ ws sz U ∧ zSt (va_A ws sz) U U.heap
theorem zPreS_blind {av : List Value} {D : va_G} {cI cZ : ClassId} {ws : va_W} {sz : Nat} : FrameBlind (va_Pc av (zPreS D cI cZ ws sz)) := fun a U g mk q => by
  obtain ⟨q0, ⟨q1, qP, qK, qD⟩, ⟨⟨t1, a1, b1⟩, ⟨t2, a2, b2⟩, ⟨t3, a3, b3⟩⟩⟩ := q
  have hal : U.vm.Alike (U.calling g mk a).vm := Vm.Alike.refl U.vm
  exact ⟨q0, ⟨q1, qP, va_K.moved (u := U) (U := U.calling g mk a) hal qK, qD⟩, ⟨⟨t1, va_Z.moved hal a1, va_T.moved hal b1⟩, ⟨t2, va_Z.moved hal a2, va_T.moved hal b2⟩, ⟨t3, va_Z.moved hal a3, va_T.moved hal b3⟩⟩⟩
theorem zPreS_ok {D : va_G} {cI cZ : ClassId} {A A' : Nat → Prop} {ws : va_W} {s : State} {H : Heap} {locs : List Loc} (hP : va_P D vwCl ws H) (hK : va_K D vwCl (zTY cI cZ) s) (hD : va_D A' ws) (hZ : zSt A s s.heap) (hS : va_S A s.heap H locs) (hF : ∀ q, va_A ws H.size q → A q) : ∀ U : State, U.heap = H → s.WarmedH U.vm → zPreS D cI cZ ws H.size U := fun U hU hW => by
  refine ⟨zPre_ok hP hK hD U hU hW, ?_⟩
  have h := zSt_go hZ hS hU hW hF
  exact h
/-! ===== a method's standing facts, and the rows over whole numbers ===== -/
def zC (p : Program) (s : State) (m : MethodId) (args : Array Value) (c : Code) (D : va_G) (cI cZ : ClassId) (A : Nat → Prop) (cc : ByteArray) (nL : Nat) (own : String) : Prop :=
  p.tables.exec = Jvm.exec ∧ c.code = cc ∧ c.maxLocals = nL ∧ s.vm.findClass own = some m.cls ∧ (∀ w ∈ zTb, w.before args s = true) ∧ va_K D vwCl (zTY cI cZ) s ∧ (∀ q, s.heap.size ≤ q → A q)
section ZR
variable {p : Program} {l : Launch} {e : Env} {R : Room} {s : State} {m : MethodId} {args : Array Value} {below : List Frame} {meth : Method} {c : Code} {H : Heap} {locs : List Loc} {cells slots : Nat} {Q : State → Prop}
variable {cc : ByteArray} {pc nL : Nat} {ls : Array Slot} {rest : List Value} {D : va_G} {cI cZ : ClassId} {A : Nat → Prop} {own : String} {ws : va_W} {a : Nat} {x y : Int}
theorem z_iconst (C0 : zC p s m args c D cI cZ A cc nL own) {n : Int} (hdg : decode cc pc = .ok (.iconst n, 1)) (k : W p l e R s m args below meth c H locs cells slots Q (F0 m (pc + 1) ls (.int (zI n) :: rest))) : W p l e R s m args below meth c H locs cells slots Q (F0 m pc ls rest) := lv_iconst C0.1 C0.2.1 hdg rfl k
theorem z_bipush (C0 : zC p s m args c D cI cZ A cc nL own) {n : Int} (hdg : decode cc pc = .ok (.bipush n, 2)) (hv : (Int8.ofInt n).toInt32 = zI n) (k : W p l e R s m args below meth c H locs cells slots Q (F0 m (pc + 2) ls (.int (zI n) :: rest))) : W p l e R s m args below meth c H locs cells slots Q (F0 m pc ls rest) := lv_bipush C0.1 C0.2.1 hdg hv k
theorem z_sipush (C0 : zC p s m args c D cI cZ A cc nL own) {n : Int} (hdg : decode cc pc = .ok (.sipush n, 3)) (hv : (Int16.ofInt n).toInt32 = zI n) (k : W p l e R s m args below meth c H locs cells slots Q (F0 m (pc + 3) ls (.int (zI n) :: rest))) : W p l e R s m args below meth c H locs cells slots Q (F0 m pc ls rest) := lv_sipush C0.1 C0.2.1 hdg hv k
theorem z_iload_n (C0 : zC p s m args c D cI cZ A cc nL own) {k : Fin 4} {i : Nat} (hdg : decode cc pc = .ok (.iload_n k, 1)) (hi : (k : Nat) = i) (hl : ls[i]? = some (.val (.int (zI x)))) (kk : W p l e R s m args below meth c H locs cells slots Q (F0 m (pc + 1) ls (.int (zI x) :: rest))) : W p l e R s m args below meth c H locs cells slots Q (F0 m pc ls rest) := lv_iload_n C0.1 C0.2.1 hdg hi hl kk
theorem z_iload (C0 : zC p s m args c D cI cZ A cc nL own) {i : Nat} (hdg : decode cc pc = .ok (.iload i, 2)) (hl : ls[i]? = some (.val (.int (zI x)))) (kk : W p l e R s m args below meth c H locs cells slots Q (F0 m (pc + 2) ls (.int (zI x) :: rest))) : W p l e R s m args below meth c H locs cells slots Q (F0 m pc ls rest) := lv_iload C0.1 C0.2.1 hdg hl kk
theorem z_lload_n (C0 : zC p s m args c D cI cZ A cc nL own) {k : Fin 4} {i : Nat} (hdg : decode cc pc = .ok (.lload_n k, 1)) (hi : (k : Nat) = i) (hl : ls[i]? = some (.val (.long (zL x)))) (kk : W p l e R s m args below meth c H locs cells slots Q (F0 m (pc + 1) ls (.long (zL x) :: rest))) : W p l e R s m args below meth c H locs cells slots Q (F0 m pc ls rest) := lv_lload_n C0.1 C0.2.1 hdg hi hl kk
theorem z_lload (C0 : zC p s m args c D cI cZ A cc nL own) {i : Nat} (hdg : decode cc pc = .ok (.lload i, 2)) (hl : ls[i]? = some (.val (.long (zL x)))) (kk : W p l e R s m args below meth c H locs cells slots Q (F0 m (pc + 2) ls (.long (zL x) :: rest))) : W p l e R s m args below meth c H locs cells slots Q (F0 m pc ls rest) := lv_lload C0.1 C0.2.1 hdg hl kk
theorem z_aload_n (C0 : zC p s m args c D cI cZ A cc nL own) {k : Fin 4} {i : Nat} (hdg : decode cc pc = .ok (.aload_n k, 1)) (hi : (k : Nat) = i) (hl : ls[i]? = some (.val (.ref a))) (kk : W p l e R s m args below meth c H locs cells slots Q (F0 m (pc + 1) ls (.ref a :: rest))) : W p l e R s m args below meth c H locs cells slots Q (F0 m pc ls rest) := lv_aload_n C0.1 C0.2.1 hdg hi hl kk
theorem z_aload (C0 : zC p s m args c D cI cZ A cc nL own) {i : Nat} (hdg : decode cc pc = .ok (.aload i, 2)) (hl : ls[i]? = some (.val (.ref a))) (kk : W p l e R s m args below meth c H locs cells slots Q (F0 m (pc + 2) ls (.ref a :: rest))) : W p l e R s m args below meth c H locs cells slots Q (F0 m pc ls rest) := lv_aload C0.1 C0.2.1 hdg hl kk
theorem z_istore_n (C0 : zC p s m args c D cI cZ A cc nL own) {k : Fin 4} {i : Nat} {lv : List (Nat × Value)} (lv' : List (Nat × Value)) (hdg : decode cc pc = .ok (.istore_n k, 1)) (hi : (k : Nat) = i) (h : lv_has ls nL lv) (hn : i < nL) (hl : (i, Value.int (zI x)) :: lv.filter (fun q => !(q.1 == i) && !(q.1 + 1 == i && q.2.category == 2)) = lv') (kk : ∀ ls' : Array Slot, lv_has ls' nL lv' → W p l e R s m args below meth c H locs cells slots Q (F0 m (pc + 1) ls' rest)) : W p l e R s m args below meth c H locs cells slots Q (F0 m pc ls (.int (zI x) :: rest)) := lv_istore_n C0.1 C0.2.1 hdg hi h hn hl kk
theorem z_istore (C0 : zC p s m args c D cI cZ A cc nL own) {i : Nat} {lv : List (Nat × Value)} (lv' : List (Nat × Value)) (hdg : decode cc pc = .ok (.istore i, 2)) (h : lv_has ls nL lv) (hn : i < nL) (hl : (i, Value.int (zI x)) :: lv.filter (fun q => !(q.1 == i) && !(q.1 + 1 == i && q.2.category == 2)) = lv') (kk : ∀ ls' : Array Slot, lv_has ls' nL lv' → W p l e R s m args below meth c H locs cells slots Q (F0 m (pc + 2) ls' rest)) : W p l e R s m args below meth c H locs cells slots Q (F0 m pc ls (.int (zI x) :: rest)) := lv_istore C0.1 C0.2.1 hdg h hn hl kk
theorem z_lstore_n (C0 : zC p s m args c D cI cZ A cc nL own) {k : Fin 4} {i : Nat} {lv : List (Nat × Value)} (lv' : List (Nat × Value)) (hdg : decode cc pc = .ok (.lstore_n k, 1)) (hi : (k : Nat) = i) (h : lv_has ls nL lv) (hn : i + 1 < nL) (hl : (i, Value.long (zL x)) :: lv.filter (fun q => !(q.1 == i) && (!(q.1 == i + 1) && !(q.1 + 1 == i && q.2.category == 2))) = lv') (kk : ∀ ls' : Array Slot, lv_has ls' nL lv' → W p l e R s m args below meth c H locs cells slots Q (F0 m (pc + 1) ls' rest)) : W p l e R s m args below meth c H locs cells slots Q (F0 m pc ls (.long (zL x) :: rest)) := lv_lstore_n C0.1 C0.2.1 hdg hi h hn hl kk
theorem z_lstore (C0 : zC p s m args c D cI cZ A cc nL own) {i : Nat} {lv : List (Nat × Value)} (lv' : List (Nat × Value)) (hdg : decode cc pc = .ok (.lstore i, 2)) (h : lv_has ls nL lv) (hn : i + 1 < nL) (hl : (i, Value.long (zL x)) :: lv.filter (fun q => !(q.1 == i) && (!(q.1 == i + 1) && !(q.1 + 1 == i && q.2.category == 2))) = lv') (kk : ∀ ls' : Array Slot, lv_has ls' nL lv' → W p l e R s m args below meth c H locs cells slots Q (F0 m (pc + 2) ls' rest)) : W p l e R s m args below meth c H locs cells slots Q (F0 m pc ls (.long (zL x) :: rest)) := lv_lstore C0.1 C0.2.1 hdg h hn hl kk
theorem z_astore_n (C0 : zC p s m args c D cI cZ A cc nL own) {k : Fin 4} {i : Nat} {lv : List (Nat × Value)} (lv' : List (Nat × Value)) (hdg : decode cc pc = .ok (.astore_n k, 1)) (hi : (k : Nat) = i) (h : lv_has ls nL lv) (hn : i < nL) (hl : (i, Value.ref a) :: lv.filter (fun q => !(q.1 == i) && !(q.1 + 1 == i && q.2.category == 2)) = lv') (kk : ∀ ls' : Array Slot, lv_has ls' nL lv' → W p l e R s m args below meth c H locs cells slots Q (F0 m (pc + 1) ls' rest)) : W p l e R s m args below meth c H locs cells slots Q (F0 m pc ls (.ref a :: rest)) := lv_astore_n C0.1 C0.2.1 hdg hi h hn hl kk
theorem z_astore (C0 : zC p s m args c D cI cZ A cc nL own) {i : Nat} {lv : List (Nat × Value)} (lv' : List (Nat × Value)) (hdg : decode cc pc = .ok (.astore i, 2)) (h : lv_has ls nL lv) (hn : i < nL) (hl : (i, Value.ref a) :: lv.filter (fun q => !(q.1 == i) && !(q.1 + 1 == i && q.2.category == 2)) = lv') (kk : ∀ ls' : Array Slot, lv_has ls' nL lv' → W p l e R s m args below meth c H locs cells slots Q (F0 m (pc + 2) ls' rest)) : W p l e R s m args below meth c H locs cells slots Q (F0 m pc ls (.ref a :: rest)) := lv_astore C0.1 C0.2.1 hdg h hn hl kk
theorem z_iinc (C0 : zC p s m args c D cI cZ A cc nL own) {i : Nat} {n : Int} {lv : List (Nat × Value)} (lv' : List (Nat × Value)) (hdg : decode cc pc = .ok (.iinc i n, 3)) (h : lv_has ls nL lv) (k : Nat) (hk : lv[k]? = some (i, .int (zI x))) (hn : i < nL) (hl : (i, Value.int (zI (x + n))) :: lv.filter (fun q => !(q.1 == i) && !(q.1 + 1 == i && q.2.category == 2)) = lv') (kk : ∀ ls' : Array Slot, lv_has ls' nL lv' → W p l e R s m args below meth c H locs cells slots Q (F0 m (pc + 3) ls' rest)) : W p l e R s m args below meth c H locs cells slots Q (F0 m pc ls rest) := lv_iinc C0.1 C0.2.1 hdg h hk (zI_add x n) hn hl kk
theorem z_iadd (C0 : zC p s m args c D cI cZ A cc nL own) (hdg : decode cc pc = .ok (.iadd, 1)) (k : W p l e R s m args below meth c H locs cells slots Q (F0 m (pc + 1) ls (.int (zI (x + y)) :: rest))) : W p l e R s m args below meth c H locs cells slots Q (F0 m pc ls (.int (zI y) :: .int (zI x) :: rest)) := lv_iadd C0.1 C0.2.1 hdg (by rw [zI_add]; exact k)
theorem z_isub (C0 : zC p s m args c D cI cZ A cc nL own) (hdg : decode cc pc = .ok (.isub, 1)) (k : W p l e R s m args below meth c H locs cells slots Q (F0 m (pc + 1) ls (.int (zI (x - y)) :: rest))) : W p l e R s m args below meth c H locs cells slots Q (F0 m pc ls (.int (zI y) :: .int (zI x) :: rest)) := lv_isub C0.1 C0.2.1 hdg (by rw [zI_sub]; exact k)
theorem z_imul (C0 : zC p s m args c D cI cZ A cc nL own) (hdg : decode cc pc = .ok (.imul, 1)) (k : W p l e R s m args below meth c H locs cells slots Q (F0 m (pc + 1) ls (.int (zI (x * y)) :: rest))) : W p l e R s m args below meth c H locs cells slots Q (F0 m pc ls (.int (zI y) :: .int (zI x) :: rest)) := lv_imul C0.1 C0.2.1 hdg (by rw [zI_mul]; exact k)
theorem z_ineg (C0 : zC p s m args c D cI cZ A cc nL own) (hdg : decode cc pc = .ok (.ineg, 1)) (k : W p l e R s m args below meth c H locs cells slots Q (F0 m (pc + 1) ls (.int (zI (-x)) :: rest))) : W p l e R s m args below meth c H locs cells slots Q (F0 m pc ls (.int (zI x) :: rest)) := lv_ineg C0.1 C0.2.1 hdg (by rw [zI_neg]; exact k)
theorem z_iand (C0 : zC p s m args c D cI cZ A cc nL own) (hdg : decode cc pc = .ok (.iand, 1)) (k : W p l e R s m args below meth c H locs cells slots Q (F0 m (pc + 1) ls (.int (zI (zand x y)) :: rest))) : W p l e R s m args below meth c H locs cells slots Q (F0 m pc ls (.int (zI y) :: .int (zI x) :: rest)) := lv_iand C0.1 C0.2.1 hdg (by unfold zand at k; rw [zI_toInt] at k; exact k)
theorem z_ior (C0 : zC p s m args c D cI cZ A cc nL own) (hdg : decode cc pc = .ok (.ior, 1)) (k : W p l e R s m args below meth c H locs cells slots Q (F0 m (pc + 1) ls (.int (zI (zor x y)) :: rest))) : W p l e R s m args below meth c H locs cells slots Q (F0 m pc ls (.int (zI y) :: .int (zI x) :: rest)) := lv_ior C0.1 C0.2.1 hdg (by unfold zor at k; rw [zI_toInt] at k; exact k)
theorem z_ixor (C0 : zC p s m args c D cI cZ A cc nL own) (hdg : decode cc pc = .ok (.ixor, 1)) (k : W p l e R s m args below meth c H locs cells slots Q (F0 m (pc + 1) ls (.int (zI (zxor x y)) :: rest))) : W p l e R s m args below meth c H locs cells slots Q (F0 m pc ls (.int (zI y) :: .int (zI x) :: rest)) := lv_ixor C0.1 C0.2.1 hdg (by unfold zxor at k; rw [zI_toInt] at k; exact k)
theorem z_ishl (C0 : zC p s m args c D cI cZ A cc nL own) (hdg : decode cc pc = .ok (.ishl, 1)) (k : W p l e R s m args below meth c H locs cells slots Q (F0 m (pc + 1) ls (.int (zI (zshl x y)) :: rest))) : W p l e R s m args below meth c H locs cells slots Q (F0 m pc ls (.int (zI y) :: .int (zI x) :: rest)) := lv_ishl C0.1 C0.2.1 hdg (by unfold zshl at k; rw [zI_toInt] at k; exact k)
theorem z_ishr (C0 : zC p s m args c D cI cZ A cc nL own) (hdg : decode cc pc = .ok (.ishr, 1)) (k : W p l e R s m args below meth c H locs cells slots Q (F0 m (pc + 1) ls (.int (zI (zshr x y)) :: rest))) : W p l e R s m args below meth c H locs cells slots Q (F0 m pc ls (.int (zI y) :: .int (zI x) :: rest)) := lv_ishr C0.1 C0.2.1 hdg (by unfold zshr at k; rw [zI_toInt] at k; exact k)
theorem z_iushr (C0 : zC p s m args c D cI cZ A cc nL own) (hdg : decode cc pc = .ok (.iushr, 1)) (k : W p l e R s m args below meth c H locs cells slots Q (F0 m (pc + 1) ls (.int (zI (zushr x y)) :: rest))) : W p l e R s m args below meth c H locs cells slots Q (F0 m pc ls (.int (zI y) :: .int (zI x) :: rest)) := lv_iushr C0.1 C0.2.1 hdg (by unfold zushr; rw [zI_toInt]) k
theorem z_i2l (C0 : zC p s m args c D cI cZ A cc nL own) (hdg : decode cc pc = .ok (.i2l, 1)) (k : W p l e R s m args below meth c H locs cells slots Q (F0 m (pc + 1) ls (.long (zL (zi2l x)) :: rest))) : W p l e R s m args below meth c H locs cells slots Q (F0 m pc ls (.int (zI x) :: rest)) := lv_i2l C0.1 C0.2.1 hdg (by apply Int64.toInt_inj.mp; rw [Int32.toInt_toInt64]; unfold zi2l; unfold zL; rw [Int64.toInt_ofInt]; have h1 := Int32.le_toInt (zI x); have h2 := Int32.toInt_lt (zI x); symm; first | exact Int.bmod_eq_of_le (by have e : Int64.size = 18446744073709551616 := rfl; omega) (by have e : Int64.size = 18446744073709551616 := rfl; omega) | (rw [Int.bmod_def]; have e : Int64.size = 18446744073709551616 := rfl; omega)) k
theorem z_ladd (C0 : zC p s m args c D cI cZ A cc nL own) (hdg : decode cc pc = .ok (.ladd, 1)) (k : W p l e R s m args below meth c H locs cells slots Q (F0 m (pc + 1) ls (.long (zL (x + y)) :: rest))) : W p l e R s m args below meth c H locs cells slots Q (F0 m pc ls (.long (zL y) :: .long (zL x) :: rest)) := lv_ladd C0.1 C0.2.1 hdg (by rw [zL_add]; exact k)
theorem z_lmul (C0 : zC p s m args c D cI cZ A cc nL own) (hdg : decode cc pc = .ok (.lmul, 1)) (k : W p l e R s m args below meth c H locs cells slots Q (F0 m (pc + 1) ls (.long (zL (x * y)) :: rest))) : W p l e R s m args below meth c H locs cells slots Q (F0 m pc ls (.long (zL y) :: .long (zL x) :: rest)) := lv_lmul C0.1 C0.2.1 hdg (by rw [zL_mul]; exact k)
theorem z_ldiv (C0 : zC p s m args c D cI cZ A cc nL own) (hy : ¬ zLE y 0) (hdg : decode cc pc = .ok (.ldiv, 1)) (k : W p l e R s m args below meth c H locs cells slots Q (F0 m (pc + 1) ls (.long (zL (zldiv x y)) :: rest))) : W p l e R s m args below meth c H locs cells slots Q (F0 m pc ls (.long (zL y) :: .long (zL x) :: rest)) := lv_ldiv C0.1 C0.2.1 hdg hy (by unfold zldiv at k; rw [zL_toInt] at k; exact k)
theorem z_lrem (C0 : zC p s m args c D cI cZ A cc nL own) (hy : ¬ zLE y 0) (hdg : decode cc pc = .ok (.lrem, 1)) (k : W p l e R s m args below meth c H locs cells slots Q (F0 m (pc + 1) ls (.long (zL (zlrem x y)) :: rest))) : W p l e R s m args below meth c H locs cells slots Q (F0 m pc ls (.long (zL y) :: .long (zL x) :: rest)) := lv_lrem C0.1 C0.2.1 hdg hy (by unfold zlrem at k; rw [zL_toInt] at k; exact k)
theorem z_lcmp (C0 : zC p s m args c D cI cZ A cc nL own) (hdg : decode cc pc = .ok (.lcmp, 1)) (k : W p l e R s m args below meth c H locs cells slots Q (F0 m (pc + 1) ls (.int (zI (zlcmp x y)) :: rest))) : W p l e R s m args below meth c H locs cells slots Q (F0 m pc ls (.long (zL y) :: .long (zL x) :: rest)) := W.lcmp C0.1 C0.2.1 hdg (by unfold zlcmp at k; rw [zI_toInt] at k; exact k)
theorem z_lconst (C0 : zC p s m args c D cI cZ A cc nL own) {n : Fin 2} (v : Int) (hdg : decode cc pc = .ok (.lconst n, 1)) (hv : Int64.ofNat (n : Nat) = zL v) (k : W p l e R s m args below meth c H locs cells slots Q (F0 m (pc + 1) ls (.long (zL v) :: rest))) : W p l e R s m args below meth c H locs cells slots Q (F0 m pc ls rest) := lv_lconst C0.1 C0.2.1 hdg hv k
theorem z_dup (C0 : zC p s m args c D cI cZ A cc nL own) {va : Value} (hdg : decode cc pc = .ok (.dup, 1)) (hva : va.category = 1) (k : W p l e R s m args below meth c H locs cells slots Q (F0 m (pc + 1) ls (va :: va :: rest))) : W p l e R s m args below meth c H locs cells slots Q (F0 m pc ls (va :: rest)) := lv_dup C0.1 C0.2.1 hdg hva k
theorem z_goto (C0 : zC p s m args c D cI cZ A cc nL own) {off : Int} (tgt : Nat) (hdg : decode cc pc = .ok (.goto off, 3)) (ht : (pc : Int) + off = (tgt : Int)) (k : W p l e R s m args below meth c H locs cells slots Q (F0 m tgt ls rest)) : W p l e R s m args below meth c H locs cells slots Q (F0 m pc ls rest) := lv_goto C0.1 C0.2.1 hdg ht k
theorem zI_zero : zI 0 = 0 := rfl
theorem z_ifeq (C0 : zC p s m args c D cI cZ A cc nL own) {off : Int} (tgt : Nat) (hdg : decode cc pc = .ok (.ifCond .eq off, 3)) (ht : (pc : Int) + off = (tgt : Int)) (kt : zE x 0 → W p l e R s m args below meth c H locs cells slots Q (F0 m tgt ls rest)) (kf : ¬ zE x 0 → W p l e R s m args below meth c H locs cells slots Q (F0 m (pc + 3) ls rest)) : W p l e R s m args below meth c H locs cells slots Q (F0 m pc ls (.int (zI x) :: rest)) := lv_if_eq C0.1 C0.2.1 hdg ht kt kf
theorem z_ifne (C0 : zC p s m args c D cI cZ A cc nL own) {off : Int} (tgt : Nat) (hdg : decode cc pc = .ok (.ifCond .ne off, 3)) (ht : (pc : Int) + off = (tgt : Int)) (kt : ¬ zE x 0 → W p l e R s m args below meth c H locs cells slots Q (F0 m tgt ls rest)) (kf : zE x 0 → W p l e R s m args below meth c H locs cells slots Q (F0 m (pc + 3) ls rest)) : W p l e R s m args below meth c H locs cells slots Q (F0 m pc ls (.int (zI x) :: rest)) := lv_if_ne C0.1 C0.2.1 hdg ht kt kf
theorem z_iflt (C0 : zC p s m args c D cI cZ A cc nL own) {off : Int} (tgt : Nat) (hdg : decode cc pc = .ok (.ifCond .lt off, 3)) (ht : (pc : Int) + off = (tgt : Int)) (kt : zLt x 0 → W p l e R s m args below meth c H locs cells slots Q (F0 m tgt ls rest)) (kf : ¬ zLt x 0 → W p l e R s m args below meth c H locs cells slots Q (F0 m (pc + 3) ls rest)) : W p l e R s m args below meth c H locs cells slots Q (F0 m pc ls (.int (zI x) :: rest)) := lv_if_lt C0.1 C0.2.1 hdg ht kt kf
theorem z_ifge (C0 : zC p s m args c D cI cZ A cc nL own) {off : Int} (tgt : Nat) (hdg : decode cc pc = .ok (.ifCond .ge off, 3)) (ht : (pc : Int) + off = (tgt : Int)) (kt : zLe 0 x → W p l e R s m args below meth c H locs cells slots Q (F0 m tgt ls rest)) (kf : ¬ zLe 0 x → W p l e R s m args below meth c H locs cells slots Q (F0 m (pc + 3) ls rest)) : W p l e R s m args below meth c H locs cells slots Q (F0 m pc ls (.int (zI x) :: rest)) := lv_if_ge C0.1 C0.2.1 hdg ht kt kf
theorem z_ifgt (C0 : zC p s m args c D cI cZ A cc nL own) {off : Int} (tgt : Nat) (hdg : decode cc pc = .ok (.ifCond .gt off, 3)) (ht : (pc : Int) + off = (tgt : Int)) (kt : zLt 0 x → W p l e R s m args below meth c H locs cells slots Q (F0 m tgt ls rest)) (kf : ¬ zLt 0 x → W p l e R s m args below meth c H locs cells slots Q (F0 m (pc + 3) ls rest)) : W p l e R s m args below meth c H locs cells slots Q (F0 m pc ls (.int (zI x) :: rest)) := lv_if_gt C0.1 C0.2.1 hdg ht kt kf
theorem z_ifle (C0 : zC p s m args c D cI cZ A cc nL own) {off : Int} (tgt : Nat) (hdg : decode cc pc = .ok (.ifCond .le off, 3)) (ht : (pc : Int) + off = (tgt : Int)) (kt : zLe x 0 → W p l e R s m args below meth c H locs cells slots Q (F0 m tgt ls rest)) (kf : ¬ zLe x 0 → W p l e R s m args below meth c H locs cells slots Q (F0 m (pc + 3) ls rest)) : W p l e R s m args below meth c H locs cells slots Q (F0 m pc ls (.int (zI x) :: rest)) := lv_if_le C0.1 C0.2.1 hdg ht kt kf
theorem z_icmpeq (C0 : zC p s m args c D cI cZ A cc nL own) {off : Int} (tgt : Nat) (hdg : decode cc pc = .ok (.if_icmp .eq off, 3)) (ht : (pc : Int) + off = (tgt : Int)) (kt : zE x y → W p l e R s m args below meth c H locs cells slots Q (F0 m tgt ls rest)) (kf : ¬ zE x y → W p l e R s m args below meth c H locs cells slots Q (F0 m (pc + 3) ls rest)) : W p l e R s m args below meth c H locs cells slots Q (F0 m pc ls (.int (zI y) :: .int (zI x) :: rest)) := lv_icmp_eq C0.1 C0.2.1 hdg ht kt kf
theorem z_icmpne (C0 : zC p s m args c D cI cZ A cc nL own) {off : Int} (tgt : Nat) (hdg : decode cc pc = .ok (.if_icmp .ne off, 3)) (ht : (pc : Int) + off = (tgt : Int)) (kt : ¬ zE x y → W p l e R s m args below meth c H locs cells slots Q (F0 m tgt ls rest)) (kf : zE x y → W p l e R s m args below meth c H locs cells slots Q (F0 m (pc + 3) ls rest)) : W p l e R s m args below meth c H locs cells slots Q (F0 m pc ls (.int (zI y) :: .int (zI x) :: rest)) := lv_icmp_ne C0.1 C0.2.1 hdg ht kt kf
theorem z_icmplt (C0 : zC p s m args c D cI cZ A cc nL own) {off : Int} (tgt : Nat) (hdg : decode cc pc = .ok (.if_icmp .lt off, 3)) (ht : (pc : Int) + off = (tgt : Int)) (kt : zLt x y → W p l e R s m args below meth c H locs cells slots Q (F0 m tgt ls rest)) (kf : ¬ zLt x y → W p l e R s m args below meth c H locs cells slots Q (F0 m (pc + 3) ls rest)) : W p l e R s m args below meth c H locs cells slots Q (F0 m pc ls (.int (zI y) :: .int (zI x) :: rest)) := lv_icmp_lt C0.1 C0.2.1 hdg ht kt kf
theorem z_icmpge (C0 : zC p s m args c D cI cZ A cc nL own) {off : Int} (tgt : Nat) (hdg : decode cc pc = .ok (.if_icmp .ge off, 3)) (ht : (pc : Int) + off = (tgt : Int)) (kt : zLe y x → W p l e R s m args below meth c H locs cells slots Q (F0 m tgt ls rest)) (kf : ¬ zLe y x → W p l e R s m args below meth c H locs cells slots Q (F0 m (pc + 3) ls rest)) : W p l e R s m args below meth c H locs cells slots Q (F0 m pc ls (.int (zI y) :: .int (zI x) :: rest)) := lv_icmp_ge C0.1 C0.2.1 hdg ht kt kf
theorem z_icmpgt (C0 : zC p s m args c D cI cZ A cc nL own) {off : Int} (tgt : Nat) (hdg : decode cc pc = .ok (.if_icmp .gt off, 3)) (ht : (pc : Int) + off = (tgt : Int)) (kt : zLt y x → W p l e R s m args below meth c H locs cells slots Q (F0 m tgt ls rest)) (kf : ¬ zLt y x → W p l e R s m args below meth c H locs cells slots Q (F0 m (pc + 3) ls rest)) : W p l e R s m args below meth c H locs cells slots Q (F0 m pc ls (.int (zI y) :: .int (zI x) :: rest)) := lv_icmp_gt C0.1 C0.2.1 hdg ht kt kf
theorem z_icmple (C0 : zC p s m args c D cI cZ A cc nL own) {off : Int} (tgt : Nat) (hdg : decode cc pc = .ok (.if_icmp .le off, 3)) (ht : (pc : Int) + off = (tgt : Int)) (kt : zLe x y → W p l e R s m args below meth c H locs cells slots Q (F0 m tgt ls rest)) (kf : ¬ zLe x y → W p l e R s m args below meth c H locs cells slots Q (F0 m (pc + 3) ls rest)) : W p l e R s m args below meth c H locs cells slots Q (F0 m pc ls (.int (zI y) :: .int (zI x) :: rest)) := lv_icmp_le C0.1 C0.2.1 hdg ht kt kf
theorem z_iald (C0 : zC p s m args c D cI cZ A cc nL own) (hP : va_P D vwCl ws H) (q0 : Nat) {n : Nat} {f : Nat → Int} (ha : ws[q0]? = some (a, .inl (cI, n, .inl (za f)))) (hn : n < 2147483648) (hin : zIn x n) (hdg : decode cc pc = .ok (.iaload, 1)) (kk : W p l e R s m args below meth c H locs cells slots Q (F0 m (pc + 1) ls (.int (zI (f x.toNat)) :: rest))) : W p l e R s m args below meth c H locs cells slots Q (F0 m pc ls (.int (zI x) :: .ref a :: rest)) :=
  va_iald C0.1 C0.2.1 C0.2.2.2.2.2.1 hP q0 0 ha rfl (zI_in hn hin) hdg (by rw [zI_clamp hn hin]; exact kk)
theorem z_iast (C0 : zC p s m args c D cI cZ A cc nL own) (hP : va_P D vwCl ws H) (hD : va_D A ws) (hS : va_S A s.heap H locs) (q0 : Nat) {n : Nat} {f : Nat → Int} (ha : ws[q0]? = some (a, .inl (cI, n, .inl (za f)))) (hn : n < 2147483648) (hin : zIn x n) (hdg : decode cc pc = .ok (.iastore, 1)) (kk : ∀ (H1 : Heap) (locs1 : List Loc), va_P D vwCl (ws.set q0 (a, .inl (cI, n, .inl (za (zu f x y))))) H1 → va_S A s.heap H1 locs1 → W p l e R s m args below meth c H1 locs1 cells slots Q (F0 m (pc + 1) ls rest)) : W p l e R s m args below meth c H locs cells slots Q (F0 m pc ls (.int (zI y) :: .int (zI x) :: .ref a :: rest)) :=
  va_iast C0.1 C0.2.1 C0.2.2.2.2.2.1 hP hD hS q0 0 ha rfl (zI_in hn hin) hdg (fun H1 l1 h1 _ h3 => kk H1 l1 (by rw [← za_upd f x y hn hin]; exact h1) h3)
theorem znar {x : Int} (h : x = 0 ∨ x = 1) : narrow .boolean (.int (zI x)) = .int (zI x) := by rcases h with rfl | rfl <;> decide +kernel
theorem zfit {x : Int} (h : x = 0 ∨ x = 1) : fits .boolean (.int (zI x)) = true := by rcases h with rfl | rfl <;> decide +kernel
theorem z_alen (C0 : zC p s m args c D cI cZ A cc nL own) (hP : va_P D vwCl ws H) (q0 : Nat) {n : Nat} {f : (Nat → Int32) ⊕ (Nat → Int64) ⊕ (Nat → UInt32) ⊕ (Nat → UInt64) ⊕ (Nat → Option Nat)} (ha : ws[q0]? = some (a, .inl (cI, n, f))) (hdg : decode cc pc = .ok (.arraylength, 1)) (kk : W p l e R s m args below meth c H locs cells slots Q (F0 m (pc + 1) ls (.int (zI (n : Int)) :: rest))) : W p l e R s m args below meth c H locs cells slots Q (F0 m pc ls (.ref a :: rest)) :=
  va_alen C0.1 C0.2.1 C0.2.2.2.2.2.1 hP q0 0 ha rfl (zI_nat n).symm hdg kk
theorem z_tlen (C0 : zC p s m args c D cI cZ A cc nL own) {n : Nat} {f : Nat → Value} (hT : va_T .int a n f A s s.heap) (hS : va_S A s.heap H locs) (hdg : decode cc pc = .ok (.arraylength, 1)) (kk : W p l e R s m args below meth c H locs cells slots Q (F0 m (pc + 1) ls (.int (zI (n : Int)) :: rest))) : W p l e R s m args below meth c H locs cells slots Q (F0 m pc ls (.ref a :: rest)) :=
  va_tlen C0.1 C0.2.1 hT hS (zI_nat n).symm hdg kk
theorem z_tald (C0 : zC p s m args c D cI cZ A cc nL own) {n : Nat} {f : Nat → Int} (hT : va_T .int a n (fun j => .int (zI (f j))) A s s.heap) (hS : va_S A s.heap H locs) (hn : n < 2147483648) (hin : zIn x n) (hdg : decode cc pc = .ok (.iaload, 1)) (kk : W p l e R s m args below meth c H locs cells slots Q (F0 m (pc + 1) ls (.int (zI (f x.toNat)) :: rest))) : W p l e R s m args below meth c H locs cells slots Q (F0 m pc ls (.int (zI x) :: .ref a :: rest)) :=
  va_ti C0.1 C0.2.1 hT hS (zI_in hn hin) (v := .int (zI (f x.toNat))) (by rw [zI_clamp hn hin]) hdg kk
def zmax (x y : Int) : Int := if zLt x y then y else x
def zabs (x : Int) : Int := if zLe 0 x then x else 0 - x
theorem z_max (C0 : zC p s m args c D cI cZ A cc nL own) {index : Nat} (hls : ls.size = nL) (h1 : Cond.methodLink own index Lib.Math.max.name ∈ zTb) (h2 : Cond.static Lib.Math.max.name ∈ zTb) (h3 : Cond.initialized "java/lang/Math" ∈ zTb) (h4 : Cond.code Lib.Math.max.name Lib.Math.max.code 2 (some .int) ∈ zTb) (hframes : 1 ≤ R.frames) (hlocals : (rest.map fun v => v.category).sum + 13 ≤ R.locals) (hc : cells ≤ R.cells) (hs : slots ≤ R.slots) (hdg : decode cc pc = .ok (.invokestatic index, 3)) (kk : W p l e R s m args below meth c H locs cells slots Q (F0 m (pc + 3) ls (.int (zI (zmax x y)) :: rest))) : W p l e R s m args below meth c H locs cells slots Q (F0 m pc ls (.int (zI y) :: .int (zI x) :: rest)) := by
  refine va_mmax C0.1 C0.2.1 (C0.2.2.1.trans hls.symm) C0.2.2.2.1 (C0.2.2.2.2.1 _ h1) (C0.2.2.2.2.1 _ h2) (C0.2.2.2.2.1 _ h3) (C0.2.2.2.2.1 _ h4) hframes hlocals hc hs hdg ?_
  have e : (if zI x < zI y then zI y else zI x) = zI (zmax x y) := by
    unfold zmax
    split <;> rfl
  rw [e]
  exact kk
def zmin (x y : Int) : Int := if zLt y x then y else x
theorem z_min (C0 : zC p s m args c D cI cZ A cc nL own) {index : Nat} (hls : ls.size = nL) (h1 : Cond.methodLink own index Lib.Math.min.name ∈ zTb) (h2 : Cond.static Lib.Math.min.name ∈ zTb) (h3 : Cond.initialized "java/lang/Math" ∈ zTb) (h4 : Cond.code Lib.Math.min.name Lib.Math.min.code 2 (some .int) ∈ zTb) (hframes : 1 ≤ R.frames) (hlocals : (rest.map fun v => v.category).sum + 13 ≤ R.locals) (hc : cells ≤ R.cells) (hs : slots ≤ R.slots) (hdg : decode cc pc = .ok (.invokestatic index, 3)) (kk : W p l e R s m args below meth c H locs cells slots Q (F0 m (pc + 3) ls (.int (zI (zmin x y)) :: rest))) : W p l e R s m args below meth c H locs cells slots Q (F0 m pc ls (.int (zI y) :: .int (zI x) :: rest)) := by
  refine va_mmin C0.1 C0.2.1 (C0.2.2.1.trans hls.symm) C0.2.2.2.1 (C0.2.2.2.2.1 _ h1) (C0.2.2.2.2.1 _ h2) (C0.2.2.2.2.1 _ h3) (C0.2.2.2.2.1 _ h4) hframes hlocals hc hs hdg ?_
  have e : (if zI y < zI x then zI y else zI x) = zI (zmin x y) := by
    unfold zmin
    split <;> rfl
  rw [e]
  exact kk
theorem z_abs (C0 : zC p s m args c D cI cZ A cc nL own) {index : Nat} (hls : ls.size = nL) (h1 : Cond.methodLink own index Lib.Math.abs.name ∈ zTb) (h2 : Cond.static Lib.Math.abs.name ∈ zTb) (h3 : Cond.initialized "java/lang/Math" ∈ zTb) (h4 : Cond.code Lib.Math.abs.name Lib.Math.abs.code 1 (some .int) ∈ zTb) (hframes : 1 ≤ R.frames) (hlocals : (rest.map fun v => v.category).sum + 13 ≤ R.locals) (hc : cells ≤ R.cells) (hs : slots ≤ R.slots) (hdg : decode cc pc = .ok (.invokestatic index, 3)) (kk : W p l e R s m args below meth c H locs cells slots Q (F0 m (pc + 3) ls (.int (zI (zabs x)) :: rest))) : W p l e R s m args below meth c H locs cells slots Q (F0 m pc ls (.int (zI x) :: rest)) := by
  refine va_mabs C0.1 C0.2.1 (C0.2.2.1.trans hls.symm) C0.2.2.2.1 (C0.2.2.2.2.1 _ h1) (C0.2.2.2.2.1 _ h2) (C0.2.2.2.2.1 _ h3) (C0.2.2.2.2.1 _ h4) hframes hlocals hc hs hdg ?_
  have e : (if 0 ≤ zI x then zI x else 0 - zI x) = zI (zabs x) := by
    unfold zabs
    by_cases h : zLe 0 x
    · rw [if_pos h, if_pos (show (0 : Int32) ≤ zI x from h)]
    · rw [if_neg h, if_neg (show ¬ (0 : Int32) ≤ zI x from h)]
      exact zI_sub 0 x
  rw [e]
  exact kk
/-! ends -/
theorem z_iret {r : Int} {w1 : va_W} (C0 : zC p s m args c D cI cZ A cc nL own) (hr : meth.sig.returnType = some .int) (hlk : meth.locks = false) (hP : va_P D vwCl w1 H) (hS : va_S A s.heap H locs) (hdg : decode cc pc = .ok (.ireturn, 1)) : W p l e R s m args below meth c H locs cells slots (MQ below (va_Qi (fun r' (_ : Unit) => r' = zI r) (fun _ t => va_P D vwCl w1 t.heap) A) args s cells slots A) (F0 m pc ls [.int (zI r)]) :=
  W.iret C0.1 C0.2.1 hr (fun t ht _ => ⟨⟨_, (), rfl, rfl, by show va_P D vwCl w1 t.heap; rw [ht]; exact hP⟩, hS.F ht⟩) hS.2.2 hdg hlk
theorem z_zret {r : Int} {w1 : va_W} (C0 : zC p s m args c D cI cZ A cc nL own) (hr : meth.sig.returnType = some .boolean) (hlk : meth.locks = false) (hz : r = 0 ∨ r = 1) (hP : va_P D vwCl w1 H) (hS : va_S A s.heap H locs) (hdg : decode cc pc = .ok (.ireturn, 1)) : W p l e R s m args below meth c H locs cells slots (MQ below (va_Qi (fun r' (_ : Unit) => r' = zI r) (fun _ t => va_P D vwCl w1 t.heap) A) args s cells slots A) (F0 m pc ls [.int (zI r)]) :=
  W.zret C0.1 C0.2.1 hr (znar hz) (fun t ht _ => ⟨⟨_, (), rfl, rfl, by show va_P D vwCl w1 t.heap; rw [ht]; exact hP⟩, hS.F ht⟩) hS.2.2 hdg hlk
theorem z_lret {r : Int} {w1 : va_W} (C0 : zC p s m args c D cI cZ A cc nL own) (hr : meth.sig.returnType = some .long) (hlk : meth.locks = false) (hP : va_P D vwCl w1 H) (hS : va_S A s.heap H locs) (hdg : decode cc pc = .ok (.lreturn, 1)) : W p l e R s m args below meth c H locs cells slots (MQ below (va_Ql (fun r' (_ : Unit) => r' = zL r) (fun _ t => va_P D vwCl w1 t.heap) A) args s cells slots A) (F0 m pc ls [.long (zL r)]) :=
  W.lret C0.1 C0.2.1 hr (fun t ht _ => ⟨⟨_, (), rfl, rfl, by show va_P D vwCl w1 t.heap; rw [ht]; exact hP⟩, hS.F ht⟩) hS.2.2 hdg hlk
theorem z_vret {w1 : va_W} (C0 : zC p s m args c D cI cZ A cc nL own) (hr : meth.sig.returnType = none) (hlk : meth.locks = false) (hP : va_P D vwCl w1 H) (hS : va_S A s.heap H locs) (hdg : decode cc pc = .ok (.return_, 1)) : W p l e R s m args below meth c H locs cells slots (MQ below (va_Qv (fun (_ : Unit) => True) (fun _ t => va_P D vwCl w1 t.heap) A) args s cells slots A) (F0 m pc ls []) :=
  W.vret C0.1 C0.2.1 hr (fun t ht _ => ⟨⟨(), rfl, trivial, by show va_P D vwCl w1 t.heap; rw [ht]; exact hP⟩, hS.F ht⟩) hS.2.2 hdg hlk
theorem zif_pos {α : Type} {c : Prop} {hd : Decidable c} {a b o : Option α} (h : ite c a b = o) (hc : c) : a = o := by rw [← h, if_pos hc]
theorem zif_neg {α : Type} {c : Prop} {hd : Decidable c} {a b o : Option α} (h : ite c a b = o) (hc : ¬ c) : b = o := by rw [← h, if_neg hc]
theorem z_name {v : Int} (h : x = v) (k : W p l e R s m args below meth c H locs cells slots Q (F0 m pc ls (.int (zI v) :: rest))) : W p l e R s m args below meth c H locs cells slots Q (F0 m pc ls (.int (zI x) :: rest)) := by subst h; exact k
theorem z_nameL {v : Int} (h : x = v) (k : W p l e R s m args below meth c H locs cells slots Q (F0 m pc ls (.long (zL v) :: rest))) : W p l e R s m args below meth c H locs cells slots Q (F0 m pc ls (.long (zL x) :: rest)) := by subst h; exact k
theorem z_ldcw (C0 : zC p s m args c D cI cZ A cc nL own) {index : Nat} (hw : Cond.constant own index (zI x) ∈ zTb) (hdg : decode cc pc = .ok (.ldc_w index, 3)) (k : W p l e R s m args below meth c H locs cells slots Q (F0 m (pc + 3) ls (.int (zI x) :: rest))) : W p l e R s m args below meth c H locs cells slots Q (F0 m pc ls rest) := lv_ldcw C0.1 C0.2.1 C0.2.2.2.1 (C0.2.2.2.2.1 _ hw) hdg k
theorem z_ldc (C0 : zC p s m args c D cI cZ A cc nL own) {index : Nat} (hw : Cond.constant own index (zI x) ∈ zTb) (hdg : decode cc pc = .ok (.ldc index, 2)) (k : W p l e R s m args below meth c H locs cells slots Q (F0 m (pc + 2) ls (.int (zI x) :: rest))) : W p l e R s m args below meth c H locs cells slots Q (F0 m pc ls rest) := lv_ldc C0.1 C0.2.1 C0.2.2.2.1 (C0.2.2.2.2.1 _ hw) hdg k
theorem z_ldc2 (C0 : zC p s m args c D cI cZ A cc nL own) {index : Nat} (hw : Cond.constantLong own index (zL x) ∈ zTb) (hdg : decode cc pc = .ok (.ldc2_w index, 3)) (k : W p l e R s m args below meth c H locs cells slots Q (F0 m (pc + 3) ls (.long (zL x) :: rest))) : W p l e R s m args below meth c H locs cells slots Q (F0 m pc ls rest) := lv_ldc2 C0.1 C0.2.1 C0.2.2.2.1 (C0.2.2.2.2.1 _ hw) hdg k
theorem z_gets (C0 : zC p s m args c D cI cZ A cc nL own) {C n : String} {index t : Nat} (hZ : va_Z C n "[I" (.ref t) A s s.heap) (hS : va_S A s.heap H locs) (hw : Cond.fieldLink own index C n "[I" ∈ zTb) (hdg : decode cc pc = .ok (.getstatic index, 3)) (kk : W p l e R s m args below meth c H locs cells slots Q (F0 m (pc + 3) ls (.ref t :: rest))) : W p l e R s m args below meth c H locs cells slots Q (F0 m pc ls rest) := va_gets C0.1 C0.2.1 hZ hS C0.2.2.2.1 (C0.2.2.2.2.1 _ hw) (fun _ h => h) hdg kk
theorem z_tabIn (C0 : zC p s m args c D cI cZ A cc nL own) {k : Int} (hk : zE x k) {dflt lo hi : Int} {offs : Array Int} {len : Nat} {off : Int} (tgt : Nat) (hdg : decode cc pc = .ok (.tableswitch dflt lo hi offs, len)) (h1 : ¬ (zI k).toInt < lo) (h2 : ¬ hi < (zI k).toInt) (ho : offs[((zI k).toInt - lo).toNat]? = some off) (ht : (pc : Int) + off = (tgt : Int)) (kk : W p l e R s m args below meth c H locs cells slots Q (F0 m tgt ls rest)) : W p l e R s m args below meth c H locs cells slots Q (F0 m pc ls (.int (zI x) :: rest)) := by
  rw [show zI x = zI k from hk]
  exact lv_tableIn C0.1 C0.2.1 hdg h1 h2 ho ht kk
theorem z_tabOut (C0 : zC p s m args c D cI cZ A cc nL own) {dflt lo hi : Int} {offs : Array Int} {len : Nat} (tgt : Nat) (hdg : decode cc pc = .ok (.tableswitch dflt lo hi offs, len)) (h : (zI x).toInt < lo ∨ hi < (zI x).toInt) (ht : (pc : Int) + dflt = (tgt : Int)) (kk : W p l e R s m args below meth c H locs cells slots Q (F0 m tgt ls rest)) : W p l e R s m args below meth c H locs cells slots Q (F0 m pc ls (.int (zI x) :: rest)) := lv_tableOut C0.1 C0.2.1 hdg h ht kk
theorem zsw (n : Nat) (h : ∀ k : Nat, k ≤ n → ¬ zE x (k : Int)) : (zI x).toInt < 0 ∨ (n : Int) < (zI x).toInt := by
  apply Classical.byContradiction
  intro hc
  have h1 : 0 ≤ (zI x).toInt := by omega
  obtain ⟨k, hk⟩ := Int.eq_ofNat_of_zero_le h1
  refine h k (by omega) ?_
  show zI x = zI (k : Int)
  rw [← hk, zI_toInt]
/-! entries -/
theorem z_enter_i {y : MethodName} {cc : ByteArray} {maxL : Nat} {rm : Room} {av : List Value} {D : va_G} {cI cZ : ClassId} {ws w1 : va_W} {sz : Nat} {own : String} {r : Int} (hy : plainName y.cls = true) (hown : y.cls = own) (hmax : (lg_sl av).length ≤ maxL)
    (body : ∀ (p : Program) (e : Env) (s : State) (m : MethodId) (args : Array Value) (below : List Frame) (meth : Method) (c : Code) (A : Nat → Prop) (Q : State → Prop), zC p s m args c D cI cZ A cc maxL own → va_P D vwCl ws s.heap → va_D A ws → va_S A s.heap s.heap [] → (∀ {pc : Nat} {H : Heap} {locs : List Loc} {ls : Array Slot}, va_P D vwCl w1 H → va_S A s.heap H locs → decode cc pc = .ok (.ireturn, 1) → W p l e rm s m args below meth c H locs 0 0 Q (F0 m pc ls [.int (zI r)])) → ∀ ls : Array Slot, lv_has ls maxL (lv_args 0 av) → W p l e rm s m args below meth c s.heap [] 0 0 Q (F0 m 0 ls [])) :
    Met l y (zW y cc maxL (some .int)) rm (va_Pc av (zPre D cI cZ ws sz)) (va_Qi (fun r' (_ : Unit) => r' = zI r) (fun _ t => va_P D vwCl w1 t.heap) (va_A ws sz)) 0 0 (va_A ws sz) := by
  refine Met.ofW (cc := cc) (maxL := maxL) (ret := some .int) hy rfl ?_
  intro p e s m args below meth c s₁ B0 hml hv
  obtain ⟨rfl, hsz, hP, hK, hD0⟩ := hv
  have hts := atoms_spec (ws := zW y cc maxL (some .int)) B0.pre
  have hown' : s.vm.findClass own = some m.cls := hown ▸ findClass_of_methodNamed B0.named
  subst hsz
  rw [lg_entry_eq]
  have C0 : zC p s m av.toArray c D cI cZ (va_A ws s.heap.size) cc maxL own := ⟨B0.exec, B0.bytes, hml, hown', fun w hw => hts w (List.mem_cons_of_mem _ hw), hK, fun q h => Or.inr h⟩
  exact body p e s m _ below meth c _ _ C0 hP hD0.self va_S.rf (fun hP hS hd => z_iret C0 B0.returns B0.notSynchronized hP hS hd) _ (lv_entry av hmax)
theorem z_enter_z {y : MethodName} {cc : ByteArray} {maxL : Nat} {rm : Room} {av : List Value} {D : va_G} {cI cZ : ClassId} {ws w1 : va_W} {sz : Nat} {own : String} {r : Int} (hy : plainName y.cls = true) (hown : y.cls = own) (hmax : (lg_sl av).length ≤ maxL)
    (body : ∀ (p : Program) (e : Env) (s : State) (m : MethodId) (args : Array Value) (below : List Frame) (meth : Method) (c : Code) (A : Nat → Prop) (Q : State → Prop), zC p s m args c D cI cZ A cc maxL own → va_P D vwCl ws s.heap → va_D A ws → va_S A s.heap s.heap [] → (∀ {pc : Nat} {H : Heap} {locs : List Loc} {ls : Array Slot}, (r = 0 ∨ r = 1) → va_P D vwCl w1 H → va_S A s.heap H locs → decode cc pc = .ok (.ireturn, 1) → W p l e rm s m args below meth c H locs 0 0 Q (F0 m pc ls [.int (zI r)])) → ∀ ls : Array Slot, lv_has ls maxL (lv_args 0 av) → W p l e rm s m args below meth c s.heap [] 0 0 Q (F0 m 0 ls [])) :
    Met l y (zW y cc maxL (some .boolean)) rm (va_Pc av (zPre D cI cZ ws sz)) (va_Qi (fun r' (_ : Unit) => r' = zI r) (fun _ t => va_P D vwCl w1 t.heap) (va_A ws sz)) 0 0 (va_A ws sz) := by
  refine Met.ofW (cc := cc) (maxL := maxL) (ret := some .boolean) hy rfl ?_
  intro p e s m args below meth c s₁ B0 hml hv
  obtain ⟨rfl, hsz, hP, hK, hD0⟩ := hv
  have hts := atoms_spec (ws := zW y cc maxL (some .boolean)) B0.pre
  have hown' : s.vm.findClass own = some m.cls := hown ▸ findClass_of_methodNamed B0.named
  subst hsz
  rw [lg_entry_eq]
  have C0 : zC p s m av.toArray c D cI cZ (va_A ws s.heap.size) cc maxL own := ⟨B0.exec, B0.bytes, hml, hown', fun w hw => hts w (List.mem_cons_of_mem _ hw), hK, fun q h => Or.inr h⟩
  exact body p e s m _ below meth c _ _ C0 hP hD0.self va_S.rf (fun hz hP hS hd => z_zret C0 B0.returns B0.notSynchronized hz hP hS hd) _ (lv_entry av hmax)
theorem z_enter_l {y : MethodName} {cc : ByteArray} {maxL : Nat} {rm : Room} {av : List Value} {D : va_G} {cI cZ : ClassId} {ws w1 : va_W} {sz : Nat} {own : String} {r : Int} (hy : plainName y.cls = true) (hown : y.cls = own) (hmax : (lg_sl av).length ≤ maxL)
    (body : ∀ (p : Program) (e : Env) (s : State) (m : MethodId) (args : Array Value) (below : List Frame) (meth : Method) (c : Code) (A : Nat → Prop) (Q : State → Prop), zC p s m args c D cI cZ A cc maxL own → va_P D vwCl ws s.heap → va_D A ws → va_S A s.heap s.heap [] → (∀ {pc : Nat} {H : Heap} {locs : List Loc} {ls : Array Slot}, va_P D vwCl w1 H → va_S A s.heap H locs → decode cc pc = .ok (.lreturn, 1) → W p l e rm s m args below meth c H locs 0 0 Q (F0 m pc ls [.long (zL r)])) → ∀ ls : Array Slot, lv_has ls maxL (lv_args 0 av) → W p l e rm s m args below meth c s.heap [] 0 0 Q (F0 m 0 ls [])) :
    Met l y (zW y cc maxL (some .long)) rm (va_Pc av (zPre D cI cZ ws sz)) (va_Ql (fun r' (_ : Unit) => r' = zL r) (fun _ t => va_P D vwCl w1 t.heap) (va_A ws sz)) 0 0 (va_A ws sz) := by
  refine Met.ofW (cc := cc) (maxL := maxL) (ret := some .long) hy rfl ?_
  intro p e s m args below meth c s₁ B0 hml hv
  obtain ⟨rfl, hsz, hP, hK, hD0⟩ := hv
  have hts := atoms_spec (ws := zW y cc maxL (some .long)) B0.pre
  have hown' : s.vm.findClass own = some m.cls := hown ▸ findClass_of_methodNamed B0.named
  subst hsz
  rw [lg_entry_eq]
  have C0 : zC p s m av.toArray c D cI cZ (va_A ws s.heap.size) cc maxL own := ⟨B0.exec, B0.bytes, hml, hown', fun w hw => hts w (List.mem_cons_of_mem _ hw), hK, fun q h => Or.inr h⟩
  exact body p e s m _ below meth c _ _ C0 hP hD0.self va_S.rf (fun hP hS hd => z_lret C0 B0.returns B0.notSynchronized hP hS hd) _ (lv_entry av hmax)
theorem z_enter_v {y : MethodName} {cc : ByteArray} {maxL : Nat} {rm : Room} {av : List Value} {D : va_G} {cI cZ : ClassId} {ws w1 : va_W} {sz : Nat} {own : String} (hy : plainName y.cls = true) (hown : y.cls = own) (hmax : (lg_sl av).length ≤ maxL)
    (body : ∀ (p : Program) (e : Env) (s : State) (m : MethodId) (args : Array Value) (below : List Frame) (meth : Method) (c : Code) (A : Nat → Prop) (Q : State → Prop), zC p s m args c D cI cZ A cc maxL own → va_P D vwCl ws s.heap → va_D A ws → va_S A s.heap s.heap [] → (∀ {pc : Nat} {H : Heap} {locs : List Loc} {ls : Array Slot}, va_P D vwCl w1 H → va_S A s.heap H locs → decode cc pc = .ok (.return_, 1) → W p l e rm s m args below meth c H locs 0 0 Q (F0 m pc ls [])) → ∀ ls : Array Slot, lv_has ls maxL (lv_args 0 av) → W p l e rm s m args below meth c s.heap [] 0 0 Q (F0 m 0 ls [])) :
    Met l y (zW y cc maxL (none)) rm (va_Pc av (zPre D cI cZ ws sz)) (va_Qv (fun (_ : Unit) => True) (fun _ t => va_P D vwCl w1 t.heap) (va_A ws sz)) 0 0 (va_A ws sz) := by
  refine Met.ofW (cc := cc) (maxL := maxL) (ret := none) hy rfl ?_
  intro p e s m args below meth c s₁ B0 hml hv
  obtain ⟨rfl, hsz, hP, hK, hD0⟩ := hv
  have hts := atoms_spec (ws := zW y cc maxL (none)) B0.pre
  have hown' : s.vm.findClass own = some m.cls := hown ▸ findClass_of_methodNamed B0.named
  subst hsz
  rw [lg_entry_eq]
  have C0 : zC p s m av.toArray c D cI cZ (va_A ws s.heap.size) cc maxL own := ⟨B0.exec, B0.bytes, hml, hown', fun w hw => hts w (List.mem_cons_of_mem _ hw), hK, fun q h => Or.inr h⟩
  exact body p e s m _ below meth c _ _ C0 hP hD0.self va_S.rf (fun hP hS hd => z_vret C0 B0.returns B0.notSynchronized hP hS hd) _ (lv_entry av hmax)
theorem z_enterS_i {y : MethodName} {cc : ByteArray} {maxL : Nat} {rm : Room} {av : List Value} {D : va_G} {cI cZ : ClassId} {ws w1 : va_W} {sz : Nat} {own : String} {r : Int} (hy : plainName y.cls = true) (hown : y.cls = own) (hmax : (lg_sl av).length ≤ maxL)
    (body : ∀ (p : Program) (e : Env) (s : State) (m : MethodId) (args : Array Value) (below : List Frame) (meth : Method) (c : Code) (A : Nat → Prop) (Q : State → Prop), zC p s m args c D cI cZ A cc maxL own → va_P D vwCl ws s.heap → va_D A ws → va_S A s.heap s.heap [] → zSt A s s.heap → (∀ {pc : Nat} {H : Heap} {locs : List Loc} {ls : Array Slot}, va_P D vwCl w1 H → va_S A s.heap H locs → decode cc pc = .ok (.ireturn, 1) → W p l e rm s m args below meth c H locs 0 0 Q (F0 m pc ls [.int (zI r)])) → ∀ ls : Array Slot, lv_has ls maxL (lv_args 0 av) → W p l e rm s m args below meth c s.heap [] 0 0 Q (F0 m 0 ls [])) :
    Met l y (zW y cc maxL (some .int)) rm (va_Pc av (zPreS D cI cZ ws sz)) (va_Qi (fun r' (_ : Unit) => r' = zI r) (fun _ t => va_P D vwCl w1 t.heap) (va_A ws sz)) 0 0 (va_A ws sz) := by
  refine Met.ofW (cc := cc) (maxL := maxL) (ret := some .int) hy rfl ?_
  intro p e s m args below meth c s₁ B0 hml hv
  obtain ⟨rfl, ⟨hsz, hP, hK, hD0⟩, hZ⟩ := hv
  have hts := atoms_spec (ws := zW y cc maxL (some .int)) B0.pre
  have hown' : s.vm.findClass own = some m.cls := hown ▸ findClass_of_methodNamed B0.named
  subst hsz
  rw [lg_entry_eq]
  have C0 : zC p s m av.toArray c D cI cZ (va_A ws s.heap.size) cc maxL own := ⟨B0.exec, B0.bytes, hml, hown', fun w hw => hts w (List.mem_cons_of_mem _ hw), hK, fun q h => Or.inr h⟩
  exact body p e s m _ below meth c _ _ C0 hP hD0.self va_S.rf hZ (fun hP hS hd => z_iret C0 B0.returns B0.notSynchronized hP hS hd) _ (lv_entry av hmax)
theorem z_enterS_v {y : MethodName} {cc : ByteArray} {maxL : Nat} {rm : Room} {av : List Value} {D : va_G} {cI cZ : ClassId} {ws w1 : va_W} {sz : Nat} {own : String} (hy : plainName y.cls = true) (hown : y.cls = own) (hmax : (lg_sl av).length ≤ maxL)
    (body : ∀ (p : Program) (e : Env) (s : State) (m : MethodId) (args : Array Value) (below : List Frame) (meth : Method) (c : Code) (A : Nat → Prop) (Q : State → Prop), zC p s m args c D cI cZ A cc maxL own → va_P D vwCl ws s.heap → va_D A ws → va_S A s.heap s.heap [] → zSt A s s.heap → (∀ {pc : Nat} {H : Heap} {locs : List Loc} {ls : Array Slot}, va_P D vwCl w1 H → va_S A s.heap H locs → decode cc pc = .ok (.return_, 1) → W p l e rm s m args below meth c H locs 0 0 Q (F0 m pc ls [])) → ∀ ls : Array Slot, lv_has ls maxL (lv_args 0 av) → W p l e rm s m args below meth c s.heap [] 0 0 Q (F0 m 0 ls [])) :
    Met l y (zW y cc maxL (none)) rm (va_Pc av (zPreS D cI cZ ws sz)) (va_Qv (fun (_ : Unit) => True) (fun _ t => va_P D vwCl w1 t.heap) (va_A ws sz)) 0 0 (va_A ws sz) := by
  refine Met.ofW (cc := cc) (maxL := maxL) (ret := none) hy rfl ?_
  intro p e s m args below meth c s₁ B0 hml hv
  obtain ⟨rfl, ⟨hsz, hP, hK, hD0⟩, hZ⟩ := hv
  have hts := atoms_spec (ws := zW y cc maxL (none)) B0.pre
  have hown' : s.vm.findClass own = some m.cls := hown ▸ findClass_of_methodNamed B0.named
  subst hsz
  rw [lg_entry_eq]
  have C0 : zC p s m av.toArray c D cI cZ (va_A ws s.heap.size) cc maxL own := ⟨B0.exec, B0.bytes, hml, hown', fun w hw => hts w (List.mem_cons_of_mem _ hw), hK, fun q h => Or.inr h⟩
  exact body p e s m _ below meth c _ _ C0 hP hD0.self va_S.rf hZ (fun hP hS hd => z_vret C0 B0.returns B0.notSynchronized hP hS hd) _ (lv_entry av hmax)
/-! calls -/
theorem zgoodc {ws : List Cond} (h : ∀ w ∈ ws, w ∈ zTb) : GoodIn zTb ws := fun w hw => zgood w (h w hw)
theorem z_cwV {own C : String} {index maxL n : Nat} {y : MethodName} {bytes : ByteArray} {ret : Option FieldType} {rm R : Room} {s : State} {args : Array Value} (h1 : Cond.methodLink own index y ∈ zTb) (h2 : Cond.instanceMethod y ∈ zTb) (h3 : Cond.selects C y y ∈ zTb) (h4 : Cond.initialized C ∈ zTb) (h5 : Cond.code y bytes maxL ret ∈ zTb) (hc : rm.cells = 0) (hs : rm.slots = 0)
    (hd : y.cls = C ∧ y.cls ≠ "java/lang/invoke/MethodHandle" ∧ y.cls ≠ "java/lang/invoke/VarHandle" ∧ (parseMethodDescriptor y.desc).map (fun d => d.parameters.length) = some n) (hR : rm.frames + 1 ≤ R.frames ∧ 8 + (maxL + 11) + rm.locals ≤ R.locals) (ht : ∀ w ∈ zTb, w.before args s = true) :
    CallW R s args own C index y bytes maxL ret (zW y bytes maxL ret) rm 0 0 n :=
  cwV n ht (zgoodc (fun w hw => by
    rcases List.mem_append.mp hw with h | h
    · simp only [List.mem_cons, List.not_mem_nil, or_false] at h
      rcases h with rfl | rfl | rfl | rfl <;> assumption
    · rcases List.mem_cons.mp h with rfl | h
      · exact h5
      · exact h)) rfl hc hs hd hR
theorem z_cwS {own : String} {index maxL n : Nat} {y : MethodName} {bytes : ByteArray} {ret : Option FieldType} {rm R : Room} {s : State} {args : Array Value} (h1 : Cond.methodLink own index y ∈ zTb) (h2 : Cond.static y ∈ zTb) (h4 : Cond.initialized y.cls ∈ zTb) (h5 : Cond.code y bytes maxL ret ∈ zTb) (hc : rm.cells = 0) (hs : rm.slots = 0)
    (hd : y.cls ≠ "java/lang/invoke/MethodHandle" ∧ y.cls ≠ "java/lang/invoke/VarHandle" ∧ (parseMethodDescriptor y.desc).map (fun d => d.parameters.length) = some n) (hR : rm.frames + 1 ≤ R.frames ∧ 8 + (maxL + 11) + rm.locals ≤ R.locals) (ht : ∀ w ∈ zTb, w.before args s = true) :
    CallB R s args own index y bytes maxL ret (zW y bytes maxL ret) rm 0 0 n ∧ (Cond.static y).before args s = true :=
  va_cwS n ht (zgoodc (fun w hw => by
    rcases List.mem_append.mp hw with h | h
    · simp only [List.mem_cons, List.not_mem_nil, or_false] at h
      rcases h with rfl | rfl | rfl <;> assumption
    · rcases List.mem_cons.mp h with rfl | h
      · exact h5
      · exact h)) rfl hc hs hd hR
theorem zsubP {wc : va_W} (hP : va_P D vwCl ws H) {isC : List Nat} (hC : isC.map (fun i => ws[i]?) = wc.map some) : va_P D vwCl wc H := by
  intro k q hq
  have h1 : (isC.map (fun i => ws[i]?))[k]? = some (some q) := by rw [hC, List.getElem?_map, hq]; rfl
  rw [List.getElem?_map] at h1
  cases hi : isC[k]? with
  | none => rw [hi] at h1; cases h1
  | some i => rw [hi] at h1; exact hP i q (Option.some.inj h1)
theorem z_callVi {y : MethodName} {bytes : ByteArray} {maxL n index : Nat} {ret : Option FieldType} {rm : Room} {r : Int} {wc w1 ws' : va_W} {C : String} {b : Nat} {As st0 : List Value} {fs : List Value} {T : u_T} {N : Nat} (C0 : zC p s m args c D cI cZ A cc nL own) (hP : va_P D vwCl ws H) (hD : va_D A ws) (hS : va_S A s.heap H locs) (isC : List Nat) (hC : isC.map (fun i => ws[i]?) = wc.map some)
    (hM : Met l y (zW y bytes maxL ret) rm (va_Pc (.ref b :: As) (zPre D cI cZ wc H.size)) (va_Qi (fun r' (_ : Unit) => r' = zI r) (fun _ t => va_P D vwCl w1 t.heap) (va_A wc H.size)) 0 0 (va_A wc H.size)) (cw : CallW R s args own C index y bytes maxL ret (zW y bytes maxL ret) rm 0 0 n) (hn : va_nd isC = true) (ci : Nat) (he : wc[0]? = some (b, .inr (ci, fs))) (hci : vwCl[ci]? = some (C, T, N))
    (hst : st0 = As.reverse ++ .ref b :: rest) (hlen : As.length = n) (hls : ls.size = nL) (hroom : (rest.map fun v => v.category).sum ≤ 8) (hdg : decode cc pc = .ok (.invokevirtual index, 3)) (hcs : cells ≤ R.cells ∧ slots ≤ R.slots) (hw : zrep ws isC w1 = ws') (hl1 : isC.length ≤ w1.length)
    (kk : ∀ (H1 : Heap) (locs1 : List Loc), va_P D vwCl ws' H1 → va_S A s.heap H1 locs1 → W p l e R s m args below meth c H1 locs1 cells slots Q (F0 m (pc + 3) ls (.int (zI r) :: rest))) : W p l e R s m args below meth c H locs cells slots Q (F0 m pc ls st0) := by
  have hPc := zsubP hP hC
  have hDc : va_D A wc := hD.sub isC hn hC
  have hF := va_free hD hS C0.2.2.2.2.2.2 isC hC
  refine va_calli (va_runV ⟨C0.1, C0.2.1, C0.2.2.1, C0.2.2.2.1, C0.2.2.2.2.1⟩ hM cw ⟨zPre_blind, va_recv (q0 := 0) C0.2.2.2.2.2.1 hPc hci he, fun U hU hW => ⟨rfl, zPre_ok hPc C0.2.2.2.2.2.1 hDc U hU hW⟩⟩ rfl hlen hls hst (lv_room hroom) hdg hcs) hS (fun q _ h => hF q h) hF (fun r' u t H1 locs1 ht hvm hr hB hz1 hk1 hS1 => ?_)
  subst hr
  rw [ht] at hB
  subst hw
  exact kk H1 locs1 (zjoin hP hD isC hC hk1 hB hl1) hS1
theorem z_callVl {y : MethodName} {bytes : ByteArray} {maxL n index : Nat} {ret : Option FieldType} {rm : Room} {r : Int} {wc w1 ws' : va_W} {C : String} {b : Nat} {As st0 : List Value} {fs : List Value} {T : u_T} {N : Nat} (C0 : zC p s m args c D cI cZ A cc nL own) (hP : va_P D vwCl ws H) (hD : va_D A ws) (hS : va_S A s.heap H locs) (isC : List Nat) (hC : isC.map (fun i => ws[i]?) = wc.map some)
    (hM : Met l y (zW y bytes maxL ret) rm (va_Pc (.ref b :: As) (zPre D cI cZ wc H.size)) (va_Ql (fun r' (_ : Unit) => r' = zL r) (fun _ t => va_P D vwCl w1 t.heap) (va_A wc H.size)) 0 0 (va_A wc H.size)) (cw : CallW R s args own C index y bytes maxL ret (zW y bytes maxL ret) rm 0 0 n) (hn : va_nd isC = true) (ci : Nat) (he : wc[0]? = some (b, .inr (ci, fs))) (hci : vwCl[ci]? = some (C, T, N))
    (hst : st0 = As.reverse ++ .ref b :: rest) (hlen : As.length = n) (hls : ls.size = nL) (hroom : (rest.map fun v => v.category).sum ≤ 8) (hdg : decode cc pc = .ok (.invokevirtual index, 3)) (hcs : cells ≤ R.cells ∧ slots ≤ R.slots) (hw : zrep ws isC w1 = ws') (hl1 : isC.length ≤ w1.length)
    (kk : ∀ (H1 : Heap) (locs1 : List Loc), va_P D vwCl ws' H1 → va_S A s.heap H1 locs1 → W p l e R s m args below meth c H1 locs1 cells slots Q (F0 m (pc + 3) ls (.long (zL r) :: rest))) : W p l e R s m args below meth c H locs cells slots Q (F0 m pc ls st0) := by
  have hPc := zsubP hP hC
  have hDc : va_D A wc := hD.sub isC hn hC
  have hF := va_free hD hS C0.2.2.2.2.2.2 isC hC
  refine va_calll (va_runV ⟨C0.1, C0.2.1, C0.2.2.1, C0.2.2.2.1, C0.2.2.2.2.1⟩ hM cw ⟨zPre_blind, va_recv (q0 := 0) C0.2.2.2.2.2.1 hPc hci he, fun U hU hW => ⟨rfl, zPre_ok hPc C0.2.2.2.2.2.1 hDc U hU hW⟩⟩ rfl hlen hls hst (lv_room hroom) hdg hcs) hS (fun q _ h => hF q h) hF (fun r' u t H1 locs1 ht hvm hr hB hz1 hk1 hS1 => ?_)
  subst hr
  rw [ht] at hB
  subst hw
  exact kk H1 locs1 (zjoin hP hD isC hC hk1 hB hl1) hS1
theorem z_callVv {y : MethodName} {bytes : ByteArray} {maxL n index : Nat} {ret : Option FieldType} {rm : Room} {wc w1 ws' : va_W} {C : String} {b : Nat} {As st0 : List Value} {fs : List Value} {T : u_T} {N : Nat} (C0 : zC p s m args c D cI cZ A cc nL own) (hP : va_P D vwCl ws H) (hD : va_D A ws) (hS : va_S A s.heap H locs) (isC : List Nat) (hC : isC.map (fun i => ws[i]?) = wc.map some)
    (hM : Met l y (zW y bytes maxL ret) rm (va_Pc (.ref b :: As) (zPre D cI cZ wc H.size)) (va_Qv (fun (_ : Unit) => True) (fun _ t => va_P D vwCl w1 t.heap) (va_A wc H.size)) 0 0 (va_A wc H.size)) (cw : CallW R s args own C index y bytes maxL ret (zW y bytes maxL ret) rm 0 0 n) (hn : va_nd isC = true) (ci : Nat) (he : wc[0]? = some (b, .inr (ci, fs))) (hci : vwCl[ci]? = some (C, T, N))
    (hst : st0 = As.reverse ++ .ref b :: rest) (hlen : As.length = n) (hls : ls.size = nL) (hroom : (rest.map fun v => v.category).sum ≤ 8) (hdg : decode cc pc = .ok (.invokevirtual index, 3)) (hcs : cells ≤ R.cells ∧ slots ≤ R.slots) (hw : zrep ws isC w1 = ws') (hl1 : isC.length ≤ w1.length)
    (kk : ∀ (H1 : Heap) (locs1 : List Loc), va_P D vwCl ws' H1 → va_S A s.heap H1 locs1 → W p l e R s m args below meth c H1 locs1 cells slots Q (F0 m (pc + 3) ls rest)) : W p l e R s m args below meth c H locs cells slots Q (F0 m pc ls st0) := by
  have hPc := zsubP hP hC
  have hDc : va_D A wc := hD.sub isC hn hC
  have hF := va_free hD hS C0.2.2.2.2.2.2 isC hC
  refine va_callv (va_runV ⟨C0.1, C0.2.1, C0.2.2.1, C0.2.2.2.1, C0.2.2.2.2.1⟩ hM cw ⟨zPre_blind, va_recv (q0 := 0) C0.2.2.2.2.2.1 hPc hci he, fun U hU hW => ⟨rfl, zPre_ok hPc C0.2.2.2.2.2.1 hDc U hU hW⟩⟩ rfl hlen hls hst (lv_room hroom) hdg hcs) hS (fun q _ h => hF q h) hF (fun u t H1 locs1 ht hvm hr hB hz1 hk1 hS1 => ?_)
  rw [ht] at hB
  subst hw
  exact kk H1 locs1 (zjoin hP hD isC hC hk1 hB hl1) hS1
theorem z_callViS {y : MethodName} {bytes : ByteArray} {maxL n index : Nat} {ret : Option FieldType} {rm : Room} {r : Int} {wc w1 ws' : va_W} {C : String} {b : Nat} {As st0 : List Value} {fs : List Value} {T : u_T} {N : Nat} (C0 : zC p s m args c D cI cZ A cc nL own) (hP : va_P D vwCl ws H) (hD : va_D A ws) (hS : va_S A s.heap H locs) (hZ : zSt A s s.heap) (isC : List Nat) (hC : isC.map (fun i => ws[i]?) = wc.map some)
    (hM : Met l y (zW y bytes maxL ret) rm (va_Pc (.ref b :: As) (zPreS D cI cZ wc H.size)) (va_Qi (fun r' (_ : Unit) => r' = zI r) (fun _ t => va_P D vwCl w1 t.heap) (va_A wc H.size)) 0 0 (va_A wc H.size)) (cw : CallW R s args own C index y bytes maxL ret (zW y bytes maxL ret) rm 0 0 n) (hn : va_nd isC = true) (ci : Nat) (he : wc[0]? = some (b, .inr (ci, fs))) (hci : vwCl[ci]? = some (C, T, N))
    (hst : st0 = As.reverse ++ .ref b :: rest) (hlen : As.length = n) (hls : ls.size = nL) (hroom : (rest.map fun v => v.category).sum ≤ 8) (hdg : decode cc pc = .ok (.invokevirtual index, 3)) (hcs : cells ≤ R.cells ∧ slots ≤ R.slots) (hw : zrep ws isC w1 = ws') (hl1 : isC.length ≤ w1.length)
    (kk : ∀ (H1 : Heap) (locs1 : List Loc), va_P D vwCl ws' H1 → va_S A s.heap H1 locs1 → W p l e R s m args below meth c H1 locs1 cells slots Q (F0 m (pc + 3) ls (.int (zI r) :: rest))) : W p l e R s m args below meth c H locs cells slots Q (F0 m pc ls st0) := by
  have hPc := zsubP hP hC
  have hDc : va_D A wc := hD.sub isC hn hC
  have hF := va_free hD hS C0.2.2.2.2.2.2 isC hC
  refine va_calli (va_runV ⟨C0.1, C0.2.1, C0.2.2.1, C0.2.2.2.1, C0.2.2.2.2.1⟩ hM cw ⟨zPreS_blind, va_recv (q0 := 0) C0.2.2.2.2.2.1 hPc hci he, fun U hU hW => ⟨rfl, zPreS_ok hPc C0.2.2.2.2.2.1 hDc hZ hS hF U hU hW⟩⟩ rfl hlen hls hst (lv_room hroom) hdg hcs) hS (fun q _ h => hF q h) hF (fun r' u t H1 locs1 ht hvm hr hB hz1 hk1 hS1 => ?_)
  subst hr
  rw [ht] at hB
  subst hw
  exact kk H1 locs1 (zjoin hP hD isC hC hk1 hB hl1) hS1
theorem z_callVvS {y : MethodName} {bytes : ByteArray} {maxL n index : Nat} {ret : Option FieldType} {rm : Room} {wc w1 ws' : va_W} {C : String} {b : Nat} {As st0 : List Value} {fs : List Value} {T : u_T} {N : Nat} (C0 : zC p s m args c D cI cZ A cc nL own) (hP : va_P D vwCl ws H) (hD : va_D A ws) (hS : va_S A s.heap H locs) (hZ : zSt A s s.heap) (isC : List Nat) (hC : isC.map (fun i => ws[i]?) = wc.map some)
    (hM : Met l y (zW y bytes maxL ret) rm (va_Pc (.ref b :: As) (zPreS D cI cZ wc H.size)) (va_Qv (fun (_ : Unit) => True) (fun _ t => va_P D vwCl w1 t.heap) (va_A wc H.size)) 0 0 (va_A wc H.size)) (cw : CallW R s args own C index y bytes maxL ret (zW y bytes maxL ret) rm 0 0 n) (hn : va_nd isC = true) (ci : Nat) (he : wc[0]? = some (b, .inr (ci, fs))) (hci : vwCl[ci]? = some (C, T, N))
    (hst : st0 = As.reverse ++ .ref b :: rest) (hlen : As.length = n) (hls : ls.size = nL) (hroom : (rest.map fun v => v.category).sum ≤ 8) (hdg : decode cc pc = .ok (.invokevirtual index, 3)) (hcs : cells ≤ R.cells ∧ slots ≤ R.slots) (hw : zrep ws isC w1 = ws') (hl1 : isC.length ≤ w1.length)
    (kk : ∀ (H1 : Heap) (locs1 : List Loc), va_P D vwCl ws' H1 → va_S A s.heap H1 locs1 → W p l e R s m args below meth c H1 locs1 cells slots Q (F0 m (pc + 3) ls rest)) : W p l e R s m args below meth c H locs cells slots Q (F0 m pc ls st0) := by
  have hPc := zsubP hP hC
  have hDc : va_D A wc := hD.sub isC hn hC
  have hF := va_free hD hS C0.2.2.2.2.2.2 isC hC
  refine va_callv (va_runV ⟨C0.1, C0.2.1, C0.2.2.1, C0.2.2.2.1, C0.2.2.2.2.1⟩ hM cw ⟨zPreS_blind, va_recv (q0 := 0) C0.2.2.2.2.2.1 hPc hci he, fun U hU hW => ⟨rfl, zPreS_ok hPc C0.2.2.2.2.2.1 hDc hZ hS hF U hU hW⟩⟩ rfl hlen hls hst (lv_room hroom) hdg hcs) hS (fun q _ h => hF q h) hF (fun u t H1 locs1 ht hvm hr hB hz1 hk1 hS1 => ?_)
  rw [ht] at hB
  subst hw
  exact kk H1 locs1 (zjoin hP hD isC hC hk1 hB hl1) hS1
theorem z_callSi {y : MethodName} {bytes : ByteArray} {maxL n index : Nat} {ret : Option FieldType} {rm : Room} {r : Int} {wc w1 ws' : va_W} {As st0 : List Value} (C0 : zC p s m args c D cI cZ A cc nL own) (hP : va_P D vwCl ws H) (hD : va_D A ws) (hS : va_S A s.heap H locs) (isC : List Nat) (hC : isC.map (fun i => ws[i]?) = wc.map some)
    (hM : Met l y (zW y bytes maxL ret) rm (va_Pc As (zPre D cI cZ wc H.size)) (va_Qi (fun r' (_ : Unit) => r' = zI r) (fun _ t => va_P D vwCl w1 t.heap) (va_A wc H.size)) 0 0 (va_A wc H.size)) (cw : CallB R s args own index y bytes maxL ret (zW y bytes maxL ret) rm 0 0 n ∧ (Cond.static y).before args s = true) (hn : va_nd isC = true)
    (hst : st0 = As.reverse ++ rest) (hlen : As.length = n) (hls : ls.size = nL) (hroom : (rest.map fun v => v.category).sum ≤ 8) (hdg : decode cc pc = .ok (.invokestatic index, 3)) (hcs : cells ≤ R.cells ∧ slots ≤ R.slots) (hw : zrep ws isC w1 = ws') (hl1 : isC.length ≤ w1.length)
    (kk : ∀ (H1 : Heap) (locs1 : List Loc), va_P D vwCl ws' H1 → va_S A s.heap H1 locs1 → W p l e R s m args below meth c H1 locs1 cells slots Q (F0 m (pc + 3) ls (.int (zI r) :: rest))) : W p l e R s m args below meth c H locs cells slots Q (F0 m pc ls st0) := by
  have hPc := zsubP hP hC
  have hDc : va_D A wc := hD.sub isC hn hC
  have hF := va_free hD hS C0.2.2.2.2.2.2 isC hC
  refine va_calli (va_runS ⟨C0.1, C0.2.1, C0.2.2.1, C0.2.2.2.1, C0.2.2.2.2.1⟩ hM cw ⟨zPre_blind, fun U hU hW => ⟨rfl, zPre_ok hPc C0.2.2.2.2.2.1 hDc U hU hW⟩⟩ rfl hlen hls hst (lv_room hroom) hdg hcs) hS (fun q _ h => hF q h) hF (fun r' u t H1 locs1 ht hvm hr hB hz1 hk1 hS1 => ?_)
  subst hr
  rw [ht] at hB
  subst hw
  exact kk H1 locs1 (zjoin hP hD isC hC hk1 hB hl1) hS1
theorem z_callSl {y : MethodName} {bytes : ByteArray} {maxL n index : Nat} {ret : Option FieldType} {rm : Room} {r : Int} {wc w1 ws' : va_W} {As st0 : List Value} (C0 : zC p s m args c D cI cZ A cc nL own) (hP : va_P D vwCl ws H) (hD : va_D A ws) (hS : va_S A s.heap H locs) (isC : List Nat) (hC : isC.map (fun i => ws[i]?) = wc.map some)
    (hM : Met l y (zW y bytes maxL ret) rm (va_Pc As (zPre D cI cZ wc H.size)) (va_Ql (fun r' (_ : Unit) => r' = zL r) (fun _ t => va_P D vwCl w1 t.heap) (va_A wc H.size)) 0 0 (va_A wc H.size)) (cw : CallB R s args own index y bytes maxL ret (zW y bytes maxL ret) rm 0 0 n ∧ (Cond.static y).before args s = true) (hn : va_nd isC = true)
    (hst : st0 = As.reverse ++ rest) (hlen : As.length = n) (hls : ls.size = nL) (hroom : (rest.map fun v => v.category).sum ≤ 8) (hdg : decode cc pc = .ok (.invokestatic index, 3)) (hcs : cells ≤ R.cells ∧ slots ≤ R.slots) (hw : zrep ws isC w1 = ws') (hl1 : isC.length ≤ w1.length)
    (kk : ∀ (H1 : Heap) (locs1 : List Loc), va_P D vwCl ws' H1 → va_S A s.heap H1 locs1 → W p l e R s m args below meth c H1 locs1 cells slots Q (F0 m (pc + 3) ls (.long (zL r) :: rest))) : W p l e R s m args below meth c H locs cells slots Q (F0 m pc ls st0) := by
  have hPc := zsubP hP hC
  have hDc : va_D A wc := hD.sub isC hn hC
  have hF := va_free hD hS C0.2.2.2.2.2.2 isC hC
  refine va_calll (va_runS ⟨C0.1, C0.2.1, C0.2.2.1, C0.2.2.2.1, C0.2.2.2.2.1⟩ hM cw ⟨zPre_blind, fun U hU hW => ⟨rfl, zPre_ok hPc C0.2.2.2.2.2.1 hDc U hU hW⟩⟩ rfl hlen hls hst (lv_room hroom) hdg hcs) hS (fun q _ h => hF q h) hF (fun r' u t H1 locs1 ht hvm hr hB hz1 hk1 hS1 => ?_)
  subst hr
  rw [ht] at hB
  subst hw
  exact kk H1 locs1 (zjoin hP hD isC hC hk1 hB hl1) hS1
theorem z_callSv {y : MethodName} {bytes : ByteArray} {maxL n index : Nat} {ret : Option FieldType} {rm : Room} {wc w1 ws' : va_W} {As st0 : List Value} (C0 : zC p s m args c D cI cZ A cc nL own) (hP : va_P D vwCl ws H) (hD : va_D A ws) (hS : va_S A s.heap H locs) (isC : List Nat) (hC : isC.map (fun i => ws[i]?) = wc.map some)
    (hM : Met l y (zW y bytes maxL ret) rm (va_Pc As (zPre D cI cZ wc H.size)) (va_Qv (fun (_ : Unit) => True) (fun _ t => va_P D vwCl w1 t.heap) (va_A wc H.size)) 0 0 (va_A wc H.size)) (cw : CallB R s args own index y bytes maxL ret (zW y bytes maxL ret) rm 0 0 n ∧ (Cond.static y).before args s = true) (hn : va_nd isC = true)
    (hst : st0 = As.reverse ++ rest) (hlen : As.length = n) (hls : ls.size = nL) (hroom : (rest.map fun v => v.category).sum ≤ 8) (hdg : decode cc pc = .ok (.invokestatic index, 3)) (hcs : cells ≤ R.cells ∧ slots ≤ R.slots) (hw : zrep ws isC w1 = ws') (hl1 : isC.length ≤ w1.length)
    (kk : ∀ (H1 : Heap) (locs1 : List Loc), va_P D vwCl ws' H1 → va_S A s.heap H1 locs1 → W p l e R s m args below meth c H1 locs1 cells slots Q (F0 m (pc + 3) ls rest)) : W p l e R s m args below meth c H locs cells slots Q (F0 m pc ls st0) := by
  have hPc := zsubP hP hC
  have hDc : va_D A wc := hD.sub isC hn hC
  have hF := va_free hD hS C0.2.2.2.2.2.2 isC hC
  refine va_callv (va_runS ⟨C0.1, C0.2.1, C0.2.2.1, C0.2.2.2.1, C0.2.2.2.2.1⟩ hM cw ⟨zPre_blind, fun U hU hW => ⟨rfl, zPre_ok hPc C0.2.2.2.2.2.1 hDc U hU hW⟩⟩ rfl hlen hls hst (lv_room hroom) hdg hcs) hS (fun q _ h => hF q h) hF (fun u t H1 locs1 ht hvm hr hB hz1 hk1 hS1 => ?_)
  rw [ht] at hB
  subst hw
  exact kk H1 locs1 (zjoin hP hD isC hC hk1 hB hl1) hS1
theorem z_callFi {y : MethodName} {bytes : ByteArray} {maxL n index : Nat} {ret : Option FieldType} {rm : Room} {r : Int} {w1 : va_W} {C : String} {b : Nat} {As st0 : List Value} {fs : List Value} {T : u_T} {N : Nat} (C0 : zC p s m args c D cI cZ A cc nL own) (hP : va_P D vwCl ws H) (hD : va_D A ws) (hS : va_S A s.heap H locs) 
    (hM : Met l y (zW y bytes maxL ret) rm (va_Pc (.ref b :: As) (zPre D cI cZ ws H.size)) (va_Qi (fun r' (_ : Unit) => r' = zI r) (fun _ t => va_P D vwCl w1 t.heap) (va_A ws H.size)) 0 0 (va_A ws H.size)) (cw : CallW R s args own C index y bytes maxL ret (zW y bytes maxL ret) rm 0 0 n) (ci : Nat) (he : ws[0]? = some (b, .inr (ci, fs))) (hci : vwCl[ci]? = some (C, T, N))
    (hst : st0 = As.reverse ++ .ref b :: rest) (hlen : As.length = n) (hls : ls.size = nL) (hroom : (rest.map fun v => v.category).sum ≤ 8) (hdg : decode cc pc = .ok (.invokevirtual index, 3)) (hcs : cells ≤ R.cells ∧ slots ≤ R.slots)
    (kk : ∀ (H1 : Heap) (locs1 : List Loc), va_P D vwCl w1 H1 → va_S A s.heap H1 locs1 → W p l e R s m args below meth c H1 locs1 cells slots Q (F0 m (pc + 3) ls (.int (zI r) :: rest))) : W p l e R s m args below meth c H locs cells slots Q (F0 m pc ls st0) := by
  have hF : ∀ q, va_A ws H.size q → A q := fun q h => by
    rcases h with ⟨k, e, h⟩ | h
    · exact hD.2 k (q, e) h
    · exact C0.2.2.2.2.2.2 q (Nat.le_trans hS.1 h)
  refine va_calli (va_runV ⟨C0.1, C0.2.1, C0.2.2.1, C0.2.2.2.1, C0.2.2.2.2.1⟩ hM cw ⟨zPre_blind, va_recv (q0 := 0) C0.2.2.2.2.2.1 hP hci he, fun U hU hW => ⟨rfl, zPre_ok hP C0.2.2.2.2.2.1 hD U hU hW⟩⟩ rfl hlen hls hst (lv_room hroom) hdg hcs) hS (fun q _ h => hF q h) hF (fun r' u t H1 locs1 ht hvm hr hB hz1 hk1 hS1 => ?_)
  subst hr
  rw [ht] at hB
  exact kk H1 locs1 hB hS1
theorem z_callFl {y : MethodName} {bytes : ByteArray} {maxL n index : Nat} {ret : Option FieldType} {rm : Room} {r : Int} {w1 : va_W} {C : String} {b : Nat} {As st0 : List Value} {fs : List Value} {T : u_T} {N : Nat} (C0 : zC p s m args c D cI cZ A cc nL own) (hP : va_P D vwCl ws H) (hD : va_D A ws) (hS : va_S A s.heap H locs) 
    (hM : Met l y (zW y bytes maxL ret) rm (va_Pc (.ref b :: As) (zPre D cI cZ ws H.size)) (va_Ql (fun r' (_ : Unit) => r' = zL r) (fun _ t => va_P D vwCl w1 t.heap) (va_A ws H.size)) 0 0 (va_A ws H.size)) (cw : CallW R s args own C index y bytes maxL ret (zW y bytes maxL ret) rm 0 0 n) (ci : Nat) (he : ws[0]? = some (b, .inr (ci, fs))) (hci : vwCl[ci]? = some (C, T, N))
    (hst : st0 = As.reverse ++ .ref b :: rest) (hlen : As.length = n) (hls : ls.size = nL) (hroom : (rest.map fun v => v.category).sum ≤ 8) (hdg : decode cc pc = .ok (.invokevirtual index, 3)) (hcs : cells ≤ R.cells ∧ slots ≤ R.slots)
    (kk : ∀ (H1 : Heap) (locs1 : List Loc), va_P D vwCl w1 H1 → va_S A s.heap H1 locs1 → W p l e R s m args below meth c H1 locs1 cells slots Q (F0 m (pc + 3) ls (.long (zL r) :: rest))) : W p l e R s m args below meth c H locs cells slots Q (F0 m pc ls st0) := by
  have hF : ∀ q, va_A ws H.size q → A q := fun q h => by
    rcases h with ⟨k, e, h⟩ | h
    · exact hD.2 k (q, e) h
    · exact C0.2.2.2.2.2.2 q (Nat.le_trans hS.1 h)
  refine va_calll (va_runV ⟨C0.1, C0.2.1, C0.2.2.1, C0.2.2.2.1, C0.2.2.2.2.1⟩ hM cw ⟨zPre_blind, va_recv (q0 := 0) C0.2.2.2.2.2.1 hP hci he, fun U hU hW => ⟨rfl, zPre_ok hP C0.2.2.2.2.2.1 hD U hU hW⟩⟩ rfl hlen hls hst (lv_room hroom) hdg hcs) hS (fun q _ h => hF q h) hF (fun r' u t H1 locs1 ht hvm hr hB hz1 hk1 hS1 => ?_)
  subst hr
  rw [ht] at hB
  exact kk H1 locs1 hB hS1
theorem z_callFv {y : MethodName} {bytes : ByteArray} {maxL n index : Nat} {ret : Option FieldType} {rm : Room} {w1 : va_W} {C : String} {b : Nat} {As st0 : List Value} {fs : List Value} {T : u_T} {N : Nat} (C0 : zC p s m args c D cI cZ A cc nL own) (hP : va_P D vwCl ws H) (hD : va_D A ws) (hS : va_S A s.heap H locs) 
    (hM : Met l y (zW y bytes maxL ret) rm (va_Pc (.ref b :: As) (zPre D cI cZ ws H.size)) (va_Qv (fun (_ : Unit) => True) (fun _ t => va_P D vwCl w1 t.heap) (va_A ws H.size)) 0 0 (va_A ws H.size)) (cw : CallW R s args own C index y bytes maxL ret (zW y bytes maxL ret) rm 0 0 n) (ci : Nat) (he : ws[0]? = some (b, .inr (ci, fs))) (hci : vwCl[ci]? = some (C, T, N))
    (hst : st0 = As.reverse ++ .ref b :: rest) (hlen : As.length = n) (hls : ls.size = nL) (hroom : (rest.map fun v => v.category).sum ≤ 8) (hdg : decode cc pc = .ok (.invokevirtual index, 3)) (hcs : cells ≤ R.cells ∧ slots ≤ R.slots)
    (kk : ∀ (H1 : Heap) (locs1 : List Loc), va_P D vwCl w1 H1 → va_S A s.heap H1 locs1 → W p l e R s m args below meth c H1 locs1 cells slots Q (F0 m (pc + 3) ls rest)) : W p l e R s m args below meth c H locs cells slots Q (F0 m pc ls st0) := by
  have hF : ∀ q, va_A ws H.size q → A q := fun q h => by
    rcases h with ⟨k, e, h⟩ | h
    · exact hD.2 k (q, e) h
    · exact C0.2.2.2.2.2.2 q (Nat.le_trans hS.1 h)
  refine va_callv (va_runV ⟨C0.1, C0.2.1, C0.2.2.1, C0.2.2.2.1, C0.2.2.2.2.1⟩ hM cw ⟨zPre_blind, va_recv (q0 := 0) C0.2.2.2.2.2.1 hP hci he, fun U hU hW => ⟨rfl, zPre_ok hP C0.2.2.2.2.2.1 hD U hU hW⟩⟩ rfl hlen hls hst (lv_room hroom) hdg hcs) hS (fun q _ h => hF q h) hF (fun u t H1 locs1 ht hvm hr hB hz1 hk1 hS1 => ?_)
  rw [ht] at hB
  exact kk H1 locs1 hB hS1
theorem z_callFiS {y : MethodName} {bytes : ByteArray} {maxL n index : Nat} {ret : Option FieldType} {rm : Room} {r : Int} {w1 : va_W} {C : String} {b : Nat} {As st0 : List Value} {fs : List Value} {T : u_T} {N : Nat} (C0 : zC p s m args c D cI cZ A cc nL own) (hP : va_P D vwCl ws H) (hD : va_D A ws) (hS : va_S A s.heap H locs) (hZ : zSt A s s.heap) 
    (hM : Met l y (zW y bytes maxL ret) rm (va_Pc (.ref b :: As) (zPreS D cI cZ ws H.size)) (va_Qi (fun r' (_ : Unit) => r' = zI r) (fun _ t => va_P D vwCl w1 t.heap) (va_A ws H.size)) 0 0 (va_A ws H.size)) (cw : CallW R s args own C index y bytes maxL ret (zW y bytes maxL ret) rm 0 0 n) (ci : Nat) (he : ws[0]? = some (b, .inr (ci, fs))) (hci : vwCl[ci]? = some (C, T, N))
    (hst : st0 = As.reverse ++ .ref b :: rest) (hlen : As.length = n) (hls : ls.size = nL) (hroom : (rest.map fun v => v.category).sum ≤ 8) (hdg : decode cc pc = .ok (.invokevirtual index, 3)) (hcs : cells ≤ R.cells ∧ slots ≤ R.slots)
    (kk : ∀ (H1 : Heap) (locs1 : List Loc), va_P D vwCl w1 H1 → va_S A s.heap H1 locs1 → W p l e R s m args below meth c H1 locs1 cells slots Q (F0 m (pc + 3) ls (.int (zI r) :: rest))) : W p l e R s m args below meth c H locs cells slots Q (F0 m pc ls st0) := by
  have hF : ∀ q, va_A ws H.size q → A q := fun q h => by
    rcases h with ⟨k, e, h⟩ | h
    · exact hD.2 k (q, e) h
    · exact C0.2.2.2.2.2.2 q (Nat.le_trans hS.1 h)
  refine va_calli (va_runV ⟨C0.1, C0.2.1, C0.2.2.1, C0.2.2.2.1, C0.2.2.2.2.1⟩ hM cw ⟨zPreS_blind, va_recv (q0 := 0) C0.2.2.2.2.2.1 hP hci he, fun U hU hW => ⟨rfl, zPreS_ok hP C0.2.2.2.2.2.1 hD hZ hS hF U hU hW⟩⟩ rfl hlen hls hst (lv_room hroom) hdg hcs) hS (fun q _ h => hF q h) hF (fun r' u t H1 locs1 ht hvm hr hB hz1 hk1 hS1 => ?_)
  subst hr
  rw [ht] at hB
  exact kk H1 locs1 hB hS1
theorem z_callFvS {y : MethodName} {bytes : ByteArray} {maxL n index : Nat} {ret : Option FieldType} {rm : Room} {w1 : va_W} {C : String} {b : Nat} {As st0 : List Value} {fs : List Value} {T : u_T} {N : Nat} (C0 : zC p s m args c D cI cZ A cc nL own) (hP : va_P D vwCl ws H) (hD : va_D A ws) (hS : va_S A s.heap H locs) (hZ : zSt A s s.heap) 
    (hM : Met l y (zW y bytes maxL ret) rm (va_Pc (.ref b :: As) (zPreS D cI cZ ws H.size)) (va_Qv (fun (_ : Unit) => True) (fun _ t => va_P D vwCl w1 t.heap) (va_A ws H.size)) 0 0 (va_A ws H.size)) (cw : CallW R s args own C index y bytes maxL ret (zW y bytes maxL ret) rm 0 0 n) (ci : Nat) (he : ws[0]? = some (b, .inr (ci, fs))) (hci : vwCl[ci]? = some (C, T, N))
    (hst : st0 = As.reverse ++ .ref b :: rest) (hlen : As.length = n) (hls : ls.size = nL) (hroom : (rest.map fun v => v.category).sum ≤ 8) (hdg : decode cc pc = .ok (.invokevirtual index, 3)) (hcs : cells ≤ R.cells ∧ slots ≤ R.slots)
    (kk : ∀ (H1 : Heap) (locs1 : List Loc), va_P D vwCl w1 H1 → va_S A s.heap H1 locs1 → W p l e R s m args below meth c H1 locs1 cells slots Q (F0 m (pc + 3) ls rest)) : W p l e R s m args below meth c H locs cells slots Q (F0 m pc ls st0) := by
  have hF : ∀ q, va_A ws H.size q → A q := fun q h => by
    rcases h with ⟨k, e, h⟩ | h
    · exact hD.2 k (q, e) h
    · exact C0.2.2.2.2.2.2 q (Nat.le_trans hS.1 h)
  refine va_callv (va_runV ⟨C0.1, C0.2.1, C0.2.2.1, C0.2.2.2.1, C0.2.2.2.2.1⟩ hM cw ⟨zPreS_blind, va_recv (q0 := 0) C0.2.2.2.2.2.1 hP hci he, fun U hU hW => ⟨rfl, zPreS_ok hP C0.2.2.2.2.2.1 hD hZ hS hF U hU hW⟩⟩ rfl hlen hls hst (lv_room hroom) hdg hcs) hS (fun q _ h => hF q h) hF (fun u t H1 locs1 ht hvm hr hB hz1 hk1 hS1 => ?_)
  rw [ht] at hB
  exact kk H1 locs1 hB hS1
end ZR
