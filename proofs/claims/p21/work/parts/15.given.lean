/-! ===== what the Statement gives of the start ===== -/
set_option maxHeartbeats 4000000 in
theorem zstat {args : Array Value} {s : State} {A : Nat → Prop} {C n : String} {N : Nat} {f : Nat → Int} (hN : N < 2 ^ 31) (hl : (Cond.laysStatic C n "[I").before args s = true) (hini : (Cond.initialized C).before args s = true) (harr : (Cond.arrayOf (.static C n "[I") .int).before args s = true) (hlen : (Cond.eq (.length (.static C n "[I")) (.int (Int32.ofNat N))).before args s = true) (hel : ∀ j : Nat, j < N → (Cond.eq (.elem (.static C n "[I") (.int (Int32.ofNat j))) (.int (zI (f j)))).before args s = true) (hA : ∀ a : Nat, a < s.heap.size → ¬ A a) : zSt1 C n N (fun j => .int (zI (f j))) A s s.heap := by
  obtain ⟨t, ht, hT⟩ := va_Tof (tm := .static C n "[I") (N := N) (f := fun j => .int (zI (f j))) hN harr (va_eqt hlen) (fun j hj => va_eqt (hel j hj)) hA
  exact ⟨t, va_Zref hl hini ht hA, hT⟩
theorem zlen_small {args : Array Value} {s : State} {tm : Term} {v : Value} {a : Nat} {cell : Cell} (hv : (Term.length tm).eval args s none [] s = some v) (ht : tm.eval args s none [] s = some (.ref a)) (harr : s.arrayAt? a = some cell) : cell.slots.size < 2 ^ 31 := by
  simp only [Term.eval, ht, harr, Option.bind_eq_bind, Option.bind_some] at hv
  by_cases hlt : cell.slots.size < 2147483648
  · exact hlt
  · simp [hlt] at hv
set_option maxHeartbeats 4000000 in
theorem zstatC {args : Array Value} {s : State} {A : Nat → Prop} (hl : (Cond.laysStatic "CounterHouse" "SETTING_AT_FIRST" "[I").before args s = true) (hini : (Cond.initialized "CounterHouse").before args s = true) (harr : (Cond.arrayOf (.static "CounterHouse" "SETTING_AT_FIRST" "[I") .int).before args s = true) (hlen : (Cond.eq (.length (.static "CounterHouse" "SETTING_AT_FIRST" "[I")) (.int (Int32.ofNat 4))).before args s = true) (hel : ∀ j : Nat, j < 4 → (Cond.eq (.elem (.static "CounterHouse" "SETTING_AT_FIRST" "[I") (.int (Int32.ofNat j))) (.int (zI (zS3 j)))).before args s = true)
    (hex : (Cond.exactly (.static "CounterHouse" "SETTING_AT_FIRST" "[I") "[I").before args s = true) (hcast : (Cond.castable "[I" "java/lang/Cloneable").before args s = true) (hA : ∀ a : Nat, a < s.heap.size → ¬ A a) : zCl A s s.heap := by
  obtain ⟨t, hZ, hT⟩ := zstat (A := A) (f := zS3) (by decide) hl hini harr hlen hel hA
  obtain ⟨cell, h1, h2, h3, h4, h5, h6, h7⟩ := hT
  have hlv := va_eqt hlen
  obtain ⟨t2, cell2, ht2, har2, hv2⟩ := Term.length_spec hlv
  obtain ⟨hc2, -, hst2, -⟩ := State.arrayAt?_spec har2
  obtain ⟨t3, c3, cell3, k3, ht3, hf3, hc3, hk3, hs3, hcls3, -⟩ := Cond.exactly_spec hex
  obtain ⟨hst', a', cell', ha', hcell', -, hslot⟩ := Term.static_spec (show s.fieldFound? "CounterHouse" "SETTING_AT_FIRST" "[I" = _ from hZ.choose_spec.choose_spec.choose_spec.choose_spec.choose_spec.choose_spec.1) ht2
  have ht : t2 = t := by
    obtain ⟨cf, kf, fi, f, a, cellS, g1, g2, g3, g4, g5, g6, g7, g8⟩ := hZ
    obtain ⟨-, a2, cell2', b1, b2, -, b3⟩ := Term.static_spec g1 ht2
    cases g4.symm.trans b1
    cases g5.symm.trans b2
    have := g7.symm.trans b3
    simp at this
    exact this.symm
  subst ht
  have e3 : t3 = t2 := by
    have := ht3.symm.trans ht2
    simp at this
    exact this
  subst e3
  cases h1.symm.trans hc2
  cases h1.symm.trans hc3
  have hsz : cell.slots.size < 2 ^ 31 := zlen_small hlv ht2 har2
  have hsz4 : cell.slots.size = 4 := by
    have e1 : Int32.ofNat cell.slots.size = Int32.ofNat 4 := h5
    exact (nI_eq (a := cell.slots.size) (b := 4) hsz (by decide)).mp e1
  have hslots : cell.slots = (arrV cell.cls 4 (fun j => .int (za zS3 j))).slots := by
    apply Array.ext
    · rw [arrV_size, hsz4]
    · intro i hi1 hi2
      have hi : i < 4 := by omega
      have e1 := h6 i hi
      have e2 := arrV_read cell.cls (fun j => .int (za zS3 j)) hi
      rw [Array.getElem?_eq_getElem hi1] at e1
      rw [Array.getElem?_eq_getElem hi2] at e2
      rw [Option.some.inj e1, Option.some.inj e2]
      rfl
  obtain ⟨c0, t0, f1, f2, f3⟩ := Cond.castable_spec hcast
  have hcc : c0 = cell.cls := by rw [hcls3]; exact Option.some.inj (f1.symm.trans hf3)
  exact ⟨t3, cell, t0, hZ, h1, hst2, h3, hslots, by rw [hcls3]; exact hf3, f2, by rw [← hcc]; exact f3, h7⟩
