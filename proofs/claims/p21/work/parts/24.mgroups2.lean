/-! ===== PURE: the reference's groups ===== -/
def zGI (T : Nat → Int) (w ed : Int) (x g sh : Nat) (G Fa : Nat → Int) (fF : Nat → Nat) : Prop :=
  g ≤ x ∧ (x = 0 → g = 0) ∧ (0 < x → 0 < g ∧ fF 0 = 0 ∧ fF (g - 1) < x ∧ ∀ y, fF (g - 1) ≤ y → y < x → T y ≤ T (fF (g - 1)) + w)
  ∧ (∀ q, q < g → Fa q = (fF q : Int))
  ∧ (∀ q, q + 1 < g → fF q < fF (q + 1) ∧ T (fF q) + w < T (fF (q + 1)) ∧ ∀ y, fF q ≤ y → y < fF (q + 1) → T y ≤ T (fF q) + w)
  ∧ (∀ q y, q < g → fF q ≤ y → y < (if q + 1 < g then fF (q + 1) else x) → G y = (q : Int))
  ∧ sh ≤ g ∧ (∀ q, q < sh → T (fF q) + w < ed) ∧ (∀ q, sh ≤ q → q < g → ed ≤ T (fF q) + w)
theorem zGI_lt {T : Nat → Int} {w ed : Int} {x g sh : Nat} {G Fa : Nat → Int} {fF : Nat → Nat} (h : zGI T w ed x g sh G Fa fF) : ∀ k q, q + k + 1 = g → fF q < x := by
  obtain ⟨h1, h2, h3, h4, h5, h6, h7, h8, h9⟩ := h
  intro k
  induction k with
  | zero =>
    intro q hq
    have e : q = g - 1 := by omega
    subst e
    exact (h3 (by omega)).2.2.1
  | succ k ih =>
    intro q hq
    have := ih (q + 1) (by omega)
    have := (h5 q (by omega)).1
    omega
theorem zGI_new {T : Nat → Int} {w ed : Int} {x g sh : Nat} {G Fa : Nat → Int} {fF : Nat → Nat} (hw : 0 ≤ w) (h : zGI T w ed x g sh G Fa fF) (hs : ∀ i, i < x → T i ≤ T x) (hn : x = 0 ∨ (0 < x ∧ T (fF (g - 1)) + w < T x)) :
    zGI T w ed (x + 1) (g + 1) (sh + if T x + w < ed then 1 else 0) (zu G (x : Int) (g : Int)) (zu Fa (g : Int) (x : Int)) (fun q => if q = g then x else fF q) := by
  have hlt := zGI_lt h
  obtain ⟨h1, h2, h3, h4, h5, h6, h7, h8, h9⟩ := h
  have eg : g = 0 → x = 0 := fun e => by
    rcases hn with hn | hn
    · exact hn
    · have := (h3 hn.1).1; omega
  refine ⟨by omega, fun e => by omega, fun _ => ⟨by omega, ?_, ?_, ?_⟩, ?_, ?_, ?_, ?_, ?_, ?_⟩
  · show (if 0 = g then x else fF 0) = 0
    by_cases e : 0 = g
    · rw [if_pos e]; exact eg e.symm
    · rw [if_neg e]; exact (h3 (by rcases hn with hn | hn; have := h2 hn; omega; exact hn.1)).2.1
  · show (if g + 1 - 1 = g then x else _) < x + 1
    rw [if_pos (by omega)]; omega
  · intro y hy1 hy2
    have e : (if g + 1 - 1 = g then x else fF (g + 1 - 1)) = x := if_pos (by omega)
    simp only [e] at hy1 ⊢
    have : y = x := by omega
    subst this
    omega
  · intro q hq
    unfold zu
    rw [zcN]
    by_cases e : q = g
    · subst e
      show (if q = q then (x : Int) else _) = ((if q = q then x else fF q : Nat) : Int)
      rw [if_pos rfl, if_pos rfl]
    · rw [if_neg e]
      show Fa q = ((if q = g then x else fF q : Nat) : Int)
      rw [if_neg e]; exact h4 q (by omega)
  · intro q hq
    have hq' : q ≠ g := by omega
    show (if q = g then x else fF q) < (if q + 1 = g then x else fF (q + 1)) ∧ T (if q = g then x else fF q) + w < T (if q + 1 = g then x else fF (q + 1)) ∧ _
    rw [if_neg hq']
    by_cases e : q + 1 = g
    · rw [if_pos e]
      have hx0 : 0 < x := by omega
      have eq : q = g - 1 := by omega
      obtain ⟨-, -, b1, b2⟩ := h3 hx0
      rw [← eq] at b1 b2
      rcases hn with hn | hn
      · omega
      · rw [← eq] at hn
        refine ⟨b1, hn.2, fun y hy1 hy2 => ?_⟩
        simp only [if_neg hq', if_pos e] at hy1 hy2 ⊢
        exact b2 y hy1 hy2
    · rw [if_neg e]
      obtain ⟨c1, c2, c3⟩ := h5 q (by omega)
      refine ⟨c1, c2, fun y hy1 hy2 => ?_⟩
      simp only [if_neg hq', if_neg e] at hy1 hy2 ⊢
      exact c3 y hy1 hy2
  · intro q y hq hy1 hy2
    unfold zu
    rw [zcN]
    by_cases e : q = g
    · subst e
      have hy1 : (if q = q then x else fF q) ≤ y := hy1
      rw [if_pos rfl] at hy1
      rw [if_neg (show ¬ q + 1 < q + 1 by omega)] at hy2
      rw [if_pos (by omega)]
    · simp only [if_neg e, if_pos (show q + 1 < g + 1 by omega)] at hy1 hy2
      have hfx := hlt (g - q - 1) q (by omega)
      by_cases e2 : q + 1 = g
      · simp only [if_pos e2] at hy2
        rw [if_neg (by omega)]
        exact h6 q y (by omega) hy1 (by rw [if_neg (by omega)]; exact hy2)
      · simp only [if_neg e2] at hy2
        have := hlt (g - (q + 1) - 1) (q + 1) (by omega)
        rw [if_neg (by omega)]
        exact h6 q y (by omega) hy1 (by rw [if_pos (by omega)]; exact hy2)
  · split <;> omega
  · intro q hq
    by_cases hc : T x + w < ed
    · rw [if_pos hc] at hq
      by_cases e : q = g
      · subst e
        show T (if q = q then x else _) + w < ed
        rw [if_pos rfl]; exact hc
      · show T (if q = g then x else fF q) + w < ed
        rw [if_neg e]
        have := hs (fF q) (hlt (g - q - 1) q (by omega))
        omega
    · rw [if_neg hc] at hq
      have e : q ≠ g := by omega
      show T (if q = g then x else fF q) + w < ed
      rw [if_neg e]
      exact h8 q (by omega)
  · intro q hq1 hq2
    by_cases hc : T x + w < ed
    · rw [if_pos hc] at hq1
      have e : q = g ∨ q < g := by omega
      exfalso
      by_cases e3 : sh = g
      · omega
      · have h10 := h9 (g - 1) (by omega) (by omega)
        have := hs (fF (g - 1)) (hlt 0 (g - 1) (by omega))
        omega
    · rw [if_neg hc] at hq1
      show ed ≤ T (if q = g then x else fF q) + w
      by_cases e : q = g
      · rw [if_pos e]; omega
      · rw [if_neg e]; exact h9 q (by omega) (by omega)
theorem zGI_old {T : Nat → Int} {w ed : Int} {x g sh : Nat} {G Fa : Nat → Int} {fF : Nat → Nat} (h : zGI T w ed x g sh G Fa fF) (hx : 0 < x) (hn : T x ≤ T (fF (g - 1)) + w) :
    zGI T w ed (x + 1) g sh (zu G (x : Int) ((g : Int) - 1)) Fa fF := by
  have hlt := zGI_lt h
  obtain ⟨h1, h2, h3, h4, h5, h6, h7, h8, h9⟩ := h
  obtain ⟨b0, b1, b2, b3⟩ := h3 hx
  refine ⟨by omega, fun e => by omega, fun _ => ⟨b0, b1, by omega, fun y hy1 hy2 => ?_⟩, h4, h5, ?_, h7, h8, h9⟩
  · by_cases e : y = x
    · subst e; exact hn
    · exact b3 y hy1 (by omega)
  · intro q y hq hy1 hy2
    unfold zu
    rw [zcN]
    by_cases e : y = x
    · rw [if_pos e]
      by_cases e2 : q + 1 < g
      · rw [if_pos e2] at hy2
        have := hlt (g - (q + 1) - 1) (q + 1) (by omega)
        omega
      · omega
    · rw [if_neg e]
      refine h6 q y hq hy1 ?_
      split
      · rename_i e2; rw [if_pos e2] at hy2; exact hy2
      · rename_i e2; rw [if_neg e2] at hy2; omega
section CoreG2
variable {lag dead manner setting W P S : Nat → Int} {n : Nat} {ov : Int} {t : zMT}
theorem M_group_loop (h : zCM t lag dead manner setting W P S n ov) (hv : zVal lag dead manner setting W P S n ov) {L E T U : Nat → Int} {kn : Nat} (hkn : kn ≤ 240) (hT : ∀ i j, i ≤ j → j < kn → T i ≤ T j) (hTb : ∀ i, i < kn → -100 ≤ T i ∧ T i ≤ 30000) : ∀ (k i zn g sh : Nat) (G Fa : Nat → Int) (fF : Nat → Nat), i + k = kn → k < zn →
    zGI T (setting 1) (zhor (setting 0) W n ov - zml lag 6) i g sh G Fa fF →
    ∃ (g' sh' : Nat) (G' Fa' : Nat → Int) (fF' : Nat → Nat), fX4_findGroups_L112 zn t L E (kn : Int) T U (i : Int) G (g : Int) (sh : Int) Fa = some (G', (g' : Int), (sh' : Int), Fa') ∧ zGI T (setting 1) (zhor (setting 0) W n ov - zml lag 6) kn g' sh' G' Fa' fF' := by
  obtain ⟨rfl, rfl, rfl, rfl, h5, rfl, rfl, rfl, rfl⟩ := h
  have h : zCM t (zm_lag t) (zm_dead t) (zm_manner t) (zm_setting t) (zm_momentOf t) (zm_planeOf t) (zm_stripOf t) n (zm_isOver t) := ⟨rfl, rfl, rfl, rfl, h5, rfl, rfl, rfl, rfl⟩
  have hn := hv.2.1.1
  have hhb := zhor_b hv
  have hmb := zml_b (fun k hk => (hv.1.1 k hk).1) 6 (by omega)
  have hw := hv.1.2.2.1
  intro k
  induction k with
  | zero =>
    intro i zn g sh G Fa fF hik hz hI
    obtain ⟨zn, rfl⟩ : ∃ q, zn = q + 1 := ⟨zn - 1, by omega⟩
    have : i = kn := by omega
    subst this
    rw [fX4_findGroups_L112_s]
    exact ⟨g, sh, G, Fa, fF, zyes (zLe_t (by omega) (by omega) (by omega)) rfl, hI⟩
  | succ k ih =>
    intro i zn g sh G Fa fF hik hz hI
    obtain ⟨zn, rfl⟩ : ∃ q, zn = q + 1 := ⟨zn - 1, by omega⟩
    have g1 : zIn (i : Int) 240 := ⟨by omega, by omega⟩
    have g4 : zIn (1 : Int) 4 := ⟨by omega, by omega⟩
    have hgx := hI.1
    have g2 : zIn (g : Int) 240 := ⟨by omega, by omega⟩
    have hTi := hTb i (by omega)
    rw [fX4_findGroups_L112_s]
    simp only [zcN]
    have new : (i = 0 ∨ (0 < i ∧ T (fF (g - 1)) + zm_setting t 1 < T i)) → ∃ (g' sh' : Nat) (G' Fa' : Nat → Int) (fF' : Nat → Nat), zg (zIn (i : Int) 240) (fX4_findGroups_L112 zn t L E (kn : Int) T U ((i : Int) + 1) (zu G (i : Int) ((g : Int) + 1 - 1)) ((g : Int) + 1) ((sh : Int) + (if T i + zm_setting t 1 < zhor (zm_setting t 0) (zm_momentOf t) n (zm_isOver t) - zml (zm_lag t) 6 then 1 else 0)) (zu Fa (g : Int) (i : Int))) = some (G', (g' : Int), (sh' : Int), Fa') ∧ zGI T (zm_setting t 1) (zhor (zm_setting t 0) (zm_momentOf t) n (zm_isOver t) - zml (zm_lag t) 6) kn g' sh' G' Fa' fF' := by
      intro hnew
      have hI2 := zGI_new hw.1 hI (fun j hj => hT j i (by omega) (by omega)) hnew
      obtain ⟨g', sh', G', Fa', fF', c1, c2⟩ := ih (i + 1) zn _ _ _ _ _ (by omega) (by omega) hI2
      refine ⟨g', sh', G', Fa', fF', ?_, c2⟩
      refine zok g1 ?_
      refine Eq.trans ?_ c1
      have e1 : ((g : Int) + 1 - 1) = (g : Int) := by omega
      have e2 : ((sh : Int) + (if T i + zm_setting t 1 < zhor (zm_setting t 0) (zm_momentOf t) n (zm_isOver t) - zml (zm_lag t) 6 then 1 else 0)) = ((sh + (if T i + zm_setting t 1 < zhor (zm_setting t 0) (zm_momentOf t) n (zm_isOver t) - zml (zm_lag t) 6 then 1 else 0) : Nat) : Int) := by
        split <;> omega
      simp only [e1, e2]
      rfl
    have newv : ∀ {st : zMT}, zCM st (zm_lag t) (zm_dead t) (zm_manner t) (zm_setting t) (zm_momentOf t) (zm_planeOf t) (zm_stripOf t) n (zm_isOver t) → (Option.bind (fX4_edge st) (fun r97 => Option.bind (if zLe r97 (T i + zm_setting t (Int.toNat 1)) then some (0 : Int) else some 1) (fun r99 => some (((g : Int) + 1), ((sh : Int) + r99), zu Fa (g : Int) (i : Int))))) = some (((g : Int) + 1), ((sh : Int) + (if T i + zm_setting t 1 < zhor (zm_setting t 0) (zm_momentOf t) n (zm_isOver t) - zml (zm_lag t) 6 then 1 else 0)), zu Fa (g : Int) (i : Int)) := by
      intro st hst
      refine zb (M_edge hst hv) ?_
      by_cases hc : T i + zm_setting t 1 < zhor (zm_setting t 0) (zm_momentOf t) n (zm_isOver t) - zml (zm_lag t) 6
      · rw [if_pos hc]
        exact zb (zno (zLe_f (show T i + zm_setting t 1 < _ from hc) (by show _ ≤ T i + zm_setting t 1; omega) (by omega)) rfl) rfl
      · rw [if_neg hc]
        exact zb (zyes (zLe_t (show _ ≤ T i + zm_setting t 1 by omega) (by omega) (by show T i + zm_setting t 1 < _; omega)) rfl) rfl
    by_cases hi0 : i = 0
    · have hg0 := hI.2.1 hi0
      obtain ⟨g', sh', G', Fa', fF', c1, c2⟩ := new (Or.inl hi0)
      refine ⟨g', sh', G', Fa', fF', ?_, c2⟩
      refine zno (zLe_f (by omega) (by omega) (by omega)) ?_
      refine zb (a := (((g : Int) + 1), ((sh : Int) + (if T i + zm_setting t 1 < zhor (zm_setting t 0) (zm_momentOf t) n (zm_isOver t) - zml (zm_lag t) 6 then 1 else 0)), zu Fa (g : Int) (i : Int))) ?_ (by dsimp only; exact c1)
      refine zyes (zE_t (by omega)) (zok g2 (zok g1 (zok g4 ?_)))
      exact newv (show zCM _ (zm_lag t) (zm_dead t) (zm_manner t) (zm_setting t) (zm_momentOf t) (zm_planeOf t) (zm_stripOf t) n (zm_isOver t) from h)
    · obtain ⟨b0, b1, b2, b3⟩ := hI.2.2.1 (by omega)
      have hFa := hI.2.2.2.1 (g - 1) (by omega)
      have eg : ((g : Int) - 1) = ((g - 1 : Nat) : Int) := by omega
      have hTf := hTb (fF (g - 1)) (by omega)
      have g5 : zIn ((g - 1 : Nat) : Int) 240 := ⟨by omega, by omega⟩
      have g6 : zIn ((fF (g - 1) : Nat) : Int) 240 := ⟨by omega, by omega⟩
      by_cases hc : T i ≤ T (fF (g - 1)) + zm_setting t 1
      · have hI2 := zGI_old hI (by omega) hc
        obtain ⟨g', sh', G', Fa', fF', c1, c2⟩ := ih (i + 1) zn _ _ _ _ _ (by omega) (by omega) hI2
        refine ⟨g', sh', G', Fa', fF', ?_, c2⟩
        refine zno (zLe_f (by omega) (by omega) (by omega)) ?_
        refine zb (a := ((g : Int), (sh : Int), Fa)) ?_ (zok g1 c1)
        refine zno (zE_f (by omega) (by omega) (by omega) (by omega) (by omega)) ?_
        rw [eg, zcN, hFa, zcN]
        refine zok g1 (zok g5 (zok g6 (zok g4 ?_)))
        exact zyes (zLe_t (show T i ≤ T (fF (g - 1)) + zm_setting t 1 from hc) (by omega) (by show T (fF (g - 1)) + zm_setting t 1 < _; omega)) rfl
      · obtain ⟨g', sh', G', Fa', fF', c1, c2⟩ := new (Or.inr ⟨by omega, by omega⟩)
        refine ⟨g', sh', G', Fa', fF', ?_, c2⟩
        refine zno (zLe_f (by omega) (by omega) (by omega)) ?_
        refine zb (a := (((g : Int) + 1), ((sh : Int) + (if T i + zm_setting t 1 < zhor (zm_setting t 0) (zm_momentOf t) n (zm_isOver t) - zml (zm_lag t) 6 then 1 else 0)), zu Fa (g : Int) (i : Int))) ?_ (by dsimp only; exact c1)
        refine zno (zE_f (by omega) (by omega) (by omega) (by omega) (by omega)) ?_
        rw [eg, zcN, hFa, zcN]
        refine zok g1 (zok g5 (zok g6 (zok g4 ?_)))
        refine zno (zLe_f (show T (fF (g - 1)) + zm_setting t 1 < T i by omega) (by show _ ≤ T (fF (g - 1)) + zm_setting t 1; omega) (by omega)) ?_
        refine zok g2 (zok g1 (zok g4 ?_))
        exact newv (show zCM _ (zm_lag t) (zm_dead t) (zm_manner t) (zm_setting t) (zm_momentOf t) (zm_planeOf t) (zm_stripOf t) n (zm_isOver t) from h)
theorem M_findGroups (h : zCM t lag dead manner setting W P S n ov) (hv : zVal lag dead manner setting W P S n ov) {set by' : Int} (hby : 0 ≤ by' ∧ by' ≤ 500) :
    ∃ (L E : Nat → Int) (kn : Nat) (T U G : Nat → Int) (g sh : Nat) (Fa : Nat → Int) (fF : Nat → Nat), fX4_findGroups t set by' = some (L, E, (kn : Int), T, U, G, (g : Int), (sh : Int), Fa) ∧ kn ≤ n ∧
      (∀ x, x < zst W (zhor (setting 0) W n ov) n → L x = if zlv W P dead manner x = true then 1 else 0) ∧ zTU lag W P (zshf set by') n T U kn ∧
      zrl T (zco P U) (zco S U) kn = zSR lag dead manner W P S (zhor (setting 0) W n ov - zml lag 6) (zshf set by') (zst W (zhor (setting 0) W n ov) n) ∧ zGI T (setting 1) (zhor (setting 0) W n ov - zml lag 6) kn g sh G Fa fF := by
  have hn := hv.2.1.1
  have hle := zst_le W (zhor (setting 0) W n ov) n
  obtain ⟨L, E, a1, a2⟩ := M_findLive h hv
  obtain ⟨kn, T, U, b1, b2, b3, b4⟩ := M_times_loop (t := t) h hv hby hle (E := E) a2 (zst W (zhor (setting 0) W n ov) n) 0 zF 0 (zm_timeOf t) (zm_pulseOf t) (by omega) (by unfold zF; omega) (by omega) (fun j hj => by omega) rfl
  have hsd := zSR_sorted lag dead manner W P S (zhor (setting 0) W n ov - zml lag 6) (zshf set by') (zst W (zhor (setting 0) W n ov) n)
  rw [← b4] at hsd
  have hsh : ∀ p, 0 ≤ zshf set by' p ∧ zshf set by' p ≤ 500 := by intro p; unfold zshf; split <;> omega
  have hTb := zTU_b hv hsh b3
  have hTs : ∀ i j, i ≤ j → j < kn → T i ≤ T j := by
    intro i j hij hj
    by_cases e : i = j
    · subst e; exact Int.le_refl _
    · exact zle_fst (zrl_sorted.mp hsd i j (by omega) hj)
  obtain ⟨g, sh, G, Fa, fF, c1, c2⟩ := M_group_loop (t := t) h hv (L := L) (E := E) (U := U) (kn := kn) (by omega) hTs (fun i hi => (hTb i hi).1) kn 0 zF 0 0 (zm_groupOf t) (zm_firstOf t) (fun _ => 0) (by omega) (by unfold zF; omega)
    ⟨Nat.le_refl _, fun _ => rfl, fun hx => by omega, fun q hq => by omega, fun q hq => by omega, fun q y hq => by omega, Nat.le_refl _, fun q hq => by omega, fun q _ hq => by omega⟩
  refine ⟨L, E, kn, T, U, G, g, sh, Fa, fF, ?_, by omega, a2, b3, b4, c2⟩
  unfold fX4_findGroups
  refine zb a1 ?_
  refine zb (M_settled (show zCM _ lag dead manner setting W P S n ov from h) hv) ?_
  refine zb b1 ?_
  exact zb c1 rfl
end CoreG2
