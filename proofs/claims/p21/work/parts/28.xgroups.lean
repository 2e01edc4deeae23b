/-! ===== PURE: the class: the groups that it has shut ===== -/
def zXG (lw lp ls : Nat → Int) (kn : Nat) (w ed c fold : Int) (γ : zGrT) (g : Nat) (fA : Nat → Nat) : Prop :=
  zg_size γ = (g : Int) ∧ fA 0 = 0 ∧ fA g ≤ kn ∧ (∀ q, q < g → zg_end γ q = (fA (q + 1) : Int)) ∧
  ∀ q, q < g → zEnd lw w kn (fA q) (fA (q + 1)) ∧ lw (fA q) + w < ed ∧ zg_set γ q = zpo lp (fA q) (fA (q + 1) - fA q) ∧
    zTr (fun j => zfm lp ls (j : Int) (fA (q + 1) - fA q) (fA q)) c fold (zg_trackStart γ q) (zg_trackSlope γ q) (zg_trackSet γ q) (zg_trackMisses γ q)
theorem zXG_le {lw lp ls : Nat → Int} {kn : Nat} {w ed c fold : Int} {γ : zGrT} {g : Nat} {fA : Nat → Nat} (h : zXG lw lp ls kn w ed c fold γ g fA) : ∀ q, q ≤ g → q ≤ fA q := by
  intro q
  induction q with
  | zero => intro _; omega
  | succ q ih =>
    intro hq
    have h1 := ih (by omega)
    have h2 := (h.2.2.2.2 q (by omega)).1.1
    omega
theorem zXG_mono {lw lp ls : Nat → Int} {kn : Nat} {w ed c fold : Int} {γ : zGrT} {g : Nat} {fA : Nat → Nat} (h : zXG lw lp ls kn w ed c fold γ g fA) : ∀ d q, q + d ≤ g → fA q ≤ fA (q + d) := by
  intro d
  induction d with
  | zero => intro q _; exact Nat.le_refl _
  | succ d ih =>
    intro q hq
    have h1 := ih q (by omega)
    have h2 := (h.2.2.2.2 (q + d) (by omega)).1.1
    rw [show q + (d + 1) = (q + d) + 1 by omega]
    omega
theorem zfm_b {P S : Nat → Int} {j : Int} : ∀ (k f : Nat), (∀ i, f ≤ i → i < f + k → 0 ≤ S i ∧ S i ≤ 15) → zfm P S j k f = -9 ∨ (0 ≤ zfm P S j k f ∧ zfm P S j k f ≤ 15) := by
  intro k
  induction k with
  | zero => intro f _; exact Or.inl rfl
  | succ k ih =>
    intro f h
    unfold zfm
    by_cases e : P f = j
    · rw [if_pos e]; exact Or.inr (h f (Nat.le_refl _) (by omega))
    · rw [if_neg e]; exact ih (f + 1) (fun i h1 h2 => h i (by omega) (by omega))
theorem zfm_congr {P S P' S' : Nat → Int} {j : Int} : ∀ (k f : Nat), (∀ i, f ≤ i → i < f + k → P i = P' i ∧ S i = S' i) → zfm P S j k f = zfm P' S' j k f := by
  intro k
  induction k with
  | zero => intro f _; rfl
  | succ k ih =>
    intro f h
    unfold zfm
    rw [(h f (Nat.le_refl _) (by omega)).1, (h f (Nat.le_refl _) (by omega)).2, ih (f + 1) (fun i h1 h2 => h i (by omega) (by omega))]
theorem zpo_congr {P P' : Nat → Int} {f : Nat} : ∀ (k : Nat), (∀ i, f ≤ i → i < f + k → P i = P' i) → zpo P f k = zpo P' f k := by
  intro k
  induction k with
  | zero => intro _; rfl
  | succ k ih =>
    intro h
    unfold zpo
    rw [ih (fun i h1 h2 => h i h1 (by omega)), h (f + k) (by omega) (by omega)]
theorem zXG_grow {lw lp ls lw' lp' ls' : Nat → Int} {kn kn' : Nat} {w ed ed' c fold : Int} {γ : zGrT} {g : Nat} {fA : Nat → Nat} (hk : kn ≤ kn') (he : ed ≤ ed') (hs : ∀ i, i < kn → lw i = lw' i ∧ lp i = lp' i ∧ ls i = ls' i) (hn : ∀ i, kn ≤ i → i < kn' → ed ≤ lw' i) (h : zXG lw lp ls kn w ed c fold γ g fA) : zXG lw' lp' ls' kn' w ed' c fold γ g fA := by
  have hm := zXG_mono h
  obtain ⟨h1, h2, h3, h4, h5⟩ := h
  refine ⟨h1, h2, by omega, h4, fun q hq => ?_⟩
  obtain ⟨⟨a1, a2, a3, a4⟩, b, cc, d⟩ := h5 q hq
  have hf := hs (fA q) (by omega)
  have es : (fun j : Nat => zfm lp ls (j : Int) (fA (q + 1) - fA q) (fA q)) = (fun j : Nat => zfm lp' ls' (j : Int) (fA (q + 1) - fA q) (fA q)) := by
    funext j
    exact zfm_congr _ _ (fun i h1 h2 => (hs i (by omega)).2)
  refine ⟨⟨a1, by omega, fun i i1 i2 => ?_, fun hlt => ?_⟩, by rw [← hf.1]; omega, ?_, ?_⟩
  · rw [← hf.1, ← (hs i (by omega)).1]; exact a3 i i1 i2
  · rw [← hf.1]
    by_cases e : fA (q + 1) < kn
    · rw [← (hs _ e).1]; exact a4 e
    · have := hn (fA (q + 1)) (by omega) hlt
      omega
  · rw [cc]; exact zpo_congr _ (fun i h1 h2 => (hs i (by omega)).2.1)
  · rw [← es]; exact d
section XG
variable {lag dead manner setting lw lp ls : Nat → Int} {ml kn : Nat} {ed : Int} {t : zXT}
theorem X_endOf {γ : zGrT} {g : Nat} {fA : Nat → Nat} {w c fold : Int} (hkn : kn ≤ 240) (h : zXG lw lp ls kn w ed c fold γ g fA) {q : Nat} (hq : q < g) : fX0_endOf γ (q : Int) = some (fA (q + 1) : Int) := by
  have hg := zXG_le h g (Nat.le_refl _)
  have h3 := h.2.2.1
  unfold fX0_endOf
  rw [h.1]
  refine zno (zLt_f (by omega) (by omega) (by omega)) (zno (zLe_f (by omega) (by omega) (by omega)) (zok ⟨by omega, by omega⟩ ?_))
  rw [zcN, h.2.2.2.1 q hq]
theorem X_endOfP {γ : zGrT} {g : Nat} {fA : Nat → Nat} {w c fold : Int} (hkn : kn ≤ 240) (h : zXG lw lp ls kn w ed c fold γ g fA) {q : Nat} (hq : q ≤ g) : fX0_endOf γ ((q : Int) - 1) = some (fA q : Int) := by
  by_cases c : q = 0
  · subst c
    unfold fX0_endOf
    rw [h.2.1]
    exact zyes (zLt_t (by omega) (by omega) (by omega)) rfl
  · obtain ⟨p, rfl⟩ : ∃ p, q = p + 1 := ⟨q - 1, by omega⟩
    rw [show (((p + 1 : Nat) : Int) - 1) = (p : Int) by omega]
    exact X_endOf hkn h (by omega)
theorem X_pulses {γ : zGrT} {g : Nat} {fA : Nat → Nat} {w c fold : Int} (hkn : kn ≤ 240) (h : zXG lw lp ls kn w ed c fold γ g fA) : fX0_pulses γ = some (fA g : Int) := by
  unfold fX0_pulses
  rw [h.1]
  exact zb (X_endOfP hkn h (Nat.le_refl _)) rfl
theorem X_shut {g : Nat} {fA : Nat → Nat} (hcf : zCfg lag dead manner setting) (hst : zx_setting t = setting) (hr : zx_liveRow t = zk_R lw lp ls (ml : Int)) (hkt : zx_known t = (kn : Int)) (hkn : kn ≤ ml) (hml : ml ≤ 240) (hok : zok3 lw lp ls ml)
    (h : zXG lw lp ls kn (setting 1) ed (setting 3) (setting 2) (zx_groups t) g fA) (hlt : fA g < kn) (hsh : lw (fA g) + setting 1 < ed) : ∃ γ σ fA', fX3_shutGroup t = some (γ, σ) ∧ zXG lw lp ls kn (setting 1) ed (setting 3) (setting 2) γ (g + 1) fA' := by
  have hg := zXG_le h g (Nat.le_refl _)
  have hp := X_pulses (by omega) h
  obtain ⟨hc0, hc1, hc2, hc3, hc4⟩ := hcf
  obtain ⟨e, e1, e2⟩ := R_end (ρ := zk_R lw lp ls (ml : Int)) (w := setting 1) (N := kn) (f := fA g) (sz := ml) rfl hml (by omega) (fun i hi => (hok i (by omega)).1) hc2 hlt
  have he := e2.1
  have he2 := e2.2.1
  obtain ⟨a, s1, s2⟩ := R_strips (ρ := zk_R lw lp ls (ml : Int)) (s0 := zs_strips (zx_search t)) (f := fA g) (e := e) (sz := ml) rfl hml (by omega) (by omega) (fun i h2 => (hok i (by omega)).2.1)
  have hstr : zStr (fun j => zfm lp ls (j : Int) (e - fA g) (fA g)) := fun j hj => zfm_b _ _ (fun i h1 h2 => (hok i (by omega)).2.2)
  obtain ⟨A, B, Q, M, r1, r2⟩ := X_run (t := zss_strips (zx_search t) a) (c := setting 3) (fold := setting 2) hstr (fun j hj => s2 j hj) hc4 hc3
  have hpl := R_planes (ρ := zk_R lw lp ls (ml : Int)) (f := fA g) (e := e) (sz := ml) rfl hml (by omega) (by omega)
  obtain ⟨h1, h2, h3, h4, h5⟩ := h
  refine ⟨zk_G (zu (zg_end (zx_groups t)) (g : Int) (e : Int)) (zu (zg_set (zx_groups t)) (g : Int) (zpo lp (fA g) (e - fA g))) (zu (zg_trackStart (zx_groups t)) (g : Int) A) (zu (zg_trackSlope (zx_groups t)) (g : Int) B) (zu (zg_trackSet (zx_groups t)) (g : Int) Q) (zu (zg_trackMisses (zx_groups t)) (g : Int) M) ((g : Int) + 1), zss_misses (zss_set (zss_slope (zss_start (zss_strips (zx_search t) a) A) B) Q) M, fun q => if q = g + 1 then e else fA q, ?_, ?_⟩
  · unfold fX3_shutGroup
    rw [hr, hkt, hst]
    refine zb hp (zok ⟨by omega, by omega⟩ ?_)
    refine zb (show fX2_endOfGroup (zk_R lw lp ls (ml : Int)) (fA g : Int) (kn : Int) (setting (Int.toNat 1)) = some (e : Int) from e1) ?_
    refine zb s1 (zok ⟨by omega, by omega⟩ (zok ⟨by omega, by omega⟩ ?_))
    refine zb (show fX1_run _ (setting (Int.toNat 3)) (setting (Int.toNat 2)) = _ from r1) ?_
    refine zb hpl ?_
    have gg : zIn (g : Int) 240 := ⟨by omega, by omega⟩
    refine zb (a := (zu (zg_end (zx_groups t)) (g : Int) (e : Int), zu (zg_set (zx_groups t)) (g : Int) (zpo lp (fA g) (e - fA g)), zu (zg_trackStart (zx_groups t)) (g : Int) A, zu (zg_trackSlope (zx_groups t)) (g : Int) B, zu (zg_trackSet (zx_groups t)) (g : Int) Q, zu (zg_trackMisses (zx_groups t)) (g : Int) M, (g : Int) + 1)) ?_ rfl
    unfold fX0_add
    rw [h1]
    refine zyes (zLt_t (by omega) (by omega) (by omega)) (zok gg (zok gg (zok gg (zok gg (zok gg (zok gg rfl))))))
  · refine ⟨rfl, ?_, ?_, ?_, ?_⟩
    · show (if 0 = g + 1 then e else fA 0) = 0
      rw [if_neg (by omega)]; exact h2
    · show (if g + 1 = g + 1 then e else _) ≤ kn
      rw [if_pos rfl]; exact he2
    · intro q hq
      show (if q = Int.toNat (g : Int) then (e : Int) else zg_end (zx_groups t) q) = ((if q + 1 = g + 1 then e else fA (q + 1) : Nat) : Int)
      rw [zcN]
      by_cases eq : q = g
      · rw [if_pos eq, if_pos (by omega)]
      · rw [if_neg eq, if_neg (by omega)]; exact h4 q (by omega)
    · intro q hq
      show zEnd lw _ kn (if q = g + 1 then e else fA q) (if q + 1 = g + 1 then e else fA (q + 1)) ∧ lw (if q = g + 1 then e else fA q) + _ < ed ∧ (if q = Int.toNat (g : Int) then _ else _) = zpo lp (if q = g + 1 then e else fA q) ((if q + 1 = g + 1 then e else fA (q + 1)) - (if q = g + 1 then e else fA q)) ∧ zTr (fun j => zfm lp ls (j : Int) ((if q + 1 = g + 1 then e else fA (q + 1)) - (if q = g + 1 then e else fA q)) (if q = g + 1 then e else fA q)) (setting 3) (setting 2) (if q = Int.toNat (g : Int) then _ else _) (if q = Int.toNat (g : Int) then _ else _) (if q = Int.toNat (g : Int) then _ else _) (if q = Int.toNat (g : Int) then _ else _)
      rw [zcN, if_neg (show q ≠ g + 1 by omega)]
      by_cases eq : q = g
      · subst eq
        simp only [if_pos]
        exact ⟨e2, hsh, trivial, r2⟩
      · have e3 : ¬ (q + 1 = g + 1) := by omega
        simp only [if_neg eq, if_neg e3]
        exact h5 q (by omega)
theorem X_next {g : Nat} {fA : Nat → Nat} (hcf : zCfg lag dead manner setting) (hst : zx_setting t = setting) (hr : zx_liveRow t = zk_R lw lp ls (ml : Int)) (hkt : zx_known t = (kn : Int)) (hkn : kn ≤ ml) (hml : ml ≤ 240) (hok : zok3 lw lp ls ml) (hed : -2000 ≤ ed ∧ ed ≤ 30000)
    (h : zXG lw lp ls kn (setting 1) ed (setting 3) (setting 2) (zx_groups t) g fA) : ∃ r, fX3_nextGroupIsShut t ed = some r ∧ ((r = 0 ∧ (fA g = kn ∨ ed ≤ lw (fA g) + setting 1)) ∨ (r = 1 ∧ fA g < kn ∧ lw (fA g) + setting 1 < ed)) := by
  have hp := X_pulses (by omega) h
  have h3 := h.2.2.1
  obtain ⟨hc0, hc1, hc2, hc3, hc4⟩ := hcf
  unfold fX3_nextGroupIsShut
  rw [hr, hkt, hst]
  by_cases c1 : fA g = kn
  · exact ⟨0, zb hp (zyes (zLe_t (by omega) (by omega) (by omega)) rfl), Or.inl ⟨rfl, Or.inl c1⟩⟩
  · have hb := (hok (fA g) (by omega)).1
    by_cases c2 : ed ≤ lw (fA g) + setting 1
    · exact ⟨0, zb hp (zno (zLe_f (by omega) (by omega) (by omega)) (zb (R_when (ρ := zk_R lw lp ls (ml : Int)) (n := ml) rfl hml (by omega)) (zok ⟨by omega, by omega⟩ (zyes (zLe_t (show ed ≤ lw (fA g) + setting 1 from c2) (by omega) (by show lw (fA g) + setting 1 < _; omega)) rfl)))), Or.inl ⟨rfl, Or.inr c2⟩⟩
    · exact ⟨1, zb hp (zno (zLe_f (by omega) (by omega) (by omega)) (zb (R_when (ρ := zk_R lw lp ls (ml : Int)) (n := ml) rfl hml (by omega)) (zok ⟨by omega, by omega⟩ (zno (zLe_f (show lw (fA g) + setting 1 < ed by omega) (by show _ ≤ lw (fA g) + setting 1; omega) (by omega)) rfl)))), Or.inr ⟨rfl, by omega, by omega⟩⟩
theorem X_shut_loop (hcf : zCfg lag dead manner setting) (hst : zx_setting t = setting) {du : Nat → Int} {sd : Int} (hkn : kn ≤ ml) (hml : ml ≤ 240) (hok : zok3 lw lp ls ml) (hed : -2000 ≤ ed ∧ ed ≤ 30000) : ∀ (k i zn g : Nat) (γ : zGrT) (σ : zLsT) (fA : Nat → Nat), i + k = 240 → k < zn → i ≤ g → zXG lw lp ls kn (setting 1) ed (setting 3) (setting 2) γ g fA →
    ∃ γ' σ' g' fA', fX3_follow_L58 zn t ed (zk_R lw lp ls (ml : Int)) du sd (kn : Int) (i : Int) γ σ = some (γ', σ') ∧ zXG lw lp ls kn (setting 1) ed (setting 3) (setting 2) γ' g' fA' ∧ (fA' g' = kn ∨ ed ≤ lw (fA' g') + setting 1) := by
  intro k
  induction k with
  | zero =>
    intro i zn g γ σ fA hik hz hig h
    obtain ⟨zn, rfl⟩ : ∃ q, zn = q + 1 := ⟨zn - 1, by omega⟩
    rw [fX3_follow_L58_s]
    have hg := zXG_le h g (Nat.le_refl _)
    have h3 := h.2.2.1
    exact ⟨γ, σ, g, fA, zyes (zLe_t (by omega) (by omega) (by omega)) rfl, h, Or.inl (by omega)⟩
  | succ k ih =>
    intro i zn g γ σ fA hik hz hig h
    obtain ⟨zn, rfl⟩ : ∃ q, zn = q + 1 := ⟨zn - 1, by omega⟩
    rw [fX3_follow_L58_s]
    obtain ⟨r, n1, n2⟩ := X_next (t := zk_X (zx_lag t) (zx_dead t) (zx_manner t) (zx_setting t) (zx_keptRow t) (zk_R lw lp ls (ml : Int)) (zx_shiftedRow t) γ σ du sd (kn : Int) (zx_tooLate t) (zx_ended t)) hcf hst rfl rfl hkn hml hok hed h
    rcases n2 with ⟨rfl, n3⟩ | ⟨rfl, n3, n4⟩
    · exact ⟨γ, σ, g, fA, zno (zLe_f (by omega) (by omega) (by omega)) (zb n1 (zyes (zE_t rfl) rfl)), h, n3⟩
    · obtain ⟨γ1, σ1, fA1, a1, a2⟩ := X_shut (t := zk_X (zx_lag t) (zx_dead t) (zx_manner t) (zx_setting t) (zx_keptRow t) (zk_R lw lp ls (ml : Int)) (zx_shiftedRow t) γ σ du sd (kn : Int) (zx_tooLate t) (zx_ended t)) hcf hst rfl rfl hkn hml hok h n3 n4
      obtain ⟨γ2, σ2, g2, fA2, b1, b2, b3⟩ := ih (i + 1) zn (g + 1) γ1 σ1 fA1 (by omega) (by omega) (by omega) a2
      exact ⟨γ2, σ2, g2, fA2, zno (zLe_f (by omega) (by omega) (by omega)) (zb n1 (zno (zE_f (by omega) (by omega) (by omega) (by omega) (by omega)) (zb a1 b1))), b2, b3⟩
end XG
