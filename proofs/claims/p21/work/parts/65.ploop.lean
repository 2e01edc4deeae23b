/-! ===== PURE: the second house, told within the bound ===== -/
def zMn (ke : Nat → Int) (x : Int) (k : Nat) : Prop := (x = -1 ∧ ∀ j, j < k → ke j = 99999) ∨ ∃ m : Nat, x = (m : Int) ∧ m < k ∧ ke m < 99999 ∧ ∀ j, j < k → ke j < 99999 → ke m ≤ ke j
theorem LW_min {L : Nat} {zsc : Nat → Int} {o p : zXT} {pl mo st ke : Nat → Int} {n : Nat} (hn : n ≤ 47) (hk : ∀ j, j < n → 0 ≤ ke j ∧ ke j ≤ 99999) (e c h : Int) : ∀ (d i zn : Nat) (x : Int), i + d = n → d < zn → zMn ke x i → ∃ x', fL_law_L363 zn L zsc o p pl mo st ke e (n : Int) c h x (i : Int) = some x' ∧ zMn ke x' n := by
  intro d
  induction d with
  | zero =>
    intro i zn x hi hzn hm
    obtain ⟨zn, rfl⟩ : ∃ q, zn = q + 1 := ⟨zn - 1, by omega⟩
    have ei : i = n := by omega
    subst ei
    rw [fL_law_L363_s]
    exact ⟨x, zyes (zLe_t (by omega) (by omega) (by omega)) rfl, hm⟩
  | succ d ih =>
    intro i zn x hi hzn hm
    obtain ⟨zn, rfl⟩ : ∃ q, zn = q + 1 := ⟨zn - 1, by omega⟩
    rw [fL_law_L363_s]
    have g0 : zIn (i : Int) 48 := ⟨by omega, by omega⟩
    have hki := hk i (by omega)
    obtain ⟨y, y1, y2⟩ : ∃ y : Int, (if zLe 99999 (ke (Int.toNat (i : Int))) then some x else if zLt x 0 then some (i : Int) else zg (zIn (i : Int) 48) (zg (zIn x 48) (if zLe (ke (Int.toNat x)) (ke (Int.toNat (i : Int))) then some x else some (i : Int)))) = some y ∧ zMn ke y (i + 1) := by
      rw [zcN]
      by_cases c1 : 99999 ≤ ke i
      · refine ⟨x, zyes (zLe_t c1 (by omega) (by omega)) rfl, ?_⟩
        have e1 : ke i = 99999 := by omega
        rcases hm with ⟨h1, h2⟩ | ⟨m, h1, h2, h3, h4⟩
        · exact Or.inl ⟨h1, fun j hj => (Nat.lt_succ_iff_lt_or_eq.mp hj).elim (fun q => h2 j q) (fun q => by rw [q]; exact e1)⟩
        · exact Or.inr ⟨m, h1, by omega, h3, fun j hj hj2 => (Nat.lt_succ_iff_lt_or_eq.mp hj).elim (fun q => h4 j q hj2) (fun q => by subst q; omega)⟩
      · have n1 : ¬ zLe 99999 (ke i) := zLe_f (by omega) (by omega) (by omega)
        rcases hm with ⟨h1, h2⟩ | ⟨m, h1, h2, h3, h4⟩
        · subst h1
          refine ⟨(i : Int), zno n1 (zyes (zLt_t (by omega) (by omega) (by omega)) rfl), Or.inr ⟨i, rfl, by omega, by omega, fun j hj hj2 => ?_⟩⟩
          by_cases q : j = i
          · subst q; exact Int.le_refl _
          · have := h2 j (by omega); omega
        · subst h1
          have hkm := hk m (by omega)
          have gm : zIn (m : Int) 48 := ⟨by omega, by omega⟩
          have n2 : ¬ zLt (m : Int) 0 := zLt_f (by omega) (by omega) (by omega)
          by_cases c2 : ke m ≤ ke i
          · refine ⟨(m : Int), zno n1 (zno n2 (zok g0 (zok gm (zyes (by rw [zcN]; exact zLe_t c2 (by omega) (by omega)) rfl)))), Or.inr ⟨m, rfl, by omega, h3, fun j hj hj2 => ?_⟩⟩
            by_cases q : j = i
            · subst q; exact c2
            · exact h4 j (by omega) hj2
          · refine ⟨(i : Int), zno n1 (zno n2 (zok g0 (zok gm (zno (by rw [zcN]; exact zLe_f (by omega) (by omega) (by omega)) rfl)))), Or.inr ⟨i, rfl, by omega, by omega, fun j hj hj2 => ?_⟩⟩
            by_cases q : j = i
            · subst q; exact Int.le_refl _
            · have := h4 j (by omega) hj2; omega
    obtain ⟨x', k1, k2⟩ := ih (i + 1) zn y (by omega) (by omega) y2
    exact ⟨x', zno (zLe_f (by omega) (by omega) (by omega)) (zok g0 (zb y1 k1)), k2⟩
theorem LW_chk {L : Nat} {zsc : Nat → Int} {o p : zXT} {pl mo st ke : Nat → Int} {g : Nat} (hg : g ≤ 240) (e n c : Int) (h : ∀ k : Nat, k < g → zSG p o (k : Int)) : ∀ (d i zn : Nat), i + d = g → d < zn → fL_law_L468 zn L zsc o p pl mo st ke e n c (g : Int) (i : Int) = some () := by
  intro d
  induction d with
  | zero =>
    intro i zn hi hzn
    obtain ⟨zn, rfl⟩ : ∃ q, zn = q + 1 := ⟨zn - 1, by omega⟩
    rw [fL_law_L468_s]
    exact zyes (zLe_t (by omega) (by omega) (by omega)) rfl
  | succ d ih =>
    intro i zn hi hzn
    obtain ⟨zn, rfl⟩ : ∃ q, zn = q + 1 := ⟨zn - 1, by omega⟩
    rw [fL_law_L468_s]
    exact zno (zLe_f (by omega) (by omega) (by omega)) (zb (LW_sameGroup (h i (by omega))) (zno z10 (ih (i + 1) zn (by omega) (by omega))))
/-- the pulses that were told -/
def zTl (ke mo pl st : Nat → Int) (n : Nat) : List zP3 := ((List.range n).filter (fun j => decide (ke j = 99999))).map (fun i => (mo i, pl i, st i))
theorem zTl_add {ke : Nat → Int} {m : Nat} (hm : ke m ≠ 99999) : ∀ n, ((List.range n).filter (fun j => decide (zu ke (m : Int) 99999 j = 99999))).Perm (if m < n then m :: (List.range n).filter (fun j => decide (ke j = 99999)) else (List.range n).filter (fun j => decide (ke j = 99999))) := by
  intro n
  induction n with
  | zero => rw [if_neg (by omega)]; exact List.Perm.refl _
  | succ n ih =>
    rw [List.range_succ, List.filter_append, List.filter_append]
    by_cases c : n = m
    · subst c
      rw [if_neg (by omega)] at ih
      rw [if_pos (by omega)]
      have e1 : List.filter (fun j => decide (zu ke (n : Int) 99999 j = 99999)) [n] = [n] := by
        rw [List.filter_cons_of_pos (by rw [zu_at]; rfl)]; rfl
      have e2 : List.filter (fun j => decide (ke j = 99999)) [n] = [] := by
        rw [List.filter_cons_of_neg (by simp [hm])]; rfl
      rw [e1, e2, List.append_nil]
      exact (List.perm_append_singleton _ _).trans (List.Perm.cons _ ih)
    · have e1 : List.filter (fun j => decide (zu ke (m : Int) 99999 j = 99999)) [n] = List.filter (fun j => decide (ke j = 99999)) [n] := by
        have : zu ke (m : Int) 99999 n = ke n := zu_ne2 _ _ _ c
        simp only [List.filter_cons, List.filter_nil, this]
      rw [e1]
      by_cases c2 : m < n
      · rw [if_pos c2] at ih
        rw [if_pos (by omega)]
        exact List.Perm.append_right _ ih
      · rw [if_neg c2] at ih
        rw [if_neg (by omega)]
        exact List.Perm.append_right _ ih
theorem zTl_new {ke mo pl st : Nat → Int} {m n : Nat} (hm : ke m ≠ 99999) (hmn : m < n) : (zTl (zu ke (m : Int) 99999) mo pl st n).Perm ((mo m, pl m, st m) :: zTl ke mo pl st n) := by
  have h := zTl_add hm n
  rw [if_pos hmn] at h
  exact h.map (fun i => (mo i, pl i, st i))
theorem zTl_all {ke mo pl st : Nat → Int} {n : Nat} (h : ∀ j, j < n → ke j = 99999) : zTl ke mo pl st n = zrl mo pl st n := by
  unfold zTl zrl
  rw [List.filter_eq_self.mpr (fun a ha => by simp [h a (List.mem_range.mp ha)])]
theorem zTl_full {ke mo pl st : Nat → Int} {n : Nat} (h : (zTl ke mo pl st n).length = n) : ∀ j, j < n → ke j = 99999 := by
  intro j hj
  unfold zTl at h
  rw [List.length_map] at h
  have h2 := (List.length_filter_eq_length_iff (p := fun j => decide (ke j = 99999)) (l := List.range n)).mp (by rw [h, List.length_range])
  have := h2 j (List.mem_range.mpr hj)
  simpa using this
theorem zTl_mem {ke mo pl st : Nat → Int} {n : Nat} {x : zP3} (h : x ∈ zTl ke mo pl st n) : ∃ j, j < n ∧ ke j = 99999 ∧ x = (mo j, pl j, st j) := by
  unfold zTl at h
  obtain ⟨j, hj, rfl⟩ := List.mem_map.mp h
  have h1 := List.mem_filter.mp hj
  exact ⟨j, List.mem_range.mp h1.1, by simpa using h1.2, rfl⟩
section Ploop
variable {lag dead manner setting W0 P0 S0 Wo Po So : Nat → Int} {L : Nat} {zsc : Nat → Int} {o : zXT} {pl mo st ke0 : Nat → Int} {b n : Nat} {M : Int}
theorem LW_ploop (hn : n ≤ 47) (hb : b ≤ 59) (hB : setting 0 = (b : Int)) (hM : M ≤ 9999) (hA : zAr (b : Int) pl mo st ke0 M n) (ho : zH o lag dead manner setting Wo Po So n 1 0) (hpo : (zrl Wo Po So n).Perm (zrl mo pl st n)) (hbo : zBy n Wo Po So W0 P0 S0) (e : Int) : ∀ (d c zn : Nat) (p : zXT) (ke : Nat → Int) (had : Int) (W P S : Nat → Int), c + d = n → d < zn → (∀ j, j < n → ke j = 99999 ∨ ke j = ke0 j) → (∀ j k, j < n → k < n → ke j = 99999 → ke k ≠ 99999 → ke0 j ≤ ke0 k) → zH p lag dead manner setting W P S c 0 0 → (zrl W P S c).Perm (zTl ke mo pl st n) → zBy c W P S W0 P0 S0 → zg_size (zx_groups p) = had →
    ∃ p' ke' W' P' S', fL_law_L350 zn L zsc o p pl mo st ke e (n : Int) (c : Int) had = some (p', ke') ∧ zH p' lag dead manner setting W' P' S' n 0 0 ∧ (zrl W' P' S' n).Perm (zrl mo pl st n) ∧ zBy n W' P' S' W0 P0 S0 ∧ zPf p p' := by
  intro d
  induction d with
  | zero =>
    intro c zn p ke had W P S hc hzn hk hord h hp hby hhad
    obtain ⟨zn, rfl⟩ : ∃ q, zn = q + 1 := ⟨zn - 1, by omega⟩
    have ec : c = n := by omega
    subst ec
    rw [fL_law_L350_s]
    obtain ⟨g, g1, g2⟩ := H_size h
    have hf := zTl_full (ke := ke) (mo := mo) (pl := pl) (st := st) (n := c) (by rw [← hp.length_eq, zrl_len])
    rw [zTl_all hf] at hp
    exact ⟨p, ke, W, P, S, zyes (zLe_t (by omega) (by omega) (by omega)) rfl, h, hp, hby, zPf_same g1 rfl rfl rfl⟩
  | succ d ih =>
    intro c zn p ke had W P S hc hzn hk hord h hp hby hhad
    obtain ⟨zn, rfl⟩ : ∃ q, zn = q + 1 := ⟨zn - 1, by omega⟩
    rw [fL_law_L350_s]
    have hkb : ∀ j, j < n → 0 ≤ ke j ∧ ke j ≤ 99999 := fun j hj => by
      have := hA j hj
      rcases hk j hj with q | q
      · omega
      · rw [q]; omega
    obtain ⟨x, x1, x2⟩ := LW_min (L := L) (zsc := zsc) (o := o) (p := p) (pl := pl) (mo := mo) (st := st) hn hkb e (c : Int) had n 0 zF (-1) (by omega) (by unfold zF; omega) (Or.inl ⟨rfl, fun j hj => by omega⟩)
    rcases x2 with ⟨_, x3⟩ | ⟨m, rfl, m1, m2, m3⟩
    · exfalso
      have h1 := hp.length_eq
      rw [zTl_all x3, zrl_len, zrl_len] at h1
      omega
    have gm : zIn (m : Int) 48 := ⟨by omega, by omega⟩
    have hAm := hA m m1
    have ekm : ke m = ke0 m := (hk m m1).elim (fun q => by omega) (fun q => q)
    obtain ⟨r, W1, P1, S1, r1, r2, r3, r4, r5, r6⟩ := F_pulse h hby (p1 := pl m) (p2 := mo m) (p3 := st m) hAm.1 (by omega) hAm.2.1 (fun y hy => by
      obtain ⟨j, j1, j2, rfl⟩ := zTl_mem (hp.mem_iff.mp hy)
      have h1 := hord j m j1 m1 j2 (by omega)
      have h2 := hA j j1
      show mo j ≤ _
      rw [hB]; omega) (by omega)
    obtain ⟨g, g1, g2⟩ := H_size h
    obtain ⟨g', g1', g2'⟩ := H_size r3
    have hgg : g ≤ g' := by
      obtain ⟨f, f', q1, q2, q3, _⟩ := r4
      omega
    have hp' : (zrl W1 P1 S1 (c + 1)).Perm (zTl (zu ke (m : Int) 99999) mo pl st n) := r5.trans ((List.Perm.cons _ hp).trans (zTl_new (by omega) m1).symm)
    obtain ⟨p', ke', W', P', S', k1, k2, k3, k4, k5⟩ := ih (c + 1) zn (zNP p r) (zu ke (m : Int) 99999) (g' : Int) W1 P1 S1 (by omega) (by omega) (fun j hj => by
      by_cases q : j = m
      · subst q; exact Or.inl (zu_at _ _ _)
      · rw [zu_ne2 _ _ _ q]; exact hk j hj) (fun j k hj hk2 h1 h2 => by
      by_cases q : k = m
      · subst q; exact absurd (zu_at _ _ _) h2
      · rw [zu_ne2 _ _ _ q] at h2
        have ek : ke k = ke0 k := (hk k hk2).elim (fun q2 => absurd q2 h2) (fun q2 => q2)
        by_cases q2 : j = m
        · subst q2
          have hAk := hA k hk2
          have h3 := m3 k hk2 (by omega)
          omega
        · rw [zu_ne2 _ _ _ q2] at h1
          exact hord j k hj hk2 h1 h2) r3 hp' r6 g1'
    refine ⟨p', ke', W', P', S', ?_, k2, k3, k4, zPf_t r4 k5⟩
    obtain ⟨s, s1, s2, s3, s4, s5⟩ := H_end0 k2
    obtain ⟨rfl, rfl, rfl⟩ := F_same k2.1.2.1.2.2 ho.1.2.1.2.2 k3 hpo k4 hbo
    have hsg : ∀ k : Nat, k < g' → zSG (zNP p r) o (k : Int) := fun k hk => SG_mid r3 s4 ho (zPf_t k5 s5) (by omega)
    have hch := LW_chk (L := L) (zsc := zsc) (o := o) (p := zNP p r) (pl := pl) (mo := mo) (st := st) (ke := zu ke (m : Int) 99999) g2' e (n : Int) ((c : Int) + 1) hsg (g' - g) g zF (by omega) (by unfold zF; omega)
    refine zno (zLe_f (by omega) (by omega) (by omega)) (zb x1 (zok gm (zok gm (zok gm (zok gm ?_)))))
    refine zb (by rw [zcN]; exact r1) (zyes (zE_t r2) ?_)
    refine zb (show fX3_many (zNP p r) 7 = some (g' : Int) by rw [N_many.1, g1']) ?_
    refine zyes (by rw [← hhad, g1]; exact zLe_t (by omega) (by omega) (by omega)) ?_
    refine zb (by rw [← hhad, g1]; exact hch) ?_
    exact k1
end Ploop
