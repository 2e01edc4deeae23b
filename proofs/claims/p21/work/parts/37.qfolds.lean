/-! ===== PURE: folds, coincidences ===== -/
def zbC (v : Int) : Int := (fJ6_bitCount_0f7a4 v).getD 0
theorem zbC_e {v : Int} (hv : 0 ≤ v ∧ v ≤ 63) : fJ6_bitCount_0f7a4 v = some (zbC v) ∧ fX4_size v = some (zbC v) ∧ 0 ≤ zbC v ∧ zbC v ≤ 6 := by
  obtain ⟨c, h1, h2, h3, h4⟩ := zbc hv
  have e : zbC v = c := by unfold zbC; rw [h1]; rfl
  rw [e]; exact ⟨h1, h2, h3, h4⟩
theorem zct_add (b : Nat → Bool) (i : Nat) : zct b i + (if b i = true then 1 else 0) = zct b (i + 1) := by
  rw [zct_s]
  by_cases c : b i = true
  · rw [if_pos c, if_pos c]
  · rw [if_neg c, if_neg c]; exact Int.add_zero _
theorem X_isCoin {t : zXT} {setting : Nat → Int} (hst : zx_setting t = setting) (hf : 2 ≤ setting 2 ∧ setting 2 ≤ 6) {v : Int} (hv : 0 ≤ v ∧ v ≤ 63) : fX3_isCoincidence t v = some (if decide (setting 2 ≤ zbC v) = true then 1 else 0) := by
  obtain ⟨h1, _, h3, h4⟩ := zbC_e hv
  unfold fX3_isCoincidence
  rw [hst]
  refine zb h1 (zok ⟨by omega, by omega⟩ ?_)
  by_cases c : setting 2 ≤ zbC v
  · rw [decide_eq_true c]
    exact zno (zLt_f (show setting 2 ≤ zbC v from c) (by show _ ≤ setting 2; omega) (by omega)) rfl
  · rw [decide_eq_false c]
    exact zyes (zLt_t (show zbC v < setting 2 by omega) (by omega) (by show setting 2 < _; omega)) rfl
section QF
variable {t : zXT} {t2 : zMT} {lag dead manner setting W P S : Nat → Int} {n : Nat} {ov : Int} {lw lp ls : Nat → Int} {ml kn g : Nat} {fA : Nat → Nat} {L E T U G : Nat → Int} {gR : Nat} {Fa : Nat → Int}
theorem X_folds_loop (hk : zLk t t2 lag dead manner setting W P S n ov lw lp ls ml kn g fA L E T U G gR Fa) (hv : zVal lag dead manner setting W P S n ov) {m : Int} (hm : 1 ≤ m ∧ m ≤ 6) : ∀ (k i zn : Nat), i + k = g → k < zn → fX3_folds_L17 zn t m (zct (fun q => decide (zbC (zpo lp (fA q) (fA (q + 1) - fA q)) = m)) i) (i : Int) = some (zct (fun q => decide (zbC (zpo lp (fA q) (fA (q + 1) - fA q)) = m)) g) := by
  have hb := zk_b hk hv
  have hgx := (zk_grp hk).2.2.2
  intro k
  induction k with
  | zero =>
    intro i zn hik hz
    obtain ⟨zn, rfl⟩ : ∃ q, zn = q + 1 := ⟨zn - 1, by omega⟩
    rw [fX3_folds_L17_s, (zk_grp hk).1]
    have : i = g := by omega
    subst this
    exact zyes (zLe_t (by omega) (by omega) (by omega)) rfl
  | succ k ih =>
    intro i zn hik hz
    obtain ⟨zn, rfl⟩ : ∃ q, zn = q + 1 := ⟨zn - 1, by omega⟩
    rw [fX3_folds_L17_s, (zk_grp hk).1]
    have hset := (hgx.2 i (by omega)).2.2.1
    obtain ⟨h1, h2, h3, h4⟩ := zbC_e (zset_b hk (q := i) (by omega))
    refine zno (zLe_f (by omega) (by omega) (by omega)) (zok ⟨by omega, by omega⟩ ?_)
    rw [zcN, hset, zc1]
    refine zb h1 ?_
    refine zb (a := zct (fun q => decide (zbC (zpo lp (fA q) (fA (q + 1) - fA q)) = m)) (i + 1)) ?_ (ih (i + 1) zn (by omega) (by omega))
    rw [zct_s]
    by_cases c : zbC (zpo lp (fA i) (fA (i + 1) - fA i)) = m
    · refine zyes (zE_t c) ?_
      rw [if_pos (decide_eq_true c)]
    · refine zno (zE_f c (by omega) (by omega) (by omega) (by omega)) ?_
      rw [if_neg (fun z => c (of_decide_eq_true z))]
theorem M_folds_loop (hk : zLk t t2 lag dead manner setting W P S n ov lw lp ls ml kn g fA L E T U G gR Fa) (hv : zVal lag dead manner setting W P S n ov) (hM : zCM t2 lag dead manner setting W P S n ov) {m : Int} (hm : 1 ≤ m ∧ m ≤ 6) : ∀ (k i zn : Nat), i + k = g → k < zn → fX4_folds_L23 zn t2 m L E (kn : Int) T U G (gR : Int) (g : Int) Fa (zct (fun q => decide (zbC (zpo lp (fA q) (fA (q + 1) - fA q)) = m)) i) (i : Int) = some (zct (fun q => decide (zbC (zpo lp (fA q) (fA (q + 1) - fA q)) = m)) g) := by
  have hb := zk_b hk hv
  intro k
  induction k with
  | zero =>
    intro i zn hik hz
    obtain ⟨zn, rfl⟩ : ∃ q, zn = q + 1 := ⟨zn - 1, by omega⟩
    rw [fX4_folds_L23_s]
    have : i = g := by omega
    subst this
    exact zyes (zLe_t (by omega) (by omega) (by omega)) rfl
  | succ k ih =>
    intro i zn hik hz
    obtain ⟨zn, rfl⟩ : ∃ q, zn = q + 1 := ⟨zn - 1, by omega⟩
    rw [fX4_folds_L23_s]
    obtain ⟨h1, h2, h3, h4⟩ := zbC_e (zset_b hk (q := i) (by omega))
    refine zno (zLe_f (by omega) (by omega) (by omega)) (zb (M_set_q hk hv hM (q := i) (by omega)) (zb h2 ?_))
    refine zb (a := if decide (zbC (zpo lp (fA i) (fA (i + 1) - fA i)) = m) = true then 1 else 0) ?_ (zlet ?_)
    · by_cases c : zbC (zpo lp (fA i) (fA (i + 1) - fA i)) = m
      · rw [decide_eq_true c]; exact zyes (zE_t c) rfl
      · rw [decide_eq_false c]; exact zno (zE_f c (by omega) (by omega) (by omega) (by omega)) rfl
    · have e := zct_add (fun q => decide (zbC (zpo lp (fA q) (fA (q + 1) - fA q)) = m)) i
      rw [e]
      exact ih (i + 1) zn (by omega) (by omega)
theorem L_folds (h : zRel t t2) {p1 : Int} (r1 : zR p1) : ∃ a r, fX3_folds t p1 = some a ∧ fX4_folds t2 p1 = some (a, r) := by
  obtain ⟨lag, dead, manner, setting, W, P, S, n, ov, hl⟩ := h
  obtain ⟨lw, lp, ls, ml, kn, g, fA, L, E, T, U, G, gR, Fa, hk⟩ := L_link hl
  have hv := hl.1
  have hM := hl.2.2.1
  have hb := zk_b hk hv
  unfold fX3_folds fX4_folds
  by_cases c1 : 1 ≤ p1 ∧ p1 ≤ 6
  case neg => exact ⟨-2, ((zm_isLive t2), (zm_endOf t2), (zm_known t2), (zm_timeOf t2), (zm_pulseOf t2), (zm_groupOf t2), (zm_groups t2), (zm_shut t2), (zm_firstOf t2)), zb (W3f r1 c1 (by omega) (by omega)) (zyes z00 rfl), zb (W4f r1 c1 (by omega) (by omega)) (zyes z00 rfl)⟩
  have x := X_folds_loop hk hv c1 g 0 zF (by omega) (by unfold zF; omega)
  have m := M_folds_loop hk hv hM c1 g 0 zF (by omega) (by unfold zF; omega)
  exact ⟨_, zSc L E kn T U G gR g Fa, zb (W3t r1 c1 (by omega) (by omega)) (zno z10 (zb x rfl)), zb (W4t r1 c1 (by omega) (by omega)) (zno z10 (zb (zk_fnd hk) (zb m rfl)))⟩
theorem X_coin_loop (hk : zLk t t2 lag dead manner setting W P S n ov lw lp ls ml kn g fA L E T U G gR Fa) (hv : zVal lag dead manner setting W P S n ov) (hst : zx_setting t = setting) : ∀ (k i zn : Nat), i + k = g → k < zn → fX3_coincidences_L4 zn t (zct (fun q => decide (setting 2 ≤ zbC (zpo lp (fA q) (fA (q + 1) - fA q)))) i) (i : Int) = some (zct (fun q => decide (setting 2 ≤ zbC (zpo lp (fA q) (fA (q + 1) - fA q)))) g) := by
  have hb := zk_b hk hv
  have hgx := (zk_grp hk).2.2.2
  intro k
  induction k with
  | zero =>
    intro i zn hik hz
    obtain ⟨zn, rfl⟩ : ∃ q, zn = q + 1 := ⟨zn - 1, by omega⟩
    rw [fX3_coincidences_L4_s, (zk_grp hk).1]
    have : i = g := by omega
    subst this
    exact zyes (zLe_t (by omega) (by omega) (by omega)) rfl
  | succ k ih =>
    intro i zn hik hz
    obtain ⟨zn, rfl⟩ : ∃ q, zn = q + 1 := ⟨zn - 1, by omega⟩
    rw [fX3_coincidences_L4_s, (zk_grp hk).1]
    have hset := (hgx.2 i (by omega)).2.2.1
    refine zno (zLe_f (by omega) (by omega) (by omega)) (zok ⟨by omega, by omega⟩ ?_)
    rw [zcN, hset, zc1]
    refine zb (X_isCoin hst hv.1.2.2.2.1 (zset_b hk (q := i) (by omega))) ?_
    refine zb (a := zct (fun q => decide (setting 2 ≤ zbC (zpo lp (fA q) (fA (q + 1) - fA q)))) (i + 1)) ?_ (ih (i + 1) zn (by omega) (by omega))
    rw [zct_s]
    by_cases c : setting 2 ≤ zbC (zpo lp (fA i) (fA (i + 1) - fA i))
    · simp only [decide_eq_true c, if_true]; exact zno z10 rfl
    · simp only [decide_eq_false c, if_false, Bool.false_eq_true]; exact zyes trivial rfl
/-- the reference's count of coincidences among the first N groups, whose sets are vs -/
theorem M_coin_loop {t' : zMT} {setting : Nat → Int} (hst : zm_setting t' = setting) (hf : 2 ≤ setting 2 ∧ setting 2 ≤ 6) {N : Nat} (hN : N ≤ 240) {vs : Nat → Int} (hs : ∀ q : Nat, q < N → fX4_setOf t' (q : Int) = some (vs q) ∧ 0 ≤ vs q ∧ vs q ≤ 63) : ∀ (k i zn : Nat), i + k = N → k < zn → fX4_coincidences_L4 zn t' (N : Int) (zct (fun q => decide (setting 2 ≤ zbC (vs q))) i) (i : Int) = some (zct (fun q => decide (setting 2 ≤ zbC (vs q))) N) := by
  intro k
  induction k with
  | zero =>
    intro i zn hik hz
    obtain ⟨zn, rfl⟩ : ∃ q, zn = q + 1 := ⟨zn - 1, by omega⟩
    rw [fX4_coincidences_L4_s]
    have : i = N := by omega
    subst this
    exact zyes (zLe_t (by omega) (by omega) (by omega)) rfl
  | succ k ih =>
    intro i zn hik hz
    obtain ⟨zn, rfl⟩ : ∃ q, zn = q + 1 := ⟨zn - 1, by omega⟩
    rw [fX4_coincidences_L4_s, hst]
    obtain ⟨s1, s2⟩ := hs i (by omega)
    obtain ⟨h1, h2, h3, h4⟩ := zbC_e s2
    refine zno (zLe_f (by omega) (by omega) (by omega)) (zb s1 (zb h2 (zok ⟨by omega, by omega⟩ ?_)))
    refine zb (a := if decide (setting 2 ≤ zbC (vs i)) = true then 1 else 0) ?_ (zlet ?_)
    · by_cases c : setting 2 ≤ zbC (vs i)
      · rw [decide_eq_true c]; exact zno (zLt_f (show setting 2 ≤ zbC (vs i) from c) (by show _ ≤ setting 2; omega) (by omega)) rfl
      · rw [decide_eq_false c]; exact zyes (zLt_t (show zbC (vs i) < setting 2 by omega) (by omega) (by show setting 2 < _; omega)) rfl
    · have e := zct_add (fun q => decide (setting 2 ≤ zbC (vs q))) i
      rw [e]
      exact ih (i + 1) zn (by omega) (by omega)
end QF
