/-! ===== PURE: rate, from the live time's common value ===== -/
theorem rate_of {t : zXT} {t2 : zMT} {lag dead manner setting W P S : Nat → Int} {n : Nat} {ov : Int} (hl : zRl t t2 lag dead manner setting W P S n ov) {p1 p2 : Int} (c1 : 0 ≤ p1 ∧ p1 ≤ 5) (c2 : 0 ≤ p2 ∧ p2 ≤ 1) (r1 : zR p1) (r2 : zR p2) (e1 : ov = 1) {v : Nat} (hvb : v < 16000) (hX : fX3_liveTime t p1 = some (v : Int)) (hM : ∀ t', zCM t' lag dead manner setting W P S n ov → ∃ L E, fX4_liveTime t' p1 = some ((v : Int), L, E)) : ∃ a r, fX3_rate t p1 p2 = some a ∧ fX4_rate t2 p1 p2 = some (a, r) ∧ zE (zlcmp a a) 0 := by
  obtain ⟨lw, lp, ls, ml, kn, g, fA, L, E, T, U, G, gR, Fa, hk⟩ := L_link hl
  have hv := hl.1
  have hCM := hl.2.2.1
  have hc := hl.2.1.1
  have hn := hv.2.1.1
  have hx := zst_le W (zhor (setting 0) W n ov) n
  have no3 : ¬ zE (zx_ended t) 0 := by rw [hc.2.2.2.2.2, e1]; exact z10
  have no4 : ¬ zE (zm_isOver t2) 0 := by rw [hCM.2.2.2.2.2.2.2.2, e1]; exact z10
  have xa := X_liveOf hk hv c1
  obtain ⟨L0, E0, m0⟩ := hM t2 hCM
  obtain ⟨L1, E1, ma⟩ := M_manyLive (t := zk_M (zm_lag t2) (zm_dead t2) (zm_manner t2) (zm_setting t2) (zm_leastOf t2) (zm_mostOf t2) (zm_kept t2) (zm_planeOf t2) (zm_momentOf t2) (zm_stripOf t2) (zm_late t2) (zm_isOver t2) L0 E0 (zm_known t2) (zm_timeOf t2) (zm_pulseOf t2) (zm_groupOf t2) (zm_groups t2) (zm_shut t2) (zm_firstOf t2) (zm_agrees t2) (zm_agreeSet t2) (zm_missed t2) (zm_bestA t2) (zm_bestB t2) (zm_bestAgrees t2) (zm_bestMissed t2)) (show zCM _ lag dead manner setting W P S n ov from hCM) hv (j := p1) (w := 1) (Or.inr c1) (by omega)
  obtain ⟨L2, E2, m2⟩ := hM (zk_M (zm_lag t2) (zm_dead t2) (zm_manner t2) (zm_setting t2) (zm_leastOf t2) (zm_mostOf t2) (zm_kept t2) (zm_planeOf t2) (zm_momentOf t2) (zm_stripOf t2) (zm_late t2) (zm_isOver t2) L1 E1 (zm_known t2) (zm_timeOf t2) (zm_pulseOf t2) (zm_groupOf t2) (zm_groups t2) (zm_shut t2) (zm_firstOf t2) (zm_agrees t2) (zm_agreeSet t2) (zm_missed t2) (zm_bestA t2) (zm_bestB t2) (zm_bestAgrees t2) (zm_bestMissed t2)) (show zCM _ lag dead manner setting W P S n ov from hCM)
  rw [zct_congr (b := zml1 W P dead manner p1 1) _ (fun i _ => zml1_live c1.1 i)] at ma
  have ba := zct_b (fun i => decide (P i = p1) && zlv W P dead manner i) (zst W (zhor (setting 0) W n ov) n)
  generalize hA : zct (fun i => decide (P i = p1) && zlv W P dead manner i) (zst W (zhor (setting 0) W n ov) n) = A at xa ma ba
  obtain ⟨a, rfl⟩ := Int.eq_ofNat_of_zero_le ba.1
  have ea : zi2l ((a : Nat) : Int) = (a : Int) := zi2l_get ⟨by omega, by omega⟩
  have ez : zi2l ((v : Nat) : Int) = (v : Int) := zi2l_get ⟨by omega, by omega⟩
  unfold fX3_rate fX4_rate
  by_cases c6 : v = 0
  · subst c6
    refine ⟨-9223372036854775808, (L0, E0), zb (P3t r1 c1) (zno z10 (zb (W3t r2 c2 (by omega) (by omega)) (zno z10 (zno no3 (zb xa (zb hX (zb (a := -9223372036854775808) (by rw [ea, ez]; exact zleast_lost) rfl))))))), zb (P4t r1 c1) (zno z10 (zb (W4t r2 c2 (by omega) (by omega)) (zno z10 (zno no4 (zb m0 (zyes z00 rfl)))))), zself _⟩
  · obtain ⟨r, q1, q2⟩ := zleast (x := a) (y := v) (w := p2) (by omega) (by omega) hvb c2
    refine ⟨r, (L2, E2), zb (P3t r1 c1) (zno z10 (zb (W3t r2 c2 (by omega) (by omega)) (zno z10 (zno no3 (zb xa (zb hX (zb (a := r) (by rw [ea, ez]; exact q1) rfl))))))), zb (P4t r1 c1) (zno z10 (zb (W4t r2 c2 (by omega) (by omega)) (zno z10 (zno no4 (zb m0 (zno (zE_f (by show ((v : Nat) : Int) ≠ 0; omega) (by show _ ≤ ((v : Nat) : Int); omega) (by show ((v : Nat) : Int) < _; omega) (by omega) (by omega)) (zb ma (zb m2 (zb (a := r) (by show fX4_inLeastTerms (zi2l ((a : Nat) : Int)) (zi2l ((v : Nat) : Int)) p2 = _; rw [ea, ez]; exact q2) rfl))))))))), zself _⟩
