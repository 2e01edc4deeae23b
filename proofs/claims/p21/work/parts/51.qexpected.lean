/-! ===== PURE: expected ===== -/
theorem zself (a : Int) : zE (zlcmp a a) 0 := by rw [zlcmp_self]
theorem L_expected (t : zXT) (t2 : zMT) (p1 p2 p3 : Int) (h : zRel t t2) (r1 : zR p1) (r2 : zR p2) (r3 : zR p3) : ∃ a r, fX3_expected t p1 p2 p3 = some a ∧ fX4_expected t2 p1 p2 p3 = some (a, r) ∧ zE (zlcmp a a) 0 := by
  obtain ⟨lag, dead, manner, setting, W, P, S, n, ov, hl⟩ := h
  obtain ⟨lw, lp, ls, ml, kn, g, fA, L, E, T, U, G, gR, Fa, hk⟩ := L_link hl
  have hv := hl.1
  have hM := hl.2.2.1
  have hc := hl.2.1.1
  have hn := hv.2.1.1
  have hx := zst_le W (zhor (setting 0) W n ov) n
  unfold fX3_expected fX4_expected
  by_cases c1 : 0 ≤ p1 ∧ p1 ≤ 5
  case neg => exact ⟨-9223372036854775808, (zm_isLive t2, zm_endOf t2), zb (P3f r1 c1) (zyes z00 rfl), zb (P4f r1 c1) (zyes z00 rfl), zself _⟩
  by_cases c2 : 0 ≤ p2 ∧ p2 ≤ 5
  case neg => exact ⟨-9223372036854775808, (zm_isLive t2, zm_endOf t2), zb (P3t r1 c1) (zno z10 (zb (P3f r2 c2) (zyes z00 rfl))), zb (P4t r1 c1) (zno z10 (zb (P4f r2 c2) (zyes z00 rfl))), zself _⟩
  by_cases c3 : 0 ≤ p3 ∧ p3 ≤ 1
  case neg => exact ⟨-9223372036854775808, (zm_isLive t2, zm_endOf t2), zb (P3t r1 c1) (zno z10 (zb (P3t r2 c2) (zno z10 (zb (W3f r3 c3 (by omega) (by omega)) (zyes z00 rfl))))), zb (P4t r1 c1) (zno z10 (zb (P4t r2 c2) (zno z10 (zb (W4f r3 c3 (by omega) (by omega)) (zyes z00 rfl))))), zself _⟩
  by_cases c4 : p1 = p2
  · exact ⟨-9223372036854775808, (zm_isLive t2, zm_endOf t2), zb (P3t r1 c1) (zno z10 (zb (P3t r2 c2) (zno z10 (zb (W3t r3 c3 (by omega) (by omega)) (zno z10 (zyes (zE_t c4) rfl)))))), zb (P4t r1 c1) (zno z10 (zb (P4t r2 c2) (zno z10 (zb (W4t r3 c3 (by omega) (by omega)) (zno z10 (zyes (zE_t c4) rfl)))))), zself _⟩
  have nE : ¬ zE p1 p2 := zE_f c4 r1.1 r1.2 r2.1 r2.2
  have eo := hc.2.2.2.2.2
  have eo2 := hM.2.2.2.2.2.2.2.2
  by_cases c5 : ov = 0
  · subst c5
    exact ⟨-9223372036854775808, (zm_isLive t2, zm_endOf t2), zb (P3t r1 c1) (zno z10 (zb (P3t r2 c2) (zno z10 (zb (W3t r3 c3 (by omega) (by omega)) (zno z10 (zno nE (zyes (by rw [eo]) rfl))))))), zb (P4t r1 c1) (zno z10 (zb (P4t r2 c2) (zno z10 (zb (W4t r3 c3 (by omega) (by omega)) (zno z10 (zno nE (zyes (by rw [eo2]) rfl))))))), zself _⟩
  have e1 : ov = 1 := by rcases hv.2.2 with q | q; exact absurd q c5; exact q
  have no3 : ¬ zE (zx_ended t) 0 := by rw [eo, e1]; exact z10
  have no4 : ¬ zE (zm_isOver t2) 0 := by rw [eo2, e1]; exact z10
  have xa := X_liveOf hk hv c1
  have xb := X_liveOf hk hv c2
  have xs := X_span hc hv
  have ms := M_span hM hv
  obtain ⟨L1, E1, ma⟩ := M_manyLive hM hv (j := p1) (w := 1) (Or.inr c1) (by omega)
  obtain ⟨L2, E2, mb⟩ := M_manyLive (t := zk_M (zm_lag t2) (zm_dead t2) (zm_manner t2) (zm_setting t2) (zm_leastOf t2) (zm_mostOf t2) (zm_kept t2) (zm_planeOf t2) (zm_momentOf t2) (zm_stripOf t2) (zm_late t2) (zm_isOver t2) L1 E1 (zm_known t2) (zm_timeOf t2) (zm_pulseOf t2) (zm_groupOf t2) (zm_groups t2) (zm_shut t2) (zm_firstOf t2) (zm_agrees t2) (zm_agreeSet t2) (zm_missed t2) (zm_bestA t2) (zm_bestB t2) (zm_bestAgrees t2) (zm_bestMissed t2)) (show zCM _ lag dead manner setting W P S n ov from hM) hv (j := p2) (w := 1) (Or.inr c2) (by omega)
  have ms2 := M_span (t := zk_M (zm_lag t2) (zm_dead t2) (zm_manner t2) (zm_setting t2) (zm_leastOf t2) (zm_mostOf t2) (zm_kept t2) (zm_planeOf t2) (zm_momentOf t2) (zm_stripOf t2) (zm_late t2) (zm_isOver t2) L2 E2 (zm_known t2) (zm_timeOf t2) (zm_pulseOf t2) (zm_groupOf t2) (zm_groups t2) (zm_shut t2) (zm_firstOf t2) (zm_agrees t2) (zm_agreeSet t2) (zm_missed t2) (zm_bestA t2) (zm_bestB t2) (zm_bestAgrees t2) (zm_bestMissed t2)) (show zCM _ lag dead manner setting W P S n ov from hM) hv
  rw [zct_congr (b := zml1 W P dead manner p1 1) _ (fun i _ => zml1_live c1.1 i)] at ma
  rw [zct_congr (b := zml1 W P dead manner p2 1) _ (fun i _ => zml1_live c2.1 i)] at mb
  have ba := zct_b (fun i => decide (P i = p1) && zlv W P dead manner i) (zst W (zhor (setting 0) W n ov) n)
  have bb := zct_b (fun i => decide (P i = p2) && zlv W P dead manner i) (zst W (zhor (setting 0) W n ov) n)
  generalize hA : zct (fun i => decide (P i = p1) && zlv W P dead manner i) (zst W (zhor (setting 0) W n ov) n) = A at xa ma ba
  generalize hB : zct (fun i => decide (P i = p2) && zlv W P dead manner i) (zst W (zhor (setting 0) W n ov) n) = B at xb mb bb
  obtain ⟨a, rfl⟩ := Int.eq_ofNat_of_zero_le ba.1
  obtain ⟨b, rfl⟩ := Int.eq_ofNat_of_zero_le bb.1
  have hs1 := hv.1.2.2.1
  obtain ⟨w, hw⟩ := Int.eq_ofNat_of_zero_le hs1.1
  have eup : zi2l ((a : Nat) : Int) * zi2l ((b : Nat) : Int) * zi2l (2 * setting 1 + 1) = ((a * b * (2 * w + 1) : Nat) : Int) := by
    rw [zi2l_get ⟨by omega, by omega⟩, zi2l_get ⟨by omega, by omega⟩, zi2l_get ⟨by omega, by omega⟩, hw, Int.natCast_mul, Int.natCast_mul]
    rfl
  have hub : a * b * (2 * w + 1) < 1000000000 := by
    have h1 : a * b ≤ 240 * 240 := Nat.mul_le_mul (by omega) (by omega)
    have h2 : a * b * (2 * w + 1) ≤ 240 * 240 * 81 := Nat.mul_le_mul h1 (by omega)
    omega
  by_cases c6 : n = 0
  · have es : (if n = 0 then (0 : Int) else W (n - 1) + 1) = 0 := if_pos c6
    rw [es] at xs ms ms2
    refine ⟨-9223372036854775808, (zm_isLive t2, zm_endOf t2), zb (P3t r1 c1) (zno z10 (zb (P3t r2 c2) (zno z10 (zb (W3t r3 c3 (by omega) (by omega)) (zno z10 (zno nE (zno no3 (zb xa (zb xb (zok ⟨by omega, by omega⟩ (zlet (zb xs (zb (r := some _) ?_ rfl))))))))))))) , zb (P4t r1 c1) (zno z10 (zb (P4t r2 c2) (zno z10 (zb (W4t r3 c3 (by omega) (by omega)) (zno z10 (zno nE (zno no4 (zb ms (zyes z00 rfl)))))))))  , zself _⟩
    rw [hc.2.2.2.1]
    show fX3_inLeastTerms (zi2l ((a : Nat) : Int) * zi2l ((b : Nat) : Int) * zi2l (2 * setting 1 + 1)) (zi2l 0) p3 = _
    rw [eup]
    exact zleast_lost
  · have es : (if n = 0 then (0 : Int) else W (n - 1) + 1) = W (n - 1) + 1 := if_neg c6
    rw [es] at xs ms ms2
    have hwb := (hv.2.1.2.1 (n - 1) (by omega)).1
    obtain ⟨z, hz⟩ := Int.eq_ofNat_of_zero_le (show 0 ≤ W (n - 1) + 1 by omega)
    rw [hz] at xs ms ms2
    obtain ⟨r, q1, q2⟩ := zleast (x := a * b * (2 * w + 1)) (y := z) (w := p3) hub (by omega) (by omega) c3
    have ez : zi2l ((z : Nat) : Int) = (z : Int) := zi2l_get ⟨by omega, by omega⟩
    refine ⟨r, (L2, E2), zb (P3t r1 c1) (zno z10 (zb (P3t r2 c2) (zno z10 (zb (W3t r3 c3 (by omega) (by omega)) (zno z10 (zno nE (zno no3 (zb xa (zb xb (zok ⟨by omega, by omega⟩ (zlet (zb xs (zb (a := r) ?_ rfl))))))))))))), zb (P4t r1 c1) (zno z10 (zb (P4t r2 c2) (zno z10 (zb (W4t r3 c3 (by omega) (by omega)) (zno z10 (zno nE (zno no4 (zb ms (zno (zE_f (by omega) (by omega) (by omega) (by omega) (by omega)) (zb ma (zb mb (zlet (zok ⟨by omega, by omega⟩ (zb ms2 (zb (a := r) ?_ rfl)))))))))))))))  , zself _⟩
    · rw [hc.2.2.2.1]
      show fX3_inLeastTerms (zi2l ((a : Nat) : Int) * zi2l ((b : Nat) : Int) * zi2l (2 * setting 1 + 1)) (zi2l (z : Int)) p3 = _
      rw [eup, ez]; exact q1
    · show fX4_inLeastTerms (zi2l ((a : Nat) : Int) * zi2l ((b : Nat) : Int) * zi2l (2 * zm_setting t2 1 + 1)) (zi2l (z : Int)) p3 = _
      rw [hM.2.2.2.1, eup, ez]; exact q2
