/-! ===== PURE: the relation between class and reference; plane, tune, pulse, end, anew ===== -/
def zRl (t : zXT) (t2 : zMT) (lag dead manner setting W P S : Nat → Int) (n : Nat) (ov : Int) : Prop :=
  zVal lag dead manner setting W P S n ov ∧ zIX t lag dead manner setting W P S n ov (zhor (setting 0) W n ov) ∧ zCM t2 lag dead manner setting W P S n ov ∧ zx_tooLate t = zm_late t2 ∧ ∀ j, j < 4 → zm_leastOf t2 j = zS1 j ∧ zm_mostOf t2 j = zS2 j
def zRel (t : zXT) (t2 : zMT) : Prop := ∃ lag dead manner setting W P S n ov, zRl t t2 lag dead manner setting W P S n ov
def zFr (t : zXT) : Prop := zx_settled t = 0 ∧ (∀ j, j < 6 → zx_deadUntil t j = 0) ∧ (∃ lw lp ls, zx_liveRow t = zk_R lw lp ls 0) ∧ zx_known t = 0 ∧ zg_size (zx_groups t) = 0
theorem zIX_fr {t : zXT} {lag dead manner setting W P S : Nat → Int} {ov hz : Int} (h : zIX t lag dead manner setting W P S 0 ov hz) : zFr t := by
  obtain ⟨hc, hsd, hdu, lw, lp, ls, ml, hr, hml, hrl, hok, hkn, g, fA, hg, hcm⟩ := h
  have e0 : zst W hz 0 = 0 := rfl
  have em : ml = 0 := by omega
  subst em
  have e1 : zst lw (hz - zml lag 6) 0 = 0 := rfl
  have hgl := zXG_le hg g (Nat.le_refl _)
  have h3 := hg.2.2.1
  have eg : g = 0 := by omega
  subst eg
  exact ⟨hsd, hdu, ⟨lw, lp, ls, hr⟩, hkn, hg.1⟩
theorem zFr_ix {t : zXT} {lag dead manner setting W P S : Nat → Int} {ov hz : Int} (hc : zCX t lag dead manner setting W P S 0 ov) (h : zFr t) : zIX t lag dead manner setting W P S 0 ov hz := by
  obtain ⟨h1, h2, ⟨lw, lp, ls, hr⟩, h4, h5⟩ := h
  exact ⟨hc, h1, h2, lw, lp, ls, 0, hr, Nat.le_refl _, rfl, fun i hi => by omega, h4, 0, fun _ => 0, ⟨h5, rfl, Nat.le_refl _, fun q hq => by omega, fun q hq => by omega⟩, Or.inl rfl⟩
theorem X_begun {t : zXT} {lag dead manner setting W P S : Nat → Int} {n : Nat} {ov : Int} (h : zCX t lag dead manner setting W P S n ov) (hv : zVal lag dead manner setting W P S n ov) : fX3_hasBegun t = some (if n = 0 ∧ ov = 0 then 0 else 1) := by
  have hn := hv.2.1.1
  unfold fX3_hasBegun
  rw [h.2.2.2.2.1, h.2.2.2.2.2]
  by_cases c : n = 0
  · refine zno (zLt_f (show (n : Int) ≤ 0 by omega) (by show _ ≤ (n : Int); omega) (by omega)) ?_
    rcases hv.2.2 with rfl | rfl
    · have e : (if n = 0 ∧ (0 : Int) = 0 then (0 : Int) else 1) = 0 := if_pos ⟨c, rfl⟩
      rw [e]; exact zyes (zE_t rfl) rfl
    · have e : (if n = 0 ∧ (1 : Int) = 0 then (0 : Int) else 1) = 1 := if_neg (fun z => by have := z.2; omega)
      rw [e]; exact zno z10 rfl
  · have e : (if n = 0 ∧ ov = 0 then (0 : Int) else 1) = 1 := if_neg (fun z => c z.1)
    rw [e]
    exact zyes (zLt_t (show (0 : Int) < (n : Int) by omega) (by omega) (by show (n : Int) < _; omega)) rfl
theorem M_begun {t : zMT} {lag dead manner setting W P S : Nat → Int} {n : Nat} {ov : Int} (h : zCM t lag dead manner setting W P S n ov) (hv : zVal lag dead manner setting W P S n ov) : fX4_isBegun t = some (if n = 0 ∧ ov = 0 then 0 else 1) := by
  have hn := hv.2.1.1
  unfold fX4_isBegun
  rw [h.2.2.2.2.1, h.2.2.2.2.2.2.2.2]
  by_cases c : n = 0
  · refine zno (zLt_f (show (n : Int) ≤ 0 by omega) (by show _ ≤ (n : Int); omega) (by omega)) ?_
    rcases hv.2.2 with rfl | rfl
    · have e : (if n = 0 ∧ (0 : Int) = 0 then (0 : Int) else 1) = 0 := if_pos ⟨c, rfl⟩
      rw [e]; exact zyes (zE_t rfl) rfl
    · have e : (if n = 0 ∧ (1 : Int) = 0 then (0 : Int) else 1) = 1 := if_neg (fun z => by have := z.2; omega)
      rw [e]; exact zno z10 rfl
  · have e : (if n = 0 ∧ ov = 0 then (0 : Int) else 1) = 1 := if_neg (fun z => c z.1)
    rw [e]
    exact zyes (zLt_t (show (0 : Int) < (n : Int) by omega) (by omega) (by show (n : Int) < _; omega)) rfl
theorem L_plane {t : zXT} {t2 : zMT} (h : zRel t t2) {p1 p2 p3 p4 : Int} (r1 : zR p1) (r2 : zR p2) (r3 : zR p3) (r4 : zR p4) : ∃ a l d m l' d' m', fX3_plane t p1 p2 p3 p4 = some (a, l, d, m) ∧ fX4_plane t2 p1 p2 p3 p4 = some (a, l', d', m') ∧
    zRel (zk_X l d m (zx_setting t) (zx_keptRow t) (zx_liveRow t) (zx_shiftedRow t) (zx_groups t) (zx_search t) (zx_deadUntil t) (zx_settled t) (zx_known t) (zx_tooLate t) (zx_ended t)) (zk_M l' d' m' (zm_setting t2) (zm_leastOf t2) (zm_mostOf t2) (zm_kept t2) (zm_planeOf t2) (zm_momentOf t2) (zm_stripOf t2) (zm_late t2) (zm_isOver t2) (zm_isLive t2) (zm_endOf t2) (zm_known t2) (zm_timeOf t2) (zm_pulseOf t2) (zm_groupOf t2) (zm_groups t2) (zm_shut t2) (zm_firstOf t2) (zm_agrees t2) (zm_agreeSet t2) (zm_missed t2) (zm_bestA t2) (zm_bestB t2) (zm_bestAgrees t2) (zm_bestMissed t2)) := by
  unfold fX3_plane fX4_plane
  by_cases c1 : 0 ≤ p1 ∧ p1 ≤ 5
  case neg => exact ⟨-1, _, _, _, _, _, _, zb (P3f r1 c1) (zyes z00 rfl), zb (P4f r1 c1) (zyes z00 rfl), h⟩
  by_cases c2 : 0 ≤ p2 ∧ p2 ≤ 30
  case neg => exact ⟨-2, _, _, _, _, _, _, zb (P3t r1 c1) (zno z10 (zb (W3f r2 c2 (by omega) (by omega)) (zyes z00 rfl))), zb (P4t r1 c1) (zno z10 (zb (W4f r2 c2 (by omega) (by omega)) (zyes z00 rfl))), h⟩
  by_cases c3 : 0 ≤ p3 ∧ p3 ≤ 50
  case neg => exact ⟨-2, _, _, _, _, _, _, zb (P3t r1 c1) (zno z10 (zb (W3t r2 c2 (by omega) (by omega)) (zno z10 (zb (W3f r3 c3 (by omega) (by omega)) (zyes z00 rfl))))), zb (P4t r1 c1) (zno z10 (zb (W4t r2 c2 (by omega) (by omega)) (zno z10 (zb (W4f r3 c3 (by omega) (by omega)) (zyes z00 rfl))))), h⟩
  by_cases c4 : 0 ≤ p4 ∧ p4 ≤ 1
  case neg => exact ⟨-2, _, _, _, _, _, _, zb (P3t r1 c1) (zno z10 (zb (W3t r2 c2 (by omega) (by omega)) (zno z10 (zb (W3t r3 c3 (by omega) (by omega)) (zno z10 (zb (W3f r4 c4 (by omega) (by omega)) (zyes z00 rfl))))))), zb (P4t r1 c1) (zno z10 (zb (W4t r2 c2 (by omega) (by omega)) (zno z10 (zb (W4t r3 c3 (by omega) (by omega)) (zno z10 (zb (W4f r4 c4 (by omega) (by omega)) (zyes z00 rfl))))))), h⟩
  have h0 := h
  obtain ⟨lag, dead, manner, setting, W, P, S, n, ov, hv, hI, hM, hl, hlm⟩ := h0
  have b3 := X_begun hI.1 hv
  have b4 := M_begun hM hv
  by_cases c5 : n = 0 ∧ ov = 0
  · rw [if_pos c5] at b3 b4
    obtain ⟨rfl, rfl⟩ := c5
    have g : zIn p1 6 := ⟨by omega, by omega⟩
    refine ⟨1, zu lag p1 p2, zu dead p1 p3, zu manner p1 p4, zu lag p1 p2, zu dead p1 p3, zu manner p1 p4, ?_, ?_, ?_⟩
    · rw [hI.1.1, hI.1.2.1, hI.1.2.2.1]
      exact zb (P3t r1 c1) (zno z10 (zb (W3t r2 c2 (by omega) (by omega)) (zno z10 (zb (W3t r3 c3 (by omega) (by omega)) (zno z10 (zb (W3t r4 c4 (by omega) (by omega)) (zno z10 (zb b3 (zyes z00 (zok g (zok g (zok g rfl))))))))))))
    · rw [hM.1, hM.2.1, hM.2.2.1]
      exact zb (P4t r1 c1) (zno z10 (zb (W4t r2 c2 (by omega) (by omega)) (zno z10 (zb (W4t r3 c3 (by omega) (by omega)) (zno z10 (zb (W4t r4 c4 (by omega) (by omega)) (zno z10 (zb b4 (zyes z00 (zok g (zok g (zok g rfl))))))))))))
    · refine ⟨zu lag p1 p2, zu dead p1 p3, zu manner p1 p4, setting, W, P, S, 0, 0, ⟨⟨?_, hv.1.2⟩, hv.2⟩, zFr_ix ⟨rfl, rfl, rfl, hI.1.2.2.2⟩ (by have q := zIX_fr hI; exact q), ⟨rfl, rfl, rfl, hM.2.2.2⟩, hl, hlm⟩
      intro k hk
      have := hv.1.1 k hk
      unfold zu
      by_cases e : k = p1.toNat
      · rw [if_pos e, if_pos e, if_pos e]; omega
      · rw [if_neg e, if_neg e, if_neg e]; exact this
  · rw [if_neg c5] at b3 b4
    exact ⟨-3, _, _, _, _, _, _, zb (P3t r1 c1) (zno z10 (zb (W3t r2 c2 (by omega) (by omega)) (zno z10 (zb (W3t r3 c3 (by omega) (by omega)) (zno z10 (zb (W3t r4 c4 (by omega) (by omega)) (zno z10 (zb b3 (zno z10 rfl))))))))), zb (P4t r1 c1) (zno z10 (zb (W4t r2 c2 (by omega) (by omega)) (zno z10 (zb (W4t r3 c3 (by omega) (by omega)) (zno z10 (zb (W4t r4 c4 (by omega) (by omega)) (zno z10 (zb b4 (zno z10 rfl))))))))), h⟩
theorem L_tune {t : zXT} {t2 : zMT} (h : zRel t t2) {p1 p2 : Int} (r1 : zR p1) (r2 : zR p2) : ∃ a s s', fX3_tune t p1 p2 = some (a, s) ∧ fX4_tune t2 p1 p2 = some (a, s') ∧
    zRel (zk_X (zx_lag t) (zx_dead t) (zx_manner t) s (zx_keptRow t) (zx_liveRow t) (zx_shiftedRow t) (zx_groups t) (zx_search t) (zx_deadUntil t) (zx_settled t) (zx_known t) (zx_tooLate t) (zx_ended t)) (zk_M (zm_lag t2) (zm_dead t2) (zm_manner t2) s' (zm_leastOf t2) (zm_mostOf t2) (zm_kept t2) (zm_planeOf t2) (zm_momentOf t2) (zm_stripOf t2) (zm_late t2) (zm_isOver t2) (zm_isLive t2) (zm_endOf t2) (zm_known t2) (zm_timeOf t2) (zm_pulseOf t2) (zm_groupOf t2) (zm_groups t2) (zm_shut t2) (zm_firstOf t2) (zm_agrees t2) (zm_agreeSet t2) (zm_missed t2) (zm_bestA t2) (zm_bestB t2) (zm_bestAgrees t2) (zm_bestMissed t2)) := by
  unfold fX3_tune fX4_tune
  by_cases c1 : 0 ≤ p1 ∧ p1 ≤ 3
  case neg => exact ⟨-2, _, _, zb (W3f r1 c1 (by omega) (by omega)) (zyes z00 rfl), zb (W4f r1 c1 (by omega) (by omega)) (zyes z00 rfl), h⟩
  have g : zIn p1 4 := ⟨by omega, by omega⟩
  have h0 := h
  obtain ⟨lag, dead, manner, setting, W, P, S, n, ov, hv, hI, hM, hl, hlm⟩ := h0
  obtain ⟨j, hj⟩ := Int.eq_ofNat_of_zero_le c1.1
  have hj4 : j < 4 := by omega
  have ej : Int.toNat p1 = j := by rw [hj]; rfl
  have hS : (0 ≤ zS1 j ∧ zS1 j ≤ 2) ∧ (3 ≤ zS2 j ∧ zS2 j ≤ 100) := by
    match j, hj4 with
    | 0, _ => decide
    | 1, _ => decide
    | 2, _ => decide
    | 3, _ => decide
    | j + 4, hj4 => omega
  obtain ⟨hm1, hm2⟩ := hlm j hj4
  rw [ej, hm1, hm2]
  by_cases c2 : zS1 j ≤ p2 ∧ p2 ≤ zS2 j
  case neg => exact ⟨-2, _, _, zb (W3t r1 c1 (by omega) (by omega)) (zno z10 (zok g (zok g (zb (W3f r2 c2 (by omega) (by omega)) (zyes z00 rfl))))), zb (W4t r1 c1 (by omega) (by omega)) (zno z10 (zok g (zok g (zb (W4f r2 c2 (by omega) (by omega)) (zyes z00 rfl))))), h⟩
  have b3 := X_begun hI.1 hv
  have b4 := M_begun hM hv
  by_cases c5 : n = 0 ∧ ov = 0
  · rw [if_pos c5] at b3 b4
    obtain ⟨rfl, rfl⟩ := c5
    refine ⟨setting j, zu setting p1 p2, zu setting p1 p2, ?_, ?_, ?_⟩
    · rw [hI.1.2.2.2.1]
      exact zb (W3t r1 c1 (by omega) (by omega)) (zno z10 (zok g (zok g (zb (W3t r2 c2 (by omega) (by omega)) (zno z10 (zb b3 (zyes z00 (zok g (zlet (zok g rfl))))))))))
    · rw [hM.2.2.2.1]
      exact zb (W4t r1 c1 (by omega) (by omega)) (zno z10 (zok g (zok g (zb (W4t r2 c2 (by omega) (by omega)) (zno z10 (zb b4 (zyes z00 (zok g (zlet (zok g rfl))))))))))
    · refine ⟨lag, dead, manner, zu setting p1 p2, W, P, S, 0, 0, ⟨⟨hv.1.1, ?_⟩, hv.2⟩, zFr_ix ⟨hI.1.1, hI.1.2.1, hI.1.2.2.1, rfl, hI.1.2.2.2.2⟩ (by have q := zIX_fr hI; exact q), ⟨hM.1, hM.2.1, hM.2.2.1, rfl, hM.2.2.2.2⟩, hl, hlm⟩
      obtain ⟨d0, d1, d2, d3⟩ := hv.1.2
      unfold zu
      rw [ej]
      match j, hj4, c2 with
      | 0, _, c2 =>
        have c2 : 0 ≤ p2 ∧ p2 ≤ 100 := c2
        exact ⟨c2, d1, d2, d3⟩
      | 1, _, c2 =>
        have c2 : 0 ≤ p2 ∧ p2 ≤ 40 := c2
        exact ⟨d0, c2, d2, d3⟩
      | 2, _, c2 =>
        have c2 : 2 ≤ p2 ∧ p2 ≤ 6 := c2
        exact ⟨d0, d1, c2, d3⟩
      | 3, _, c2 =>
        have c2 : 0 ≤ p2 ∧ p2 ≤ 3 := c2
        exact ⟨d0, d1, d2, c2⟩
      | j + 4, hj4, _ => omega
  · rw [if_neg c5] at b3 b4
    exact ⟨-3, _, _, zb (W3t r1 c1 (by omega) (by omega)) (zno z10 (zok g (zok g (zb (W3t r2 c2 (by omega) (by omega)) (zno z10 (zb b3 (zno z10 rfl))))))), zb (W4t r1 c1 (by omega) (by omega)) (zno z10 (zok g (zok g (zb (W4t r2 c2 (by omega) (by omega)) (zno z10 (zb b4 (zno z10 rfl))))))), h⟩
