/-! ===== PURE: live, rate ===== -/
section QL
variable {t : zXT} {t2 : zMT} {lag dead manner setting W P S : Nat → Int} {n : Nat} {ov : Int} {lw lp ls : Nat → Int} {ml kn g : Nat} {fA : Nat → Nat} {L E T U G : Nat → Int} {gR : Nat} {Fa : Nat → Int}
theorem zst_over (hv : zVal lag dead manner setting W P S n ov) (e1 : ov = 1) : zst W (zhor (setting 0) W n ov) n = n := by
  have e : zhor (setting 0) W n ov = 20000 := if_pos e1
  rw [e]
  refine zst_uniq (Nat.le_refl _) (fun i hi => ?_) (fun i h1 h2 => by omega)
  have := (hv.2.1.2.1 i hi).1
  omega
/-- the live time of a plane, once the run has ended -/
def zlT (W P dead manner : Nat → Int) (n : Nat) (q : Int) : Int := (zltm W (zbs W P dead manner q) 0 (dead q.toNat) n).1 + zmx (zsp W n - (zltm W (zbs W P dead manner q) 0 (dead q.toNat) n).2)
theorem zlT_b (hv : zVal lag dead manner setting W P S n ov) {q : Int} (hq : 0 ≤ q ∧ q ≤ 5) : 0 ≤ zlT W P dead manner n q ∧ zlT W P dead manner n q ≤ 10049 := by
  have hcf := hv.1.1 q.toNat (by omega)
  have h1 := zltm_b (w := W) (b := zbs W P dead manner q) (lg := 0) (n := n) hcf.2.1 (fun i hi => by have := (hv.2.1.2.1 i hi).1; omega) n (Nat.le_refl _)
  have h2 := zltm_le hv.2.1 (b := zbs W P dead manner q) hcf.2.1.1 n (Nat.le_refl _)
  have h3 := zmx_b (zsp W n - (zltm W (zbs W P dead manner q) 0 (dead q.toNat) n).2)
  have h4 : 0 ≤ zsp W n ∧ zsp W n ≤ 10000 := by
    by_cases c : n = 0
    · unfold zsp
      rw [if_pos c]; omega
    · have := zsp_b hv (i := n - 1) (by omega)
      have := (hv.2.1.2.1 (n - 1) (by omega)).1
      omega
  unfold zlT
  omega
theorem X_liveTime (hk : zLk t t2 lag dead manner setting W P S n ov lw lp ls ml kn g fA L E T U G gR Fa) (hv : zVal lag dead manner setting W P S n ov) (hc : zCX t lag dead manner setting W P S n ov) (e1 : ov = 1) {q : Int} (hq : 0 ≤ q ∧ q ≤ 5) : fX3_liveTime t q = some (zlT W P dead manner n q) := by
  have hn := hv.2.1.1
  have hcf := hv.1.1 q.toNat (by omega)
  have hml := zk_mle hk
  have ho := zst_over hv e1
  have hrow := zk_row hk
  rw [ho] at hml hrow
  have gq : zIn q 6 := ⟨by omega, by omega⟩
  have hb := zltm_b (w := W) (b := zbs W P dead manner q) (lg := 0) (n := n) hcf.2.1 (fun i hi => by have := (hv.2.1.2.1 i hi).1; omega) n (Nat.le_refl _)
  have xs : fX3_span t = some (zsp W n) := X_span hc hv
  have h4 : 0 ≤ zsp W n ∧ zsp W n ≤ 10000 := by
    by_cases c : n = 0
    · unfold zsp
      rw [if_pos c]; omega
    · have := zsp_b hv (i := n - 1) (by omega)
      have := (hv.2.1.2.1 (n - 1) (by omega)).1
      omega
  unfold fX3_liveTime
  rw [hc.2.2.1]
  by_cases m0 : manner q.toNat = 0
  · have E : zltm lw (fun i => decide (lp i = q)) (lag q.toNat) (dead q.toNat) ml = zltm W (zbs W P dead manner q) 0 (dead q.toNat) n := by
      rw [zltm_row lw lp ls, hrow, zLR_time hv n (Nat.le_refl _)]
      refine zltm_congr n (fun i _ => ?_)
      unfold zbs
      rw [decide_eq_false (show ¬ manner q.toNat = 1 by omega), Bool.false_or]
    have xl : fX3_liveTime_L56b zF t q (lag q.toNat) 0 0 0 = some (zltm lw (fun i => decide (lp i = q)) (lag q.toNat) (dead q.toNat) ml) := X_time_live (zk_live hk) (by omega) (zk_ok hk) hc.2.1 hq hcf.1 hcf.2.1 ml 0 zF (by omega) (by unfold zF; omega)
    rw [E] at xl
    refine zok gq (zb (a := 1) (zyes (zE_t m0) rfl) (zno z10 (zb (a := lag q.toNat) (zno z10 (zok gq (by rw [hc.1]))) (zb xl (zb xs ?_)))))
    rw [zmax_0 (by omega) (by omega)]
    rfl
  · have m1 : manner q.toNat = 1 := by omega
    have E : zltm W (fun i => decide (P i = q)) 0 (dead q.toNat) n = zltm W (zbs W P dead manner q) 0 (dead q.toNat) n := by
      refine zltm_congr n (fun i _ => ?_)
      unfold zbs
      rw [decide_eq_true m1, Bool.true_or, Bool.and_true]
    have hok : zok3 W P S n := fun i hi => by
      have := hv.2.1.2.1 i hi
      exact ⟨by omega, this.2.1, this.2.2⟩
    have xl : fX3_liveTime_L56 zF t q 0 0 0 0 = some (zltm W (fun i => decide (P i = q)) 0 (dead q.toNat) n) := X_time_kept hc.2.2.2.2.1 (by omega) hok hc.2.1 hq (by omega) hcf.2.1 n 0 zF (by omega) (by unfold zF; omega)
    rw [E] at xl
    refine zok gq (zb (a := 0) (zno (zE_f m0 (by omega) (by omega) (by omega) (by omega)) rfl) (zyes z00 (zb (a := 0) (zyes z00 rfl) (zb xl (zb xs ?_)))))
    rw [zmax_0 (by omega) (by omega)]
    rfl
theorem M_liveTime {t : zMT} (h : zCM t lag dead manner setting W P S n ov) (hv : zVal lag dead manner setting W P S n ov) (e1 : ov = 1) {q : Int} (hq : 0 ≤ q ∧ q ≤ 5) : ∃ L E, fX4_liveTime t q = some (zlT W P dead manner n q, L, E) := by
  have hn := hv.2.1.1
  have hcf := hv.1.1 q.toNat (by omega)
  have ho := zst_over hv e1
  obtain ⟨L, E, m1, m2⟩ := M_findLive h hv
  rw [ho] at m2
  have h4 : 0 ≤ zsp W n := by
    by_cases c : n = 0
    · unfold zsp
      rw [if_pos c]; omega
    · have := zsp_b hv (i := n - 1) (by omega)
      have := (hv.2.1.2.1 (n - 1) (by omega)).1
      omega
  have e0 : zfr W (zbs W P dead manner q) (dead q.toNat) (zsp W n) 0 = zsp W n := by
    show zsp W n + 0 - zmn 0 (zsp W n) = zsp W n
    unfold zmn
    rw [if_pos h4]; omega
  have en : zfr W (zbs W P dead manner q) (dead q.toNat) (zsp W n) n = zlT W P dead manner n q := by
    unfold zfr zlT zmn zmx
    split <;> split <;> omega
  have ml := M_time_loop (t := t) h hv hq (L := L) (E := E) m2 n 0 zF (by omega) (by unfold zF; omega)
  rw [e0, en] at ml
  refine ⟨L, E, ?_⟩
  unfold fX4_liveTime
  refine zb m1 (zb (a := zsp W n) ?_ (zb ml rfl))
  exact M_span (show zCM _ lag dead manner setting W P S n ov from h) hv
theorem L_live (t : zXT) (t2 : zMT) (p1 : Int) (h : zRel t t2) (r1 : zR p1) : ∃ a r, fX3_live t p1 = some a ∧ fX4_live t2 p1 = some (a, r) := by
  obtain ⟨lag, dead, manner, setting, W, P, S, n, ov, hl⟩ := h
  obtain ⟨lw, lp, ls, ml, kn, g, fA, L, E, T, U, G, gR, Fa, hk⟩ := L_link hl
  have hv := hl.1
  have hM := hl.2.2.1
  have hc := hl.2.1.1
  unfold fX3_live fX4_live
  by_cases c1 : 0 ≤ p1 ∧ p1 ≤ 5
  case neg => exact ⟨-1, (zm_isLive t2, zm_endOf t2), zb (P3f r1 c1) (zyes z00 rfl), zb (P4f r1 c1) (zyes z00 rfl)⟩
  have eo := hc.2.2.2.2.2
  have eo2 := hM.2.2.2.2.2.2.2.2
  by_cases c5 : ov = 0
  · subst c5
    exact ⟨-3, (zm_isLive t2, zm_endOf t2), zb (P3t r1 c1) (zno z10 (zyes (by rw [eo]) rfl)), zb (P4t r1 c1) (zno z10 (zyes (by rw [eo2]) rfl))⟩
  have e1 : ov = 1 := by rcases hv.2.2 with q | q; exact absurd q c5; exact q
  have no3 : ¬ zE (zx_ended t) 0 := by rw [eo, e1]; exact z10
  have no4 : ¬ zE (zm_isOver t2) 0 := by rw [eo2, e1]; exact z10
  have x := X_liveTime hk hv hc e1 c1
  obtain ⟨L', E', m⟩ := M_liveTime hM hv e1 c1
  exact ⟨_, (L', E'), zb (P3t r1 c1) (zno z10 (zno no3 (zb x rfl))), zb (P4t r1 c1) (zno z10 (zno no4 (zb m rfl)))⟩
theorem L_rate (t : zXT) (t2 : zMT) (p1 p2 : Int) (h : zRel t t2) (r1 : zR p1) (r2 : zR p2) : ∃ a r, fX3_rate t p1 p2 = some a ∧ fX4_rate t2 p1 p2 = some (a, r) ∧ zE (zlcmp a a) 0 := by
  obtain ⟨lag, dead, manner, setting, W, P, S, n, ov, hl⟩ := h
  obtain ⟨lw, lp, ls, ml, kn, g, fA, L, E, T, U, G, gR, Fa, hk⟩ := L_link hl
  have hv := hl.1
  have hM := hl.2.2.1
  have hc := hl.2.1.1
  by_cases c1 : 0 ≤ p1 ∧ p1 ≤ 5
  case neg =>
    unfold fX3_rate fX4_rate
    exact ⟨-9223372036854775808, (zm_isLive t2, zm_endOf t2), zb (P3f r1 c1) (zyes z00 rfl), zb (P4f r1 c1) (zyes z00 rfl), zself _⟩
  by_cases c2 : 0 ≤ p2 ∧ p2 ≤ 1
  case neg =>
    unfold fX3_rate fX4_rate
    exact ⟨-9223372036854775808, (zm_isLive t2, zm_endOf t2), zb (P3t r1 c1) (zno z10 (zb (W3f r2 c2 (by omega) (by omega)) (zyes z00 rfl))), zb (P4t r1 c1) (zno z10 (zb (W4f r2 c2 (by omega) (by omega)) (zyes z00 rfl))), zself _⟩
  have eo := hc.2.2.2.2.2
  have eo2 := hM.2.2.2.2.2.2.2.2
  by_cases c5 : ov = 0
  · subst c5
    unfold fX3_rate fX4_rate
    exact ⟨-9223372036854775808, (zm_isLive t2, zm_endOf t2), zb (P3t r1 c1) (zno z10 (zb (W3t r2 c2 (by omega) (by omega)) (zno z10 (zyes (by rw [eo]) rfl)))), zb (P4t r1 c1) (zno z10 (zb (W4t r2 c2 (by omega) (by omega)) (zno z10 (zyes (by rw [eo2]) rfl)))), zself _⟩
  have e1 : ov = 1 := by rcases hv.2.2 with q | q; exact absurd q c5; exact q
  have x := X_liveTime hk hv hc e1 c1
  have hb := zlT_b hv c1
  have mm : ∀ t', zCM t' lag dead manner setting W P S n ov → ∃ L E, fX4_liveTime t' p1 = some (zlT W P dead manner n p1, L, E) := fun t' ht' => M_liveTime ht' hv e1 c1
  generalize zlT W P dead manner n p1 = v at x hb mm
  obtain ⟨v, rfl⟩ := Int.eq_ofNat_of_zero_le hb.1
  exact rate_of hl c1 c2 r1 r2 e1 (v := v) (by omega) x mm
end QL
