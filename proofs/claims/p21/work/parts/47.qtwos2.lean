/-! ===== PURE: twos, the reference, and both ===== -/
section QV
variable {t : zXT} {t2 : zMT} {lag dead manner setting W P S : Nat → Int} {n : Nat} {ov : Int} {lw lp ls : Nat → Int} {ml kn g : Nat} {fA : Nat → Nat} {L E T U G : Nat → Int} {gR : Nat} {Fa : Nat → Int}
theorem M_tw1 (hk : zLk t t2 lag dead manner setting W P S n ov lw lp ls ml kn g fA L E T U G gR Fa) (hv : zVal lag dead manner setting W P S n ov) (hM : zCM t2 lag dead manner setting W P S n ov) {a b d c0 : Int} (ha : 0 ≤ a ∧ a ≤ 5) (hb : 0 ≤ b ∧ b ≤ 5) (hd : -200 ≤ d ∧ d ≤ 200) {i : Nat} (hi : i < kn) : ∀ (k j zn : Nat), j + k = kn → k < zn → fX4_twos_L64 zn t2 a b d (i : Int) L E (kn : Int) T U G (gR : Int) (g : Int) Fa (c0 + if lp i = a then zct (ztw lw lp b (lw i + d)) j else 0) (j : Int) = some (c0 + if lp i = a then zct (ztw lw lp b (lw i + d)) kn else 0) := by
  have hbd := zk_b hk hv
  have hkl := zk_kle hk
  obtain ⟨u, u1, u2, u3, u4, u5, u6⟩ := zk_tu hk i hi
  have hoki := zk_ok hk i (by omega)
  intro k
  induction k with
  | zero =>
    intro j zn hik hz
    obtain ⟨zn, rfl⟩ : ∃ q, zn = q + 1 := ⟨zn - 1, by omega⟩
    rw [fX4_twos_L64_s]
    have : j = kn := by omega
    subst this
    exact zyes (zLe_t (by omega) (by omega) (by omega)) rfl
  | succ k ih =>
    intro j zn hik hz
    obtain ⟨zn, rfl⟩ : ∃ q, zn = q + 1 := ⟨zn - 1, by omega⟩
    rw [fX4_twos_L64_s, hM.2.2.2.2.2.1]
    have ih := ih (j + 1) zn (by omega) (by omega)
    obtain ⟨v, v1, v2, v3, v4, v5, v6⟩ := zk_tu hk j (by omega)
    have hokj := zk_ok hk j (by omega)
    have gi : zIn (i : Int) 240 := ⟨by omega, by omega⟩
    have gj : zIn (j : Int) 240 := ⟨by omega, by omega⟩
    have gu : zIn (U (Int.toNat (i : Int))) 241 := by rw [zcN, u2]; exact ⟨by omega, by omega⟩
    have gv : zIn (U (Int.toNat (j : Int))) 241 := by rw [zcN, v2]; exact ⟨by omega, by omega⟩
    have ep : P (Int.toNat (U (Int.toNat (i : Int)))) = lp i := by rw [zcN, u2, zcN, u5]
    have eq : P (Int.toNat (U (Int.toNat (j : Int)))) = lp j := by rw [zcN, v2, zcN, v5]
    refine zno (zLe_f (by omega) (by omega) (by omega)) (zok gi (zok gu ?_))
    rw [zc1, ep]
    by_cases c : lp i = a
    · rw [if_pos c, if_pos c] at ih ⊢
      rw [zct_s] at ih
      unfold ztw at ih
      by_cases c2 : lp j = b
      · refine zb (a := 1) (zyes (zE_t c) (zok gj (zok gv (by rw [eq]; exact zyes (zE_t c2) rfl)))) ?_
        rw [decide_eq_true c2, Bool.and_true] at ih
        by_cases c3 : lw j = lw i + d
        · rw [decide_eq_true c3, if_pos rfl] at ih
          refine zb (a := 1) (zno z10 (zok gj (zok gi (zyes (zE_t (by rw [zcN, zcN, ← v4, ← u4]; omega)) rfl)))) (zlet ?_)
          rw [Int.add_assoc]; exact ih
        · rw [decide_eq_false c3, if_neg (by decide)] at ih
          refine zb (a := 0) (zno z10 (zok gj (zok gi (zno (zE_f (by rw [zcN, zcN, ← v4, ← u4]; omega) (by rw [zcN, zcN, ← v4, ← u4]; omega) (by rw [zcN, zcN, ← v4, ← u4]; omega) (by omega) (by omega)) rfl)))) (zlet ?_)
          rw [Int.add_zero]; exact ih
      · refine zb (a := 0) (zyes (zE_t c) (zok gj (zok gv (by rw [eq]; exact zno (zE_f c2 (by omega) (by omega) (by omega) (by omega)) rfl)))) (zb (a := 0) (zyes z00 rfl) (zlet ?_))
        rw [decide_eq_false c2, Bool.and_false, if_neg (by decide)] at ih
        rw [Int.add_zero]; exact ih
    · rw [if_neg c, if_neg c] at ih ⊢
      refine zb (zno (zE_f c (by omega) (by omega) (by omega) (by omega)) rfl) (zb (zyes z00 rfl) (zlet ?_))
      rw [Int.add_zero]
      exact ih
theorem M_tw2 (hk : zLk t t2 lag dead manner setting W P S n ov lw lp ls ml kn g fA L E T U G gR Fa) (hv : zVal lag dead manner setting W P S n ov) (hM : zCM t2 lag dead manner setting W P S n ov) {a b d : Int} (ha : 0 ≤ a ∧ a ≤ 5) (hb : 0 ≤ b ∧ b ≤ 5) (hd : -200 ≤ d ∧ d ≤ 200) : ∀ (k i zn : Nat), i + k = kn → k < zn → fX4_twos_L52 zn t2 a b d L E (kn : Int) T U G (gR : Int) (g : Int) Fa (zsu (fun i => if lp i = a then zct (ztw lw lp b (lw i + d)) kn else 0) i) (i : Int) = some (zsu (fun i => if lp i = a then zct (ztw lw lp b (lw i + d)) kn else 0) kn) := by
  have hbd := zk_b hk hv
  intro k
  induction k with
  | zero =>
    intro i zn hik hz
    obtain ⟨zn, rfl⟩ : ∃ q, zn = q + 1 := ⟨zn - 1, by omega⟩
    rw [fX4_twos_L52_s]
    have : i = kn := by omega
    subst this
    exact zyes (zLe_t (by omega) (by omega) (by omega)) rfl
  | succ k ih =>
    intro i zn hik hz
    obtain ⟨zn, rfl⟩ : ∃ q, zn = q + 1 := ⟨zn - 1, by omega⟩
    rw [fX4_twos_L52_s]
    have ih := ih (i + 1) zn (by omega) (by omega)
    rw [zsu_s] at ih
    have h1 := M_tw1 (c0 := zsu (fun i => if lp i = a then zct (ztw lw lp b (lw i + d)) kn else 0) i) hk hv hM ha hb hd (i := i) (by omega) kn 0 zF (by omega) (by unfold zF; omega)
    have e0 : (if lp i = a then zct (ztw lw lp b (lw i + d)) 0 else 0) = 0 := by split <;> rfl
    rw [e0, Int.add_zero] at h1
    exact zno (zLe_f (by omega) (by omega) (by omega)) (zb h1 ih)
theorem L_twos (h : zRel t t2) {p1 p2 p3 : Int} (r1 : zR p1) (r2 : zR p2) (r3 : zR p3) : ∃ a r, fX3_twos t p1 p2 p3 = some a ∧ fX4_twos t2 p1 p2 p3 = some (a, r) := by
  obtain ⟨lag, dead, manner, setting, W, P, S, n, ov, hl⟩ := h
  obtain ⟨lw, lp, ls, ml, kn, g, fA, L, E, T, U, G, gR, Fa, hk⟩ := L_link hl
  have hv := hl.1
  have hM := hl.2.2.1
  have hbd := zk_b hk hv
  have hkl := zk_kle hk
  unfold fX3_twos fX4_twos
  by_cases c1 : 0 ≤ p1 ∧ p1 ≤ 5
  case neg => exact ⟨-1, ((zm_isLive t2), (zm_endOf t2), (zm_known t2), (zm_timeOf t2), (zm_pulseOf t2), (zm_groupOf t2), (zm_groups t2), (zm_shut t2), (zm_firstOf t2)), zb (P3f r1 c1) (zyes z00 rfl), zb (P4f r1 c1) (zyes z00 rfl)⟩
  by_cases c2 : 0 ≤ p2 ∧ p2 ≤ 5
  case neg => exact ⟨-1, ((zm_isLive t2), (zm_endOf t2), (zm_known t2), (zm_timeOf t2), (zm_pulseOf t2), (zm_groupOf t2), (zm_groups t2), (zm_shut t2), (zm_firstOf t2)), zb (P3t r1 c1) (zno z10 (zb (P3f r2 c2) (zyes z00 rfl))), zb (P4t r1 c1) (zno z10 (zb (P4f r2 c2) (zyes z00 rfl)))⟩
  by_cases c3 : -200 ≤ p3 ∧ p3 ≤ 200
  case neg => exact ⟨-2, ((zm_isLive t2), (zm_endOf t2), (zm_known t2), (zm_timeOf t2), (zm_pulseOf t2), (zm_groupOf t2), (zm_groups t2), (zm_shut t2), (zm_firstOf t2)), zb (P3t r1 c1) (zno z10 (zb (P3t r2 c2) (zno z10 (zb (W3f r3 c3 (by omega) (by omega)) (zyes z00 rfl))))), zb (P4t r1 c1) (zno z10 (zb (P4t r2 c2) (zno z10 (zb (W4f r3 c3 (by omega) (by omega)) (zyes z00 rfl)))))⟩
  by_cases c4 : p1 = p2
  · exact ⟨-3, ((zm_isLive t2), (zm_endOf t2), (zm_known t2), (zm_timeOf t2), (zm_pulseOf t2), (zm_groupOf t2), (zm_groups t2), (zm_shut t2), (zm_firstOf t2)), zb (P3t r1 c1) (zno z10 (zb (P3t r2 c2) (zno z10 (zb (W3t r3 c3 (by omega) (by omega)) (zno z10 (zyes (zE_t c4) rfl)))))), zb (P4t r1 c1) (zno z10 (zb (P4t r2 c2) (zno z10 (zb (W4t r3 c3 (by omega) (by omega)) (zno z10 (zyes (zE_t c4) rfl))))))⟩
  have nE : ¬ zE p1 p2 := zE_f c4 r1.1 r1.2 r2.1 r2.2
  have hsd : (zrl lw lp ls ml).Pairwise zle := by rw [zk_row hk]; exact zSR_sorted lag dead manner W P S 100000 (fun _ => 0) _
  have hmono := zrl_mono hsd
  have x := X_twos_loop (ls := ls) (a := p1) (b := p2) (d := p3) (show ml ≤ 240 by omega) (zk_kle hk) (fun i hi => ⟨(zk_ok hk i (by omega)).1, (zk_ok hk i (by omega)).2.1⟩) (fun i j h1 h2 => hmono i j h1 (by omega)) c1 c2 c3 kn 0 zF 0 (by omega) (by unfold zF; omega) (fun _ => Nat.zero_le _)
  have xx : fX2_countApart (zx_liveRow t) p1 p2 p3 (zx_known t) = some (zsu (fun i => if lp i = p1 then zct (ztw lw lp p2 (lw i + p3)) kn else 0) kn) := by
    rw [zk_live hk, zk_knw hk]
    unfold fX2_countApart
    exact zb x rfl
  have m := M_tw2 hk hv hM c1 c2 c3 kn 0 zF (by omega) (by unfold zF; omega)
  exact ⟨_, zSc L E kn T U G gR g Fa, zb (P3t r1 c1) (zno z10 (zb (P3t r2 c2) (zno z10 (zb (W3t r3 c3 (by omega) (by omega)) (zno z10 (zno nE (zb xx rfl))))))), zb (P4t r1 c1) (zno z10 (zb (P4t r2 c2) (zno z10 (zb (W4t r3 c3 (by omega) (by omega)) (zno z10 (zno nE (zb (zk_fnd hk) (zb m rfl))))))))⟩
end QV
