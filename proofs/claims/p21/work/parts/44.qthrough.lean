/-! ===== PURE: through; how many tracks; how many in groups ===== -/
def zth (γ : zGrT) (k strip : Int) (q : Nat) : Bool := !(decide (zg_trackSet γ q = 0)) && decide (zg_trackStart γ q + zg_trackSlope γ q * k = strip)
theorem zmulz {b k : Int} (hb : -3 ≤ b ∧ b ≤ 3) (hk : 0 ≤ k ∧ k ≤ 5) : -15 ≤ b * k ∧ b * k ≤ 15 := by
  obtain ⟨j, rfl⟩ := Int.eq_ofNat_of_zero_le hk.1
  exact zmulb hb (by omega)
section QH
variable {t : zXT} {t2 : zMT} {lag dead manner setting W P S : Nat → Int} {n : Nat} {ov : Int} {lw lp ls : Nat → Int} {ml kn g : Nat} {fA : Nat → Nat} {L E T U G : Nat → Int} {gR : Nat} {Fa : Nat → Int}
theorem zplace (hk : zLk t t2 lag dead manner setting W P S n ov lw lp ls ml kn g fA L E T U G gR Fa) {q : Nat} (hq : q < g) {k : Int} (hkk : 0 ≤ k ∧ k ≤ 5) : zg_trackSet (zx_groups t) q = 0 ∨ (-100 ≤ zg_trackStart (zx_groups t) q + zg_trackSlope (zx_groups t) q * k ∧ zg_trackStart (zx_groups t) q + zg_trackSlope (zx_groups t) q * k ≤ 100) := by
  rcases ((zk_grp hk).2.2.2.2 q hq).2.2.2 with ⟨h1, _⟩ | ⟨p', _, _, a1, a2, _, _⟩
  · exact Or.inl h1
  · right
    rw [a1, a2]
    have h1 := zqA_b p'
    have h2 := zmulz (b := zqB p') (zS0_b _) hkk
    omega
theorem X_through_loop (hk : zLk t t2 lag dead manner setting W P S n ov lw lp ls ml kn g fA L E T U G gR Fa) (hv : zVal lag dead manner setting W P S n ov) {k strip : Int} (hkk : 0 ≤ k ∧ k ≤ 5) (hst : 0 ≤ strip ∧ strip ≤ 15) : ∀ (m i zn : Nat), i + m = g → m < zn → fX3_through_L24 zn t k strip (zct (zth (zx_groups t) k strip) i) (i : Int) = some (zct (zth (zx_groups t) k strip) g) := by
  have hb := zk_b hk hv
  intro m
  induction m with
  | zero =>
    intro i zn hik hz
    obtain ⟨zn, rfl⟩ : ∃ q, zn = q + 1 := ⟨zn - 1, by omega⟩
    rw [fX3_through_L24_s, (zk_grp hk).1]
    have : i = g := by omega
    subst this
    exact zyes (zLe_t (by omega) (by omega) (by omega)) rfl
  | succ m ih =>
    intro i zn hik hz
    obtain ⟨zn, rfl⟩ : ∃ q, zn = q + 1 := ⟨zn - 1, by omega⟩
    rw [fX3_through_L24_s, (zk_grp hk).1]
    have xh := X_hasTrack hk hv (q := i) (by omega)
    have hpl := zplace hk (q := i) (by omega) hkk
    have gi : zIn (i : Int) 240 := ⟨by omega, by omega⟩
    refine zno (zLe_f (by omega) (by omega) (by omega)) (zok gi (zok gi (zlet (zb xh ?_))))
    rw [zcN, zc1]
    refine zb (a := zct (zth (zx_groups t) k strip) (i + 1)) ?_ (ih (i + 1) zn (by omega) (by omega))
    rw [zct_s]
    unfold zth
    by_cases c : zg_trackSet (zx_groups t) i = 0
    · rw [if_pos c, decide_eq_true c]; exact zyes z00 rfl
    · have hp2 := hpl.resolve_left c
      rw [if_neg c, decide_eq_false c]
      refine zno z10 ?_
      by_cases c2 : zg_trackStart (zx_groups t) i + zg_trackSlope (zx_groups t) i * k = strip
      · rw [decide_eq_true c2]; exact zyes (zE_t c2) rfl
      · rw [decide_eq_false c2]; exact zno (zE_f c2 (by omega) (by omega) (by omega) (by omega)) rfl
theorem M_through_loop (hk : zLk t t2 lag dead manner setting W P S n ov lw lp ls ml kn g fA L E T U G gR Fa) (hv : zVal lag dead manner setting W P S n ov) (hM : zCM t2 lag dead manner setting W P S n ov) {k strip : Int} (hkk : 0 ≤ k ∧ k ≤ 5) (hst : 0 ≤ strip ∧ strip ≤ 15) : ∀ (m i zn : Nat) (y1 y2 y3 y4 y5 y6 y7 : Int), i + m = g → m < zn → ∃ x1 x2 x3 x4 x5 x6 x7, fX4_through_L33 zn t2 k strip L E (kn : Int) T U G (gR : Int) (g : Int) Fa (zct (zth (zx_groups t) k strip) i) (i : Int) y1 y2 y3 y4 y5 y6 y7 = some (zct (zth (zx_groups t) k strip) g, x1, x2, x3, x4, x5, x6, x7) := by
  have hb := zk_b hk hv
  intro m
  induction m with
  | zero =>
    intro i zn y1 y2 y3 y4 y5 y6 y7 hik hz
    obtain ⟨zn, rfl⟩ : ∃ q, zn = q + 1 := ⟨zn - 1, by omega⟩
    rw [fX4_through_L33_s]
    have : i = g := by omega
    subst this
    exact ⟨y1, y2, y3, y4, y5, y6, y7, zyes (zLe_t (by omega) (by omega) (by omega)) rfl⟩
  | succ m ih =>
    intro i zn y1 y2 y3 y4 y5 y6 y7 hik hz
    obtain ⟨zn, rfl⟩ : ∃ q, zn = q + 1 := ⟨zn - 1, by omega⟩
    rw [fX4_through_L33_s]
    have hpl := zplace hk (q := i) (by omega) hkk
    obtain ⟨r, v1, v2, v3, bA, bB, bAg, bMi, f1, f2⟩ := zTk hk hv hM (q := i) (by omega) y1 y2 y3 y4 y5 y6 y7
    obtain ⟨x1, x2, x3, x4, x5, x6, x7, g1⟩ := ih (i + 1) zn v1 v2 v3 bA bB bAg bMi (by omega) (by omega)
    refine ⟨x1, x2, x3, x4, x5, x6, x7, zno (zLe_f (by omega) (by omega) (by omega)) (zb f1 (zb (a := if zth (zx_groups t) k strip i = true then 1 else 0) ?_ (zlet ?_)))⟩
    · unfold zth
      rcases f2 with ⟨e, h0⟩ | ⟨e, h0, p, hp, eA, eB, a1, a2, a3, a4⟩
      · subst e
        rw [decide_eq_true h0]; exact zyes z00 rfl
      · subst e
        have hp2 := hpl.resolve_left h0
        rw [a1, a2] at hp2 ⊢
        subst eA eB
        rw [decide_eq_false h0]
        refine zno z10 ?_
        by_cases c2 : zqA p + zqB p * k = strip
        · rw [decide_eq_true c2]; exact zyes (zE_t c2) rfl
        · rw [decide_eq_false c2]; exact zno (zE_f c2 (by show _ ≤ zqA p + zqB p * k; omega) (by show zqA p + zqB p * k < _; omega) (by omega) (by omega)) rfl
    · rw [zct_add (zth (zx_groups t) k strip) i]
      exact g1
theorem L_through (h : zRel t t2) {p1 p2 : Int} (r1 : zR p1) (r2 : zR p2) : ∃ a r, fX3_through t p1 p2 = some a ∧ fX4_through t2 p1 p2 = some (a, r) := by
  obtain ⟨lag, dead, manner, setting, W, P, S, n, ov, hl⟩ := h
  obtain ⟨lw, lp, ls, ml, kn, g, fA, L, E, T, U, G, gR, Fa, hk⟩ := L_link hl
  have hv := hl.1
  have hM := hl.2.2.1
  unfold fX3_through fX4_through
  by_cases c1 : 0 ≤ p1 ∧ p1 ≤ 5
  case neg => exact ⟨-1, ((zm_isLive t2), (zm_endOf t2), (zm_known t2), (zm_timeOf t2), (zm_pulseOf t2), (zm_groupOf t2), (zm_groups t2), (zm_shut t2), (zm_firstOf t2), (zm_agrees t2), (zm_agreeSet t2), (zm_missed t2), (zm_bestA t2), (zm_bestB t2), (zm_bestAgrees t2), (zm_bestMissed t2)), zb (P3f r1 c1) (zyes z00 rfl), zb (P4f r1 c1) (zyes z00 rfl)⟩
  by_cases c2 : 0 ≤ p2 ∧ p2 ≤ 15
  case neg => exact ⟨-2, ((zm_isLive t2), (zm_endOf t2), (zm_known t2), (zm_timeOf t2), (zm_pulseOf t2), (zm_groupOf t2), (zm_groups t2), (zm_shut t2), (zm_firstOf t2), (zm_agrees t2), (zm_agreeSet t2), (zm_missed t2), (zm_bestA t2), (zm_bestB t2), (zm_bestAgrees t2), (zm_bestMissed t2)), zb (P3t r1 c1) (zno z10 (zb (S3f r2 c2) (zyes z00 rfl))), zb (P4t r1 c1) (zno z10 (zb (W4f r2 c2 (by omega) (by omega)) (zyes z00 rfl)))⟩
  have hb := zk_b hk hv
  have x := X_through_loop hk hv c1 c2 g 0 zF (by omega) (by unfold zF; omega)
  obtain ⟨x1, x2, x3, x4, x5, x6, x7, m⟩ := M_through_loop hk hv hM c1 c2 g 0 zF (zm_agrees t2) (zm_agreeSet t2) (zm_missed t2) (zm_bestA t2) (zm_bestB t2) (zm_bestAgrees t2) (zm_bestMissed t2) (by omega) (by unfold zF; omega)
  exact ⟨_, zSd L E kn T U G gR g Fa x1 x2 x3 x4 x5 x6 x7, zb (P3t r1 c1) (zno z10 (zb (S3t r2 c2) (zno z10 (zb x rfl)))), zb (P4t r1 c1) (zno z10 (zb (W4t r2 c2 (by omega) (by omega)) (zno z10 (zb (zk_fnd hk) (zb m rfl)))))⟩
theorem X_tracks_loop (hk : zLk t t2 lag dead manner setting W P S n ov lw lp ls ml kn g fA L E T U G gR Fa) (hv : zVal lag dead manner setting W P S n ov) : ∀ (m i zn : Nat), i + m = g → m < zn → fX0_tracks_L4 zn (zx_groups t) (zct (fun q => !(decide (zg_trackSet (zx_groups t) q = 0))) i) (i : Int) = some (zct (fun q => !(decide (zg_trackSet (zx_groups t) q = 0))) g) := by
  have hb := zk_b hk hv
  intro m
  induction m with
  | zero =>
    intro i zn hik hz
    obtain ⟨zn, rfl⟩ : ∃ q, zn = q + 1 := ⟨zn - 1, by omega⟩
    rw [fX0_tracks_L4_s, (zk_grp hk).1]
    have : i = g := by omega
    subst this
    exact zyes (zLe_t (by omega) (by omega) (by omega)) rfl
  | succ m ih =>
    intro i zn hik hz
    obtain ⟨zn, rfl⟩ : ∃ q, zn = q + 1 := ⟨zn - 1, by omega⟩
    rw [fX0_tracks_L4_s, (zk_grp hk).1]
    have xh := X_hasTrack hk hv (q := i) (by omega)
    refine zno (zLe_f (by omega) (by omega) (by omega)) (zb xh ?_)
    rw [zc1]
    refine zb (a := zct (fun q => !(decide (zg_trackSet (zx_groups t) q = 0))) (i + 1)) ?_ (ih (i + 1) zn (by omega) (by omega))
    rw [zct_s]
    by_cases c : zg_trackSet (zx_groups t) i = 0
    · rw [if_pos c, decide_eq_true c]; exact zyes z00 rfl
    · rw [if_neg c, decide_eq_false c]; exact zno z10 rfl
theorem M_tracks_loop (hk : zLk t t2 lag dead manner setting W P S n ov lw lp ls ml kn g fA L E T U G gR Fa) (hv : zVal lag dead manner setting W P S n ov) (hM : zCM t2 lag dead manner setting W P S n ov) {z1 z2 z3 z4 z5 z6 z7 : Int} : ∀ (m i zn : Nat) (y1 y2 y3 y4 y5 y6 y7 : Int), i + m = g → m < zn → ∃ x1 x2 x3 x4 x5 x6 x7, fX4_tracks_L4 zn (zFt t2 L E kn T U G gR g Fa z1 z2 z3 z4 z5 z6 z7) (zct (fun q => !(decide (zg_trackSet (zx_groups t) q = 0))) i) (i : Int) y1 y2 y3 y4 y5 y6 y7 = some (zct (fun q => !(decide (zg_trackSet (zx_groups t) q = 0))) g, x1, x2, x3, x4, x5, x6, x7) := by
  have hb := zk_b hk hv
  intro m
  induction m with
  | zero =>
    intro i zn y1 y2 y3 y4 y5 y6 y7 hik hz
    obtain ⟨zn, rfl⟩ : ∃ q, zn = q + 1 := ⟨zn - 1, by omega⟩
    rw [fX4_tracks_L4_s]
    have : i = g := by omega
    subst this
    exact ⟨y1, y2, y3, y4, y5, y6, y7, zyes (zLe_t (show (i : Int) ≤ (i : Int) by omega) (by show _ ≤ (i : Int); omega) (by omega)) rfl⟩
  | succ m ih =>
    intro i zn y1 y2 y3 y4 y5 y6 y7 hik hz
    obtain ⟨zn, rfl⟩ : ∃ q, zn = q + 1 := ⟨zn - 1, by omega⟩
    rw [fX4_tracks_L4_s]
    obtain ⟨r, v1, v2, v3, bA, bB, bAg, bMi, f1, f2⟩ := zTk hk hv hM (q := i) (by omega) y1 y2 y3 y4 y5 y6 y7
    obtain ⟨x1, x2, x3, x4, x5, x6, x7, g1⟩ := ih (i + 1) zn v1 v2 v3 bA bB bAg bMi (by omega) (by omega)
    refine ⟨x1, x2, x3, x4, x5, x6, x7, zno (zLe_f (show (i : Int) < (g : Int) by omega) (by omega) (by show (g : Int) < _; omega)) (zb f1 (zb (a := if (!(decide (zg_trackSet (zx_groups t) i = 0))) = true then 1 else 0) ?_ (zlet ?_)))⟩
    · rcases f2 with ⟨e, h0⟩ | ⟨e, h0, _⟩
      · subst e
        rw [decide_eq_true h0]; exact zyes z00 rfl
      · subst e
        rw [decide_eq_false h0]; exact zno z10 rfl
    · rw [zct_add (fun q => !(decide (zg_trackSet (zx_groups t) q = 0))) i]
      exact g1
end QH
