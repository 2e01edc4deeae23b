/-! ===== PURE: many ===== -/
theorem zct_pre (m : Nat) : ∀ n, m ≤ n → zct (fun y => decide (y < m)) n = (m : Int) := by
  intro n
  induction n with
  | zero => intro h; have : m = 0 := by omega
            subst this; rfl
  | succ n ih =>
    intro h
    rw [zct_s]
    by_cases c : m = n + 1
    · subst c
      rw [if_pos (decide_eq_true (by omega))]
      have : ∀ k, k ≤ n → zct (fun y => decide (y < n + 1)) k = (k : Int) := by
        intro k
        induction k with
        | zero => intro _; rfl
        | succ k ih2 => intro hk; rw [zct_s, if_pos (decide_eq_true (by omega)), ih2 (by omega)]; omega
      rw [this n (Nat.le_refl _)]; omega
    · rw [if_neg (fun z => by have := of_decide_eq_true z; omega)]
      exact ih (by omega)
section QY
variable {t : zXT} {t2 : zMT} {lag dead manner setting W P S : Nat → Int} {n : Nat} {ov : Int} {lw lp ls : Nat → Int} {ml kn g : Nat} {fA : Nat → Nat} {L E T U G : Nat → Int} {gR : Nat} {Fa : Nat → Int}
theorem zfA_cover (hk : zLk t t2 lag dead manner setting W P S n ov lw lp ls ml kn g fA L E T U G gR Fa) {y : Nat} : ∀ j, j ≤ g → y < fA j → ∃ q, q < j ∧ fA q ≤ y ∧ y < fA (q + 1) := by
  intro j
  induction j with
  | zero => intro _ h; rw [(zk_grp hk).2.1] at h; omega
  | succ j ih =>
    intro hj h
    by_cases c : y < fA j
    · obtain ⟨q, q1, q2, q3⟩ := ih (by omega) c
      exact ⟨q, by omega, q2, q3⟩
    · exact ⟨j, by omega, by omega, h⟩
theorem zG_lt (hk : zLk t t2 lag dead manner setting W P S n ov lw lp ls ml kn g fA L E T U G gR Fa) {y : Nat} (hy : y < kn) : G y < (g : Int) ↔ y < fA g := by
  constructor
  · intro h
    obtain ⟨q, hq⟩ := Int.eq_ofNat_of_zero_le (zk_gall hk y hy).1
    have hqg : q < g := by omega
    have h1 := ((zk_gr hk q hqg).2.2 y hy).mp hq
    have h2 := zXG_mono (zk_grp hk) (g - (q + 1)) (q + 1) (by omega)
    rw [show q + 1 + (g - (q + 1)) = g by omega] at h2
    omega
  · intro h
    obtain ⟨q, q1, q2, q3⟩ := zfA_cover hk g (Nat.le_refl _) h
    have := ((zk_gr hk q q1).2.2 y hy).mpr ⟨q2, q3⟩
    omega
theorem M_inG_loop (hk : zLk t t2 lag dead manner setting W P S n ov lw lp ls ml kn g fA L E T U G gR Fa) (hv : zVal lag dead manner setting W P S n ov) {z1 z2 z3 z4 z5 z6 z7 : Int} : ∀ (m i zn : Nat), i + m = kn → m < zn → fX4_inGroups_L4 zn (zFt t2 L E kn T U G gR g Fa z1 z2 z3 z4 z5 z6 z7) (zct (fun y => decide (y < fA g)) i) (i : Int) = some (zct (fun y => decide (y < fA g)) kn) := by
  have hb := zk_b hk hv
  intro m
  induction m with
  | zero =>
    intro i zn hik hz
    obtain ⟨zn, rfl⟩ : ∃ q, zn = q + 1 := ⟨zn - 1, by omega⟩
    rw [fX4_inGroups_L4_s]
    have : i = kn := by omega
    subst this
    exact zyes (zLe_t (show (i : Int) ≤ (i : Int) by omega) (by show _ ≤ (i : Int); omega) (by omega)) rfl
  | succ m ih =>
    intro i zn hik hz
    obtain ⟨zn, rfl⟩ : ∃ q, zn = q + 1 := ⟨zn - 1, by omega⟩
    rw [fX4_inGroups_L4_s]
    have hlt := zG_lt hk (y := i) (by omega)
    have hgb := zk_gb hk hv i (by omega)
    refine zno (zLe_f (show (i : Int) < (kn : Int) by omega) (by omega) (by show (kn : Int) < _; omega)) (zok ⟨by omega, by omega⟩ ?_)
    refine zb (a := if decide (i < fA g) = true then 1 else 0) ?_ (zlet ?_)
    · show (if zLe (g : Int) (G (Int.toNat (i : Int))) then some (0 : Int) else some 1) = _
      rw [zcN]
      by_cases c : i < fA g
      · rw [decide_eq_true c]; exact zno (zLe_f (hlt.mpr c) (by omega) (by omega)) rfl
      · rw [decide_eq_false c]
        have : ¬ (G i < (g : Int)) := fun z => c (hlt.mp z)
        exact zyes (zLe_t (by omega) (by omega) (by omega)) rfl
    · rw [zct_add (fun y => decide (y < fA g)) i]
      exact ih (i + 1) zn (by omega) (by omega)
theorem L_many (h : zRel t t2) {p1 : Int} (r1 : zR p1) : ∃ a r, fX3_many t p1 = some a ∧ fX4_many t2 p1 = some (a, r) := by
  obtain ⟨lag, dead, manner, setting, W, P, S, n, ov, hl⟩ := h
  obtain ⟨lw, lp, ls, ml, kn, g, fA, L, E, T, U, G, gR, Fa, hk⟩ := L_link hl
  have hv := hl.1
  have hM := hl.2.2.1
  have hc := hl.2.1.1
  have hb := zk_b hk hv
  have hx := zst_le W (zhor (setting 0) W n ov) n
  have hlate := hl.2.2.2.1
  have hM' : zCM (zFt t2 L E kn T U G gR g Fa (zm_agrees t2) (zm_agreeSet t2) (zm_missed t2) (zm_bestA t2) (zm_bestB t2) (zm_bestAgrees t2) (zm_bestMissed t2)) lag dead manner setting W P S n ov := hM
  have hlc := zlive_count hv hx (zk_row hk) (fun _ => true)
  have hall : zct (fun i => true) ml = (ml : Int) := by
    have := zct_pre ml ml (Nat.le_refl _)
    rw [← this]
    exact zct_congr _ (fun i hi => (decide_eq_true hi).symm)
  have hlv : zct (fun i => zlv W P dead manner i) (zst W (zhor (setting 0) W n ov) n) = (ml : Int) := by
    rw [← hall]
    exact (hlc.trans (zct_congr _ (fun i _ => Bool.true_and _))).symm
  have hxx : zct (fun i => true) (zst W (zhor (setting 0) W n ov) n) = ((zst W (zhor (setting 0) W n ov) n : Nat) : Int) := by
    have := zct_pre (zst W (zhor (setting 0) W n ov) n) _ (Nat.le_refl _)
    rw [← this]
    exact zct_congr _ (fun i hi => (decide_eq_true hi).symm)
  have S0 := zSd L E kn T U G gR g Fa (zm_agrees t2) (zm_agreeSet t2) (zm_missed t2) (zm_bestA t2) (zm_bestB t2) (zm_bestAgrees t2) (zm_bestMissed t2)
  unfold fX3_many fX4_many
  rw [hc.2.2.2.2.1, zk_set hk, zk_live hk, zk_knw hk, (zk_grp hk).1]
  have F := zk_fnd hk
  have Sx : ∀ a : Int, (a, zSd L E kn T U G gR g Fa (zm_agrees t2) (zm_agreeSet t2) (zm_missed t2) (zm_bestA t2) (zm_bestB t2) (zm_bestAgrees t2) (zm_bestMissed t2)) = (a, zSd L E kn T U G gR g Fa (zm_agrees t2) (zm_agreeSet t2) (zm_missed t2) (zm_bestA t2) (zm_bestB t2) (zm_bestAgrees t2) (zm_bestMissed t2)) := fun _ => rfl
  by_cases d0 : p1 = 0
  · subst d0
    exact ⟨(n : Int) + zm_late t2, zSd L E kn T U G gR g Fa (zm_agrees t2) (zm_agreeSet t2) (zm_missed t2) (zm_bestA t2) (zm_bestB t2) (zm_bestAgrees t2) (zm_bestMissed t2), zyes z00 (by rw [hlate]; rfl), zb F (zyes z00 (by rw [hM.2.2.2.2.1]; rfl))⟩
  have n0 : ¬ zE p1 0 := zE_f d0 r1.1 r1.2 (by omega) (by omega)
  by_cases d1 : p1 = 1
  · subst d1
    exact ⟨zm_late t2, zSd L E kn T U G gR g Fa (zm_agrees t2) (zm_agreeSet t2) (zm_missed t2) (zm_bestA t2) (zm_bestB t2) (zm_bestAgrees t2) (zm_bestMissed t2), zno n0 (zyes (zE_t rfl) (by rw [hlate])), zb F (zno n0 (zyes (zE_t rfl) rfl))⟩
  have n1 : ¬ zE p1 1 := zE_f d1 r1.1 r1.2 (by omega) (by omega)
  by_cases d2 : p1 = 2
  · subst d2
    exact ⟨(n : Int), zSd L E kn T U G gR g Fa (zm_agrees t2) (zm_agreeSet t2) (zm_missed t2) (zm_bestA t2) (zm_bestB t2) (zm_bestAgrees t2) (zm_bestMissed t2), zno n0 (zno n1 (zyes (zE_t rfl) rfl)), zb F (zno n0 (zno n1 (zyes (zE_t rfl) (by rw [hM.2.2.2.2.1]; rfl))))⟩
  have n2 : ¬ zE p1 2 := zE_f d2 r1.1 r1.2 (by omega) (by omega)
  by_cases d3 : p1 = 3
  · subst d3
    exact ⟨_, zSd L E kn T U G gR g Fa (zm_agrees t2) (zm_agreeSet t2) (zm_missed t2) (zm_bestA t2) (zm_bestB t2) (zm_bestAgrees t2) (zm_bestMissed t2), zno n0 (zno n1 (zno n2 (zyes (zE_t rfl) rfl))), zb F (zno n0 (zno n1 (zno n2 (zyes (zE_t rfl) (zb (M_settled hM' hv) rfl)))))⟩
  have n3 : ¬ zE p1 3 := zE_f d3 r1.1 r1.2 (by omega) (by omega)
  by_cases d4 : p1 = 4
  · subst d4
    obtain ⟨L', E', m⟩ := M_manyLive hM' hv (j := -9) (w := 1) (Or.inl rfl) (by omega)
    rw [zct_congr (b := zml1 W P dead manner (-9) 1) _ (fun i _ => zml1_live9 i), hlv] at m
    exact ⟨(ml : Int), zSd L' E' kn T U G gR g Fa (zm_agrees t2) (zm_agreeSet t2) (zm_missed t2) (zm_bestA t2) (zm_bestB t2) (zm_bestAgrees t2) (zm_bestMissed t2), zno n0 (zno n1 (zno n2 (zno n3 (zyes (zE_t rfl) rfl)))), zb F (zno n0 (zno n1 (zno n2 (zno n3 (zyes (zE_t rfl) (zb m rfl))))))⟩
  have n4 : ¬ zE p1 4 := zE_f d4 r1.1 r1.2 (by omega) (by omega)
  by_cases d5 : p1 = 5
  · subst d5
    obtain ⟨L', E', m⟩ := M_manyLive hM' hv (j := -9) (w := 0) (Or.inl rfl) (by omega)
    have sp := zct_split (fun _ => true) (fun i => zlv W P dead manner i) (zst W (zhor (setting 0) W n ov) n)
    rw [hxx, zct_congr (b := fun i => true && zlv W P dead manner i) (b' := fun i => zlv W P dead manner i) _ (fun i _ => Bool.true_and _), hlv] at sp
    have e5 : zct (zml1 W P dead manner (-9) 0) (zst W (zhor (setting 0) W n ov) n) = ((zst W (zhor (setting 0) W n ov) n : Nat) : Int) - (ml : Int) := by
      rw [zct_congr (b := zml1 W P dead manner (-9) 0) (b' := fun i => true && !(zlv W P dead manner i)) _ (fun i _ => by rw [zml1_dead9, Bool.true_and])]
      omega
    rw [e5] at m
    exact ⟨_, zSd L' E' kn T U G gR g Fa (zm_agrees t2) (zm_agreeSet t2) (zm_missed t2) (zm_bestA t2) (zm_bestB t2) (zm_bestAgrees t2) (zm_bestMissed t2), zno n0 (zno n1 (zno n2 (zno n3 (zno n4 (zyes (zE_t rfl) rfl))))), zb F (zno n0 (zno n1 (zno n2 (zno n3 (zno n4 (zyes (zE_t rfl) (zb m rfl)))))))⟩
  have n5 : ¬ zE p1 5 := zE_f d5 r1.1 r1.2 (by omega) (by omega)
  by_cases d6 : p1 = 6
  · subst d6
    exact ⟨(kn : Int), zSd L E kn T U G gR g Fa (zm_agrees t2) (zm_agreeSet t2) (zm_missed t2) (zm_bestA t2) (zm_bestB t2) (zm_bestAgrees t2) (zm_bestMissed t2), zno n0 (zno n1 (zno n2 (zno n3 (zno n4 (zno n5 (zyes (zE_t rfl) rfl)))))), zb F (zno n0 (zno n1 (zno n2 (zno n3 (zno n4 (zno n5 (zyes (zE_t rfl) rfl)))))))⟩
  have n6 : ¬ zE p1 6 := zE_f d6 r1.1 r1.2 (by omega) (by omega)
  by_cases d7 : p1 = 7
  · subst d7
    exact ⟨(g : Int), zSd L E kn T U G gR g Fa (zm_agrees t2) (zm_agreeSet t2) (zm_missed t2) (zm_bestA t2) (zm_bestB t2) (zm_bestAgrees t2) (zm_bestMissed t2), zno n0 (zno n1 (zno n2 (zno n3 (zno n4 (zno n5 (zno n6 (zyes (zE_t rfl) rfl))))))), zb F (zno n0 (zno n1 (zno n2 (zno n3 (zno n4 (zno n5 (zno n6 (zyes (zE_t rfl) rfl))))))))⟩
  have n7 : ¬ zE p1 7 := zE_f d7 r1.1 r1.2 (by omega) (by omega)
  by_cases d8 : p1 = 8
  · subst d8
    have xc := X_coin_loop hk hv hc.2.2.2.1 g 0 zF (by omega) (by unfold zF; omega)
    have mc := M_coin_loop (t' := zFt t2 L E kn T U G gR g Fa (zm_agrees t2) (zm_agreeSet t2) (zm_missed t2) (zm_bestA t2) (zm_bestB t2) (zm_bestAgrees t2) (zm_bestMissed t2)) (setting := setting) hM.2.2.2.1 hv.1.2.2.2.1 (N := g) (by omega) (vs := fun q => zpo lp (fA q) (fA (q + 1) - fA q)) (fun q hq => ⟨M_set_q hk hv hM hq, zset_b hk hq⟩) g 0 zF (by omega) (by unfold zF; omega)
    exact ⟨_, zSd L E kn T U G gR g Fa (zm_agrees t2) (zm_agreeSet t2) (zm_missed t2) (zm_bestA t2) (zm_bestB t2) (zm_bestAgrees t2) (zm_bestMissed t2), zno n0 (zno n1 (zno n2 (zno n3 (zno n4 (zno n5 (zno n6 (zno n7 (zyes (zE_t rfl) (zb (zb xc rfl) rfl))))))))), zb F (zno n0 (zno n1 (zno n2 (zno n3 (zno n4 (zno n5 (zno n6 (zno n7 (zyes (zE_t rfl) (zb (zb mc rfl) rfl))))))))))⟩
  have n8 : ¬ zE p1 8 := zE_f d8 r1.1 r1.2 (by omega) (by omega)
  by_cases d9 : p1 = 9
  · subst d9
    have xp := X_pulses (by omega) (zk_grp hk)
    have mi := M_inG_loop hk hv (z1 := zm_agrees t2) (z2 := zm_agreeSet t2) (z3 := zm_missed t2) (z4 := zm_bestA t2) (z5 := zm_bestB t2) (z6 := zm_bestAgrees t2) (z7 := zm_bestMissed t2) kn 0 zF (by omega) (by unfold zF; omega)
    rw [zct_pre (fA g) kn (zk_grp hk).2.2.1] at mi
    exact ⟨_, zSd L E kn T U G gR g Fa (zm_agrees t2) (zm_agreeSet t2) (zm_missed t2) (zm_bestA t2) (zm_bestB t2) (zm_bestAgrees t2) (zm_bestMissed t2), zno n0 (zno n1 (zno n2 (zno n3 (zno n4 (zno n5 (zno n6 (zno n7 (zno n8 (zyes (zE_t rfl) (zb xp rfl)))))))))), zb F (zno n0 (zno n1 (zno n2 (zno n3 (zno n4 (zno n5 (zno n6 (zno n7 (zno n8 (zyes (zE_t rfl) (zb (zb mi rfl) rfl)))))))))))⟩
  have n9 : ¬ zE p1 9 := zE_f d9 r1.1 r1.2 (by omega) (by omega)
  by_cases d10 : p1 = 10
  · subst d10
    have xt := X_tracks_loop hk hv g 0 zF (by omega) (by unfold zF; omega)
    obtain ⟨x1, x2, x3, x4, x5, x6, x7, mt⟩ := M_tracks_loop hk hv hM (z1 := zm_agrees t2) (z2 := zm_agreeSet t2) (z3 := zm_missed t2) (z4 := zm_bestA t2) (z5 := zm_bestB t2) (z6 := zm_bestAgrees t2) (z7 := zm_bestMissed t2) g 0 zF (zm_agrees t2) (zm_agreeSet t2) (zm_missed t2) (zm_bestA t2) (zm_bestB t2) (zm_bestAgrees t2) (zm_bestMissed t2) (by omega) (by unfold zF; omega)
    exact ⟨_, zSd L E kn T U G gR g Fa x1 x2 x3 x4 x5 x6 x7, zno n0 (zno n1 (zno n2 (zno n3 (zno n4 (zno n5 (zno n6 (zno n7 (zno n8 (zno n9 (zyes (zE_t rfl) (zb (zb xt rfl) rfl))))))))))), zb F (zno n0 (zno n1 (zno n2 (zno n3 (zno n4 (zno n5 (zno n6 (zno n7 (zno n8 (zno n9 (zyes (zE_t rfl) (zb (zb mt rfl) rfl))))))))))))⟩
  have n10 : ¬ zE p1 10 := zE_f d10 r1.1 r1.2 (by omega) (by omega)
  by_cases d11 : p1 = 11
  · subst d11
    exact ⟨_, zSd L E kn T U G gR g Fa (zm_agrees t2) (zm_agreeSet t2) (zm_missed t2) (zm_bestA t2) (zm_bestB t2) (zm_bestAgrees t2) (zm_bestMissed t2), zno n0 (zno n1 (zno n2 (zno n3 (zno n4 (zno n5 (zno n6 (zno n7 (zno n8 (zno n9 (zno n10 (zyes (zE_t rfl) (zb (X_horizon hc hv) rfl)))))))))))), zb F (zno n0 (zno n1 (zno n2 (zno n3 (zno n4 (zno n5 (zno n6 (zno n7 (zno n8 (zno n9 (zno n10 (zyes (zE_t rfl) (zb (M_horizon hM' hv) rfl)))))))))))))⟩
  have n11 : ¬ zE p1 11 := zE_f d11 r1.1 r1.2 (by omega) (by omega)
  by_cases d12 : p1 = 12
  · subst d12
    exact ⟨_, zSd L E kn T U G gR g Fa (zm_agrees t2) (zm_agreeSet t2) (zm_missed t2) (zm_bestA t2) (zm_bestB t2) (zm_bestAgrees t2) (zm_bestMissed t2), zno n0 (zno n1 (zno n2 (zno n3 (zno n4 (zno n5 (zno n6 (zno n7 (zno n8 (zno n9 (zno n10 (zno n11 (zyes (zE_t rfl) (zb (X_edge hc hv) rfl))))))))))))), zb F (zno n0 (zno n1 (zno n2 (zno n3 (zno n4 (zno n5 (zno n6 (zno n7 (zno n8 (zno n9 (zno n10 (zno n11 (zyes (zE_t rfl) (zb (M_edge hM' hv) rfl))))))))))))))⟩
  have n12 : ¬ zE p1 12 := zE_f d12 r1.1 r1.2 (by omega) (by omega)
  exact ⟨-2, zSd L E kn T U G gR g Fa (zm_agrees t2) (zm_agreeSet t2) (zm_missed t2) (zm_bestA t2) (zm_bestB t2) (zm_bestAgrees t2) (zm_bestMissed t2), zno n0 (zno n1 (zno n2 (zno n3 (zno n4 (zno n5 (zno n6 (zno n7 (zno n8 (zno n9 (zno n10 (zno n11 (zno n12 rfl)))))))))))), zb F (zno n0 (zno n1 (zno n2 (zno n3 (zno n4 (zno n5 (zno n6 (zno n7 (zno n8 (zno n9 (zno n10 (zno n11 (zno n12 rfl)))))))))))))⟩
end QY
