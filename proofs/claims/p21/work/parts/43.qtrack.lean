/-! ===== PURE: track, through ===== -/
def zSd (L E : Nat → Int) (kn : Nat) (T U G : Nat → Int) (gR g : Nat) (Fa : Nat → Int) (a b c d e f i : Int) : (Nat → Int) × (Nat → Int) × Int × (Nat → Int) × (Nat → Int) × (Nat → Int) × Int × Int × (Nat → Int) × Int × Int × Int × Int × Int × Int × Int := (L, E, (kn : Int), T, U, G, (gR : Int), (g : Int), Fa, a, b, c, d, e, f, i)
theorem zqK_inj {s : Nat → Int} {c : Int} (hs : zStr s) (hc : 0 ≤ c ∧ c ≤ 3) {p q : Nat} (hp : p < 112) (hq : q < 112) (h : zqK s c p = zqK s c q) : p = q := by
  have h1 := zqM_b hs hc p
  have h2 := zqM_b hs hc q
  unfold zqK at h
  omega
section QT
variable {t : zXT} {t2 : zMT} {lag dead manner setting W P S : Nat → Int} {n : Nat} {ov : Int} {lw lp ls : Nat → Int} {ml kn g : Nat} {fA : Nat → Nat} {L E T U G : Nat → Int} {gR : Nat} {Fa : Nat → Int}
theorem zTk (hk : zLk t t2 lag dead manner setting W P S n ov lw lp ls ml kn g fA L E T U G gR Fa) (hv : zVal lag dead manner setting W P S n ov) (hM : zCM t2 lag dead manner setting W P S n ov) {q : Nat} (hq : q < g) (y1 y2 y3 y4 y5 y6 y7 : Int) :
    ∃ r x1 x2 x3 bA bB bAg bMi, fX4_findTrack (zFt t2 L E kn T U G gR g Fa y1 y2 y3 y4 y5 y6 y7) (q : Int) = some (r, x1, x2, x3, bA, bB, bAg, bMi) ∧ ((r = 0 ∧ zg_trackSet (zx_groups t) q = 0) ∨ (r = 1 ∧ zg_trackSet (zx_groups t) q ≠ 0 ∧ ∃ p, p < 112 ∧ bA = zqA p ∧ bB = zqB p ∧ zg_trackStart (zx_groups t) q = zqA p ∧ zg_trackSlope (zx_groups t) q = zqB p ∧ zg_trackSet (zx_groups t) q = zqO (zgs lp ls fA q) (setting 3) p ∧ zg_trackMisses (zx_groups t) q = zqM (zgs lp ls fA q) (setting 3) p)) := by
  have hstr := zgs_str hk hq
  have hc4 := hv.1.2.2.2.2
  have hc3 := hv.1.2.2.2.1
  have htr : zTr (zgs lp ls fA q) (setting 3) (setting 2) (zg_trackStart (zx_groups t) q) (zg_trackSlope (zx_groups t) q) (zg_trackSet (zx_groups t) q) (zg_trackMisses (zx_groups t) q) := ((zk_grp hk).2.2.2.2 q hq).2.2.2
  obtain ⟨r, x1, x2, x3, bA, bB, bAg, bMi, f1, f2⟩ := M_find hk hv hM hq y1 y2 y3 y4 y5 y6 y7
  refine ⟨r, x1, x2, x3, bA, bB, bAg, bMi, f1, ?_⟩
  rcases f2 with ⟨e, h0⟩ | ⟨e, p, hp, hpf, eA, eB, hmin⟩
  · left
    refine ⟨e, ?_⟩
    rcases htr with ⟨h1, _⟩ | ⟨p', hp', hpf', _⟩
    · exact h1
    · have := h0 p' hp'; omega
  · right
    rcases htr with ⟨_, h1⟩ | ⟨p', hp', hpf', a1, a2, a3, a4, hmin'⟩
    · have := h1 p hp; omega
    · have l1 := hmin p' hp'
      have l2 := hmin' p hp
      have epp : p = p' := zqK_inj hstr hc4 hp hp' (by omega)
      subst epp
      refine ⟨e, ?_, p, hp, eA, eB, a1, a2, a3, a4⟩
      rw [a3]
      intro z
      have := (zsb (zqh (zgs lp ls fA q) (setting 3) p)).2.2.2.mp z
      unfold zqC at hpf
      omega
theorem X_hasTrack (hk : zLk t t2 lag dead manner setting W P S n ov lw lp ls ml kn g fA L E T U G gR Fa) (hv : zVal lag dead manner setting W P S n ov) {q : Nat} (hq : q < g) : fX0_hasTrack (zx_groups t) (q : Int) = some (if zg_trackSet (zx_groups t) q = 0 then 0 else 1) := by
  have hb := zk_b hk hv
  have hr : 0 ≤ zg_trackSet (zx_groups t) q ∧ zg_trackSet (zx_groups t) q ≤ 63 := by
    rcases ((zk_grp hk).2.2.2.2 q hq).2.2.2 with ⟨h1, _⟩ | ⟨p', _, _, _, _, a3, _⟩
    · omega
    · rw [a3]; exact (zsb _).2.1
  unfold fX0_hasTrack
  refine zok ⟨by omega, by omega⟩ ?_
  rw [zcN]
  by_cases c : zg_trackSet (zx_groups t) q = 0
  · rw [if_pos c]; exact zyes (zE_t c) rfl
  · rw [if_neg c]; exact zno (zE_f c (by omega) (by omega) (by omega) (by omega)) rfl
theorem L_track (h : zRel t t2) {p1 p2 : Int} (r1 : zR p1) (r2 : zR p2) : ∃ a r, fX3_track t p1 p2 = some a ∧ fX4_track t2 p1 p2 = some (a, r) := by
  obtain ⟨lag, dead, manner, setting, W, P, S, n, ov, hl⟩ := h
  obtain ⟨lw, lp, ls, ml, kn, g, fA, L, E, T, U, G, gR, Fa, hk⟩ := L_link hl
  have hv := hl.1
  have hM := hl.2.2.1
  have hb := zk_b hk hv
  have x1 := X_isGroup hk hv r1
  have m1 := M_isGroup hk hv r1
  unfold fX3_track fX4_track
  by_cases c : 0 ≤ p1 ∧ p1 < (g : Int)
  case neg =>
    rw [if_neg c] at x1 m1
    exact ⟨-1, zSd L E kn T U G gR g Fa (zm_agrees t2) (zm_agreeSet t2) (zm_missed t2) (zm_bestA t2) (zm_bestB t2) (zm_bestAgrees t2) (zm_bestMissed t2), zb x1 (zyes z00 rfl), zb m1 (zyes z00 rfl)⟩
  rw [if_pos c] at x1 m1
  by_cases c2 : 0 ≤ p2 ∧ p2 ≤ 4
  case neg =>
    exact ⟨-2, zSd L E kn T U G gR g Fa (zm_agrees t2) (zm_agreeSet t2) (zm_missed t2) (zm_bestA t2) (zm_bestB t2) (zm_bestAgrees t2) (zm_bestMissed t2), zb x1 (zno z10 (zb (W3f r2 c2 (by omega) (by omega)) (zyes z00 rfl))), zb m1 (zno z10 (zb (W4f r2 c2 (by omega) (by omega)) (zyes z00 rfl)))⟩
  obtain ⟨q, hq⟩ := Int.eq_ofNat_of_zero_le c.1
  subst hq
  have hqg : q < g := by omega
  have gm : zIn (q : Int) 240 := ⟨by omega, by omega⟩
  have xh := X_hasTrack hk hv hqg
  obtain ⟨r, v1, v2, v3, bA, bB, bAg, bMi, f1, f2⟩ := zTk hk hv hM hqg (zm_agrees t2) (zm_agreeSet t2) (zm_missed t2) (zm_bestA t2) (zm_bestB t2) (zm_bestAgrees t2) (zm_bestMissed t2)
  rcases f2 with ⟨e, h0⟩ | ⟨e, h0, p, hp, eA, eB, a1, a2, a3, a4⟩
  · subst e
    rw [if_pos h0] at xh
    exact ⟨-9, zSd L E kn T U G gR g Fa v1 v2 v3 bA bB bAg bMi, zb x1 (zno z10 (zb (W3t r2 c2 (by omega) (by omega)) (zno z10 (zb xh (zyes z00 rfl))))), zb m1 (zno z10 (zb (W4t r2 c2 (by omega) (by omega)) (zno z10 (zb f1 (zyes z00 rfl)))))⟩
  · subst e
    rw [if_neg h0] at xh
    subst eA eB
    have ht := M_tries hk hv hM hqg (p := p) v1 v2 v3 (zqA p) (zqB p) bAg bMi
    have bc : fJ6_bitCount_0f7a4 (zg_trackSet (zx_groups t) q) = some (zqC (zgs lp ls fA q) (setting 3) p) := by rw [a3]; exact (zsb (zqh (zgs lp ls fA q) (setting 3) p)).1
    have X : ∀ {o : Option Int} {k : Option Int}, k = o → (Option.bind (fX3_isGroup t (q : Int)) (fun r1 => if zE r1 0 then some ((-1)) else Option.bind (fX3_isWithin p2 0 4) (fun r3 => if zE r3 0 then some ((-2)) else Option.bind (fX0_hasTrack (zx_groups t) (q : Int)) (fun r5 => if zE r5 0 then some ((-9)) else k)))) = o := fun hk2 => zb x1 (zno z10 (zb (W3t r2 c2 (by omega) (by omega)) (zno z10 (zb xh (zno z10 hk2)))))
    by_cases d0 : p2 = 0
    · subst d0
      refine ⟨zqA p, zSd L E kn T U G gR g Fa (zqC (zgs lp ls fA q) (setting 3) p) (zqO (zgs lp ls fA q) (setting 3) p) (zqM (zgs lp ls fA q) (setting 3) p) (zqA p) (zqB p) bAg bMi, X (zyes z00 (zok gm (by rw [zcN, a1]))), zb m1 (zno z10 (zb (W4t r2 c2 (by omega) (by omega)) (zno z10 (zb f1 (zno z10 (zb ht (zyes z00 rfl)))))))⟩
    have n0 : ¬ zE p2 0 := zE_f d0 r2.1 r2.2 (by omega) (by omega)
    by_cases d1 : p2 = 1
    · subst d1
      refine ⟨zqB p + 10, zSd L E kn T U G gR g Fa (zqC (zgs lp ls fA q) (setting 3) p) (zqO (zgs lp ls fA q) (setting 3) p) (zqM (zgs lp ls fA q) (setting 3) p) (zqA p) (zqB p) bAg bMi, X (zno n0 (zyes (zE_t rfl) (zok gm (by rw [zcN, a2])))), zb m1 (zno z10 (zb (W4t r2 c2 (by omega) (by omega)) (zno z10 (zb f1 (zno z10 (zb ht (zno n0 (zyes (zE_t rfl) rfl))))))))⟩
    have n1 : ¬ zE p2 1 := zE_f d1 r2.1 r2.2 (by omega) (by omega)
    by_cases d2 : p2 = 2
    · subst d2
      refine ⟨zqC (zgs lp ls fA q) (setting 3) p, zSd L E kn T U G gR g Fa (zqC (zgs lp ls fA q) (setting 3) p) (zqO (zgs lp ls fA q) (setting 3) p) (zqM (zgs lp ls fA q) (setting 3) p) (zqA p) (zqB p) bAg bMi, X (zno n0 (zno n1 (zyes (zE_t rfl) (zok gm (by rw [zcN]; exact zb bc rfl))))), zb m1 (zno z10 (zb (W4t r2 c2 (by omega) (by omega)) (zno z10 (zb f1 (zno z10 (zb ht (zno n0 (zno n1 (zyes (zE_t rfl) rfl)))))))))⟩
    have n2 : ¬ zE p2 2 := zE_f d2 r2.1 r2.2 (by omega) (by omega)
    by_cases d3 : p2 = 3
    · subst d3
      refine ⟨zqO (zgs lp ls fA q) (setting 3) p, zSd L E kn T U G gR g Fa (zqC (zgs lp ls fA q) (setting 3) p) (zqO (zgs lp ls fA q) (setting 3) p) (zqM (zgs lp ls fA q) (setting 3) p) (zqA p) (zqB p) bAg bMi, X (zno n0 (zno n1 (zno n2 (zyes (zE_t rfl) (zok gm (by rw [zcN, a3])))))), zb m1 (zno z10 (zb (W4t r2 c2 (by omega) (by omega)) (zno z10 (zb f1 (zno z10 (zb ht (zno n0 (zno n1 (zno n2 (zyes (zE_t rfl) rfl))))))))))⟩
    have n3 : ¬ zE p2 3 := zE_f d3 r2.1 r2.2 (by omega) (by omega)
    refine ⟨zqM (zgs lp ls fA q) (setting 3) p, zSd L E kn T U G gR g Fa (zqC (zgs lp ls fA q) (setting 3) p) (zqO (zgs lp ls fA q) (setting 3) p) (zqM (zgs lp ls fA q) (setting 3) p) (zqA p) (zqB p) bAg bMi, X (zno n0 (zno n1 (zno n2 (zno n3 (zok gm (by rw [zcN, a4])))))), zb m1 (zno z10 (zb (W4t r2 c2 (by omega) (by omega)) (zno z10 (zb f1 (zno z10 (zb ht (zno n0 (zno n1 (zno n2 (zno n3 rfl))))))))))⟩
end QT
