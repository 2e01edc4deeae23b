/-! ===== PURE: group, member, having, folds ===== -/
theorem zbc6 : ∀ x : Fin 64, fX4_size ((x.val : Nat) : Int) = fJ6_bitCount_0f7a4 ((x.val : Nat) : Int) ∧ (fJ6_bitCount_0f7a4 ((x.val : Nat) : Int)).isSome = true ∧ 0 ≤ (fJ6_bitCount_0f7a4 ((x.val : Nat) : Int)).getD (-1) ∧ (fJ6_bitCount_0f7a4 ((x.val : Nat) : Int)).getD 9 ≤ 6 := by decide +kernel
theorem zbc {v : Int} (hv : 0 ≤ v ∧ v ≤ 63) : ∃ c, fJ6_bitCount_0f7a4 v = some c ∧ fX4_size v = some c ∧ 0 ≤ c ∧ c ≤ 6 := by
  obtain ⟨a, rfl⟩ := Int.eq_ofNat_of_zero_le hv.1
  obtain ⟨h1, h2, h3, h4⟩ := zbc6 ⟨a, by omega⟩
  obtain ⟨c, hc⟩ := Option.isSome_iff_exists.mp h2
  have hc' : fJ6_bitCount_0f7a4 ((a : Nat) : Int) = some c := hc
  refine ⟨c, hc', h1.trans hc, ?_, ?_⟩
  · have h3' : 0 ≤ (fJ6_bitCount_0f7a4 ((a : Nat) : Int)).getD (-1) := h3
    rw [hc'] at h3'; exact h3'
  · have h4' : (fJ6_bitCount_0f7a4 ((a : Nat) : Int)).getD 9 ≤ 6 := h4
    rw [hc'] at h4'; exact h4'
def zSc (L E : Nat → Int) (kn : Nat) (T U G : Nat → Int) (gR g : Nat) (Fa : Nat → Int) : (Nat → Int) × (Nat → Int) × Int × (Nat → Int) × (Nat → Int) × (Nat → Int) × Int × Int × (Nat → Int) := (L, E, (kn : Int), T, U, G, (gR : Int), (g : Int), Fa)
def zFd (t : zMT) (L E : Nat → Int) (kn : Nat) (T U G : Nat → Int) (gR g : Nat) (Fa : Nat → Int) : zMT := zk_M (zm_lag t) (zm_dead t) (zm_manner t) (zm_setting t) (zm_leastOf t) (zm_mostOf t) (zm_kept t) (zm_planeOf t) (zm_momentOf t) (zm_stripOf t) (zm_late t) (zm_isOver t) L E (kn : Int) T U G (gR : Int) (g : Int) Fa (zm_agrees t) (zm_agreeSet t) (zm_missed t) (zm_bestA t) (zm_bestB t) (zm_bestAgrees t) (zm_bestMissed t)
section QG
variable {t : zXT} {t2 : zMT} {lag dead manner setting W P S : Nat → Int} {n : Nat} {ov : Int} {lw lp ls : Nat → Int} {ml kn g : Nat} {fA : Nat → Nat} {L E T U G : Nat → Int} {gR : Nat} {Fa : Nat → Int}
theorem zk_b (h : zLk t t2 lag dead manner setting W P S n ov lw lp ls ml kn g fA L E T U G gR Fa) (hv : zVal lag dead manner setting W P S n ov) : n ≤ 240 ∧ ml ≤ n ∧ kn ≤ n ∧ g ≤ kn ∧ g ≤ 240 := by
  have h1 := zst_le W (zhor (setting 0) W n ov) n
  have h2 := zk_mle h
  have h3 := zk_kle h
  have h4 := zk_gle h
  have h5 := zk_ggr h
  have h6 := hv.2.1.1
  omega
theorem zk_gb (h : zLk t t2 lag dead manner setting W P S n ov lw lp ls ml kn g fA L E T U G gR Fa) (hv : zVal lag dead manner setting W P S n ov) : ∀ y, y < kn → 0 ≤ G y ∧ G y ≤ 240 := by
  intro y hy
  have h1 := zk_gall h y hy
  have h4 := zk_gle h
  have hb := zk_b h hv
  omega
theorem zk_lp (h : zLk t t2 lag dead manner setting W P S n ov lw lp ls ml kn g fA L E T U G gR Fa) (hv : zVal lag dead manner setting W P S n ov) : ∀ y, y < kn → ∃ u : Nat, u < 241 ∧ U y = (u : Int) ∧ lp y = P u := by
  intro y hy
  obtain ⟨u, u1, u2, _, _, u5, _⟩ := zk_tu h y hy
  have := hv.2.1.1
  exact ⟨u, by omega, u2, u5⟩
theorem zk_pb (h : zLk t t2 lag dead manner setting W P S n ov lw lp ls ml kn g fA L E T U G gR Fa) : ∀ y, y < ml → 0 ≤ lp y ∧ lp y ≤ 5 := fun y hy => (zk_ok h y hy).2.1
theorem X_isGroup (h : zLk t t2 lag dead manner setting W P S n ov lw lp ls ml kn g fA L E T U G gR Fa) (hv : zVal lag dead manner setting W P S n ov) {p : Int} (hp : zR p) : fX3_isGroup t p = some (if 0 ≤ p ∧ p < (g : Int) then 1 else 0) := by
  have hb := zk_b h hv
  unfold fX3_isGroup
  rw [(zk_grp h).1]
  by_cases c : 0 ≤ p ∧ p < (g : Int)
  · rw [if_pos c]; exact zb (W3t hp ⟨c.1, by omega⟩ (by omega) (by omega)) (zok (Or.inr rfl) rfl)
  · rw [if_neg c]; exact zb (W3f hp (fun z => c (by omega)) (by omega) (by omega)) (zok (Or.inl rfl) rfl)
theorem M_isGroup (h : zLk t t2 lag dead manner setting W P S n ov lw lp ls ml kn g fA L E T U G gR Fa) (hv : zVal lag dead manner setting W P S n ov) {p : Int} (hp : zR p) : fX4_isGroup t2 p = some (if 0 ≤ p ∧ p < (g : Int) then 1 else 0, L, E, (kn : Int), T, U, G, (gR : Int), (g : Int), Fa) := by
  have hb := zk_b h hv
  unfold fX4_isGroup
  refine zb (zk_fnd h) ?_
  by_cases c : 0 ≤ p ∧ p < (g : Int)
  · rw [if_pos c]; exact zb (W4t hp ⟨c.1, by show p ≤ (g : Int) - 1; omega⟩ (by omega) (by show (g : Int) - 1 < _; omega)) (zok (Or.inr rfl) rfl)
  · rw [if_neg c]; exact zb (W4f hp (fun z => c (by have z1 : 0 ≤ p ∧ p ≤ (g : Int) - 1 := z; omega)) (by omega) (by show _ ≤ (g : Int) - 1 ∧ (g : Int) - 1 < _; omega)) (zok (Or.inl rfl) rfl)
theorem M_set_q (h : zLk t t2 lag dead manner setting W P S n ov lw lp ls ml kn g fA L E T U G gR Fa) (hv : zVal lag dead manner setting W P S n ov) (hM : zCM t2 lag dead manner setting W P S n ov) {q : Nat} (hq : q < g) : fX4_setOf (zFd t2 L E kn T U G gR g Fa) (q : Int) = some (zpo lp (fA q) (fA (q + 1) - fA q)) := by
  have hb := zk_b h hv
  exact M_setOf (t := zFd t2 L E kn T U G gR g Fa) (kn := kn) (G := G) (U := U) (P := P) rfl rfl rfl hM.2.2.2.2.2.1 (by omega) (by omega) (zk_gr h q hq) (zk_gb h hv) (zk_lp h hv) (fun y hy => zk_pb h y (by have := zk_kle h; omega))
theorem M_many_q (h : zLk t t2 lag dead manner setting W P S n ov lw lp ls ml kn g fA L E T U G gR Fa) (hv : zVal lag dead manner setting W P S n ov) {q : Nat} (hq : q < g) : fX4_manyIn (zFd t2 L E kn T U G gR g Fa) (q : Int) = some ((fA (q + 1) - fA q : Nat) : Int) := by
  have hb := zk_b h hv
  exact M_manyIn (t := zFd t2 L E kn T U G gR g Fa) (kn := kn) (G := G) rfl rfl (by omega) (by omega) (zk_gr h q hq) (zk_gb h hv)
theorem M_mem_q (h : zLk t t2 lag dead manner setting W P S n ov lw lp ls ml kn g fA L E T U G gR Fa) (hv : zVal lag dead manner setting W P S n ov) (hM : zCM t2 lag dead manner setting W P S n ov) {q : Nat} (hq : q < g) {j : Int} (hj : 0 ≤ j ∧ j ≤ 5) : ∀ a b c d e f i : Int, fX4_memberIn (zk_M (zm_lag t2) (zm_dead t2) (zm_manner t2) (zm_setting t2) (zm_leastOf t2) (zm_mostOf t2) (zm_kept t2) (zm_planeOf t2) (zm_momentOf t2) (zm_stripOf t2) (zm_late t2) (zm_isOver t2) L E (kn : Int) T U G (gR : Int) (g : Int) Fa a b c d e f i) (q : Int) j = some (zix (-9) (zfo lp j (fA (q + 1) - fA q) (fA q))) := by
  intro a b c d e f i
  have hb := zk_b h hv
  exact M_memberIn (t := zk_M (zm_lag t2) (zm_dead t2) (zm_manner t2) (zm_setting t2) (zm_leastOf t2) (zm_mostOf t2) (zm_kept t2) (zm_planeOf t2) (zm_momentOf t2) (zm_stripOf t2) (zm_late t2) (zm_isOver t2) L E (kn : Int) T U G (gR : Int) (g : Int) Fa a b c d e f i) (kn := kn) (G := G) (U := U) (P := P) (Fa := Fa) rfl rfl rfl hM.2.2.2.2.2.1 rfl (zk_fst h q hq) (by omega) (by omega) (zk_gr h q hq) (zk_gb h hv) (zk_lp h hv) (fun y hy => zk_pb h y (by have := zk_kle h; omega)) hj
theorem L_group (h : zRel t t2) {p1 p2 : Int} (r1 : zR p1) (r2 : zR p2) : ∃ a r, fX3_group t p1 p2 = some a ∧ fX4_group t2 p1 p2 = some (a, r) := by
  obtain ⟨lag, dead, manner, setting, W, P, S, n, ov, hl⟩ := h
  obtain ⟨lw, lp, ls, ml, kn, g, fA, L, E, T, U, G, gR, Fa, hk⟩ := L_link hl
  have hv := hl.1
  have hb := zk_b hk hv
  have x1 := X_isGroup hk hv r1
  have m1 := M_isGroup hk hv r1
  unfold fX3_group fX4_group
  by_cases c : 0 ≤ p1 ∧ p1 < (g : Int)
  case neg =>
    rw [if_neg c] at x1 m1
    exact ⟨-1, zSc L E kn T U G gR g Fa, zb x1 (zyes z00 rfl), zb m1 (zyes z00 rfl)⟩
  rw [if_pos c] at x1 m1
  obtain ⟨q, hq⟩ := Int.eq_ofNat_of_zero_le c.1
  subst hq
  have hqg : q < g := by omega
  have hgr := zk_gr hk q hqg
  have hgx := (zk_grp hk).2.2.2
  have e1 := X_endOfP (by omega) (zk_grp hk) (q := q) (by omega)
  have e2 := X_endOf (by omega) (zk_grp hk) hqg
  have hset := (hgx.2 q hqg).2.2.1
  have hF := zk_fst hk q hqg
  have hfe := hgr.1
  have hek := hgr.2.1
  have hpb := zpo_b (P := lp) (f := fA q) (fA (q + 1) - fA q) (fun i h1 h2 => zk_pb hk i (by have := zk_kle hk; omega))
  obtain ⟨cb, b1, b2, b3, b4⟩ := zbc hpb
  have htu := fun y (hy : y < kn) => (zk_tu hk y hy).elim fun u z => z.2.2.2.1
  have htb : ∀ y, y < kn → -100 ≤ lw y ∧ lw y ≤ 30000 := fun y hy => (zk_ok hk y (by have := zk_kle hk; omega)).1
  rw [zk_live hk]
  have hkm := zk_kle hk
  have gm : zIn (q : Int) 240 := ⟨by omega, by omega⟩
  have gf : zIn (fA q : Int) 240 := ⟨by omega, by omega⟩
  have x2 : ∀ {o : Option Int} {k : Int → Int → Option Int}, k (fA q : Int) (fA (q + 1) : Int) = o → (Option.bind (fX3_isGroup t (q : Int)) (fun r1 => if zE r1 0 then some ((-1)) else Option.bind (fX0_endOf (zx_groups t) ((q : Int) - 1)) (fun r3 => Option.bind (fX0_endOf (zx_groups t) (q : Int)) (fun r5 => k r3 r5)))) = o := by
    intro o k hk2
    exact zb x1 (zno z10 (zb e1 (zb e2 hk2)))
  have m2 : ∀ {o : Option (Int × (Nat → Int) × (Nat → Int) × Int × (Nat → Int) × (Nat → Int) × (Nat → Int) × Int × Int × (Nat → Int))} {k : _ → Int → Option (Int × (Nat → Int) × (Nat → Int) × Int × (Nat → Int) × (Nat → Int) × (Nat → Int) × Int × Int × (Nat → Int))} {k0 : _ → _}, k ((1 : Int), L, E, (kn : Int), T, U, G, (gR : Int), (g : Int), Fa) (fA q : Int) = o → (Option.bind (fX4_isGroup t2 (q : Int)) (fun r1 => if zE r1.1 0 then k0 r1 else zg (zIn (q : Int) 240) (zl (r1.2.2.2.2.2.2.2.2.2 (Int.toNat (q : Int))) (fun v4 => k r1 v4)))) = o := by
    intro o k k0 hk2
    refine zb m1 (zno z10 (zok gm (zlet ?_)))
    show k _ (Fa (Int.toNat (q : Int))) = o
    rw [zcN, hF]
    exact hk2
  have hS := M_set_q hk hv hl.2.2.1 hqg
  have hN := M_many_q hk hv hqg
  by_cases d0 : p2 = 0
  · subst d0
    refine ⟨lw (fA q) + 100, zSc L E kn T U G gR g Fa, x2 (zyes z00 (zb (R_when (ρ := zk_R lw lp ls (ml : Int)) (n := ml) (i := fA q) rfl (by omega) (by omega)) rfl)), m2 (zyes z00 (zok gf ?_))⟩
    · show some (T (Int.toNat (fA q : Int)) + 100, zSc L E kn T U G gR g Fa) = _
      rw [zcN, ← htu (fA q) (by omega)]
  have n0 : ¬ zE p2 0 := zE_f d0 r2.1 r2.2 (by omega) (by omega)
  by_cases d1 : p2 = 1
  · subst d1
    refine ⟨zpo lp (fA q) (fA (q + 1) - fA q), zSc L E kn T U G gR g Fa, x2 (zno n0 (zyes (zE_t rfl) (zok gm ?_))), m2 (zno n0 (zyes (zE_t rfl) (zb hS rfl)))⟩
    rw [zcN, hset]
  have n1 : ¬ zE p2 1 := zE_f d1 r2.1 r2.2 (by omega) (by omega)
  by_cases d2 : p2 = 2
  · subst d2
    refine ⟨((fA (q + 1) - fA q : Nat) : Int), zSc L E kn T U G gR g Fa, x2 (zno n0 (zno n1 (zyes (zE_t rfl) ?_))), m2 (zno n0 (zno n1 (zyes (zE_t rfl) (zb hN rfl))))⟩
    rw [Int.ofNat_sub (by omega)]
  have n2 : ¬ zE p2 2 := zE_f d2 r2.1 r2.2 (by omega) (by omega)
  by_cases d3 : p2 = 3
  · subst d3
    refine ⟨((fA (q + 1) - fA q : Nat) : Int) - cb, zSc L E kn T U G gR g Fa, x2 (zno n0 (zno n1 (zno n2 (zyes (zE_t rfl) (zok gm ?_))))), m2 (zno n0 (zno n1 (zno n2 (zyes (zE_t rfl) (zb hN (zb hS (zb b2 rfl)))))))⟩
    rw [zcN, hset]
    refine zb b1 ?_
    rw [Int.ofNat_sub (by omega)]
  have n3 : ¬ zE p2 3 := zE_f d3 r2.1 r2.2 (by omega) (by omega)
  by_cases d4 : p2 = 4
  · subst d4
    have ge : zIn ((fA (q + 1) : Int) - 1) 240 := ⟨by omega, by omega⟩
    have ee : ((fA (q + 1) : Nat) : Int) - 1 = ((fA (q + 1) - 1 : Nat) : Int) := by omega
    refine ⟨lw (fA (q + 1) - 1) - lw (fA q), zSc L E kn T U G gR g Fa, x2 (zno n0 (zno n1 (zno n2 (zno n3 (zyes (zE_t rfl) (zb (by rw [ee]; exact R_when (ρ := zk_R lw lp ls (ml : Int)) (n := ml) (i := fA (q + 1) - 1) rfl (by omega) (by omega)) (zb (R_when (ρ := zk_R lw lp ls (ml : Int)) (n := ml) (i := fA q) rfl (by omega) (by omega)) rfl))))))), m2 (zno n0 (zno n1 (zno n2 (zno n3 (zyes (zE_t rfl) (zb hN (zok (by show zIn ((fA q : Int) + ((fA (q + 1) - fA q : Nat) : Int) - 1) 240; exact ⟨by omega, by omega⟩) (zok gf ?_))))))))⟩
    · show some (T (Int.toNat ((fA q : Int) + ((fA (q + 1) - fA q : Nat) : Int) - 1)) - T (Int.toNat (fA q : Int)), zSc L E kn T U G gR g Fa) = _
      rw [show (fA q : Int) + ((fA (q + 1) - fA q : Nat) : Int) - 1 = ((fA (q + 1) - 1 : Nat) : Int) by omega, zcN, zcN, ← htu (fA q) (by omega), ← htu (fA (q + 1) - 1) (by omega)]
  have n4 : ¬ zE p2 4 := zE_f d4 r2.1 r2.2 (by omega) (by omega)
  exact ⟨-2, zSc L E kn T U G gR g Fa, x2 (zno n0 (zno n1 (zno n2 (zno n3 (zno n4 rfl))))), m2 (zno n0 (zno n1 (zno n2 (zno n3 (zno n4 rfl)))))⟩
end QG
