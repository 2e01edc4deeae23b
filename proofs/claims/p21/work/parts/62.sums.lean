/-! ===== PURE: what counts make together ===== -/
theorem zbit_or : ∀ x : Fin 64, ∀ p : Fin 6, ∀ j : Fin 6, zand (zshr (zor ((x.val : Nat) : Int) (zshl 1 ((p.val : Nat) : Int))) ((j.val : Nat) : Int)) 1 = if p.val = j.val then 1 else zand (zshr ((x.val : Nat) : Int) ((j.val : Nat) : Int)) 1 := by decide +kernel
def zbsum (x : Int) : Nat → Int
  | 0 => 0
  | j + 1 => zbsum x j + zand (zshr x (j : Int)) 1
theorem zbs_6 : ∀ x : Fin 64, fJ6_bitCount_0f7a4 ((x.val : Nat) : Int) = some (zbsum ((x.val : Nat) : Int) 6) ∧ ∀ j : Fin 6, zand (zshr ((x.val : Nat) : Int) ((j.val : Nat) : Int)) 1 = 1 → 1 ≤ zbsum ((x.val : Nat) : Int) 6 := by decide +kernel
theorem zbs_b {x : Int} (h : 0 ≤ x ∧ x ≤ 63) : ∀ j, j ≤ 6 → 0 ≤ zbsum x j ∧ zbsum x j ≤ (j : Int) := by
  intro j
  induction j with
  | zero => intro _; exact ⟨Int.le_refl _, Int.le_refl _⟩
  | succ j ih =>
    intro hj
    have h1 := ih (by omega)
    have h2 := zand_m (zshr x (j : Int)) (m := 1) (by omega)
    show 0 ≤ zbsum x j + zand (zshr x (j : Int)) ((1 : Nat) : Int) ∧ zbsum x j + zand (zshr x (j : Int)) ((1 : Nat) : Int) ≤ _
    omega
theorem zbs_v {x : Int} (h : 0 ≤ x ∧ x ≤ 63) : fJ6_bitCount_0f7a4 x = some (zbsum x 6) ∧ ∀ j : Nat, j < 6 → zand (zshr x (j : Int)) 1 = 1 → 1 ≤ zbsum x 6 := by
  obtain ⟨a, rfl⟩ := Int.eq_ofNat_of_zero_le h.1
  obtain ⟨h1, h2⟩ := zbs_6 ⟨a, by omega⟩
  exact ⟨h1, fun j hj => h2 ⟨j, hj⟩⟩
theorem zbit_z : ∀ j : Fin 6, zand (zshr 0 ((j.val : Nat) : Int)) 1 = 0 := by decide +kernel
theorem zpo_bit {P : Nat → Int} {f j : Nat} (hj : j < 6) : ∀ k, (∀ i, f ≤ i → i < f + k → 0 ≤ P i ∧ P i ≤ 5) → ((∃ i, f ≤ i ∧ i < f + k ∧ P i = (j : Int)) → zand (zshr (zpo P f k) (j : Int)) 1 = 1) ∧ ((∀ i, f ≤ i → i < f + k → P i ≠ (j : Int)) → zand (zshr (zpo P f k) (j : Int)) 1 = 0) := by
  intro k
  induction k with
  | zero =>
    intro _
    refine ⟨fun ⟨i, h1, h2, _⟩ => by omega, fun _ => ?_⟩
    exact zbit_z ⟨j, hj⟩
  | succ k ih =>
    intro h
    obtain ⟨i1, i2⟩ := ih (fun i h1 h2 => h i h1 (by omega))
    have hb := zpo_b (P := P) (f := f) k (fun i h1 h2 => h i h1 (by omega))
    have hp := h (f + k) (by omega) (by omega)
    obtain ⟨x, hx⟩ := Int.eq_ofNat_of_zero_le hb.1
    obtain ⟨y, hy⟩ := Int.eq_ofNat_of_zero_le hp.1
    have e := zbit_or ⟨x, by omega⟩ ⟨y, by omega⟩ ⟨j, hj⟩
    have e2 : zand (zshr (zpo P f (k + 1)) (j : Int)) 1 = if y = j then 1 else zand (zshr (zpo P f k) (j : Int)) 1 := by
      show zand (zshr (zor (zpo P f k) (zshl 1 (P (f + k)))) (j : Int)) 1 = _
      rw [hx, hy]; exact e
    rw [e2]
    refine ⟨fun ⟨i, h1, h2, h3⟩ => ?_, fun hn => ?_⟩
    · by_cases c : y = j
      · rw [if_pos c]
      · rw [if_neg c]
        refine i1 ⟨i, h1, ?_, h3⟩
        by_cases ci : i = f + k
        · exfalso
          subst ci
          exact c (by omega)
        · omega
    · have c : ¬ y = j := fun c => hn (f + k) (by omega) (by omega) (by omega)
      rw [if_neg c]
      exact i2 (fun i h1 h2 => hn i h1 (by omega))
theorem zfo_none {P : Nat → Int} {j : Int} : ∀ (k f : Nat), zfo P j k f = none → ∀ i, f ≤ i → i < f + k → P i ≠ j := by
  intro k
  induction k with
  | zero => intro f _ i h1 h2; omega
  | succ k ih =>
    intro f h i h1 h2
    unfold zfo at h
    by_cases c : P f = j
    · rw [if_pos c] at h; cases h
    · rw [if_neg c] at h
      by_cases e : i = f
      · subst e; exact c
      · exact ih (f + 1) h i (by omega) (by omega)
theorem zct_all {b : Nat → Bool} : ∀ i, (∀ q, q < i → b q = true) → zct b i = (i : Int) := by
  intro i
  induction i with
  | zero => intro _; rfl
  | succ i ih =>
    intro h
    rw [zct_s, if_pos (h i (by omega)), ih (fun q hq => h q (by omega))]
    rfl
theorem zct_six {b : Nat → Int} : ∀ i, (∀ q, q < i → 1 ≤ b q ∧ b q ≤ 6) → zct (fun q => decide (b q = 1)) i + zct (fun q => decide (b q = 2)) i + zct (fun q => decide (b q = 3)) i + zct (fun q => decide (b q = 4)) i + zct (fun q => decide (b q = 5)) i + zct (fun q => decide (b q = 6)) i = (i : Int) := by
  intro i
  induction i with
  | zero => intro _; rfl
  | succ i ih =>
    intro h
    have h1 := ih (fun q hq => h q (by omega))
    have h2 := h i (by omega)
    simp only [zct_s]
    rcases (show b i = 1 ∨ b i = 2 ∨ b i = 3 ∨ b i = 4 ∨ b i = 5 ∨ b i = 6 by omega) with e | e | e | e | e | e <;> simp [e] <;> omega
section Sums
variable {t : zXT} {t2 : zMT} {lag dead manner setting W P S : Nat → Int} {n : Nat} {ov late : Int} {lw lp ls : Nat → Int} {ml kn g : Nat} {fA : Nat → Nat} {L E T U G : Nat → Int} {gR : Nat} {Fa : Nat → Int}
theorem V_lag (hv : zVal lag dead manner setting W P S n ov) (hl : zx_lag t = lag) {j : Nat} (hj : j < 6) : fX3_ofPlane t (j : Int) 0 = some (lag j) := by
  unfold fX3_ofPlane
  rw [hl]
  exact zb (P3t ⟨by omega, by omega⟩ ⟨by omega, by omega⟩) (zno z10 (zyes z00 (zok ⟨by omega, by omega⟩ rfl)))
theorem zk_mono (hk : zLk t t2 lag dead manner setting W P S n ov lw lp ls ml kn g fA L E T U G gR Fa) : ∀ i j, i ≤ j → j < ml → lw i ≤ lw j :=
  zrl_mono (w := lw) (p := lp) (s := ls) (n := ml) (by rw [zk_row hk]; exact zSR_sorted lag dead manner W P S 100000 (fun _ => 0) _)
theorem LW_m1 (hk : zLk t t2 lag dead manner setting W P S n ov lw lp ls ml kn g fA L E T U G gR Fa) (hv : zVal lag dead manner setting W P S n ov) (hl : zx_lag t = lag) {q : Nat} (hq : q < g) (x y z : Int) : ∀ (d i zn : Nat), i + d = 6 → d < zn → fL_sums_L40 zn t x y z (q : Int) (lw (fA q) + 100) (zbsum (zg_set (zx_groups t) q) i) (i : Int) = some (zbsum (zg_set (zx_groups t) q) 6) := by
  have hgr := zk_gr hk q hq
  have hkm := zk_kle hk
  have hb := zk_b hk hv
  have hmo := zk_mono hk
  have hset := ((zk_grp hk).2.2.2.2 q hq).2.2.1
  have hfe := hgr.1
  have hek := hgr.2.1
  have hpb := zpo_b (P := lp) (f := fA q) (fA (q + 1) - fA q) (fun i h1 h2 => zk_pb hk i (by omega))
  obtain ⟨v0, v1, v2, ⟨cb, v3, v4⟩, v5⟩ := V_grp hk hv hq
  have hsb := fun i (hi : i ≤ 6) => zbs_b (x := zg_set (zx_groups t) q) (by rw [hset]; exact hpb) i hi
  have hok := fun y (hy : y < kn) => (zk_ok hk y (by omega)).1
  intro d
  induction d with
  | zero =>
    intro i zn hi hz
    obtain ⟨zn, rfl⟩ : ∃ q, zn = q + 1 := ⟨zn - 1, by omega⟩
    have e : i = 6 := by omega
    subst e
    rw [fL_sums_L40_s]
    exact zyes (zLe_t (by omega) (by omega) (by omega)) rfl
  | succ d ih =>
    intro i zn hi hz
    obtain ⟨zn, rfl⟩ : ∃ q, zn = q + 1 := ⟨zn - 1, by omega⟩
    rw [fL_sums_L40_s]
    obtain ⟨m0, m1⟩ := V_mem hk hv hl hq (j := (i : Int)) (by omega)
    obtain ⟨b1, b2⟩ := zpo_bit (P := lp) (f := fA q) (j := i) (by omega) (fA (q + 1) - fA q) (fun y h1 h2 => zk_pb hk y (by omega))
    rw [← hset] at b1 b2
    have hl0 := V_lag hv hl (j := i) (by omega)
    have hs := hsb i (by omega)
    have hlb := hv.1.1 i (by omega)
    refine zno (zLe_f (by omega) (by omega) (by omega)) (zb m0 ?_)
    cases ho : zfo lp (i : Int) (fA (q + 1) - fA q) (fA q) with
    | none =>
      have hbit := b2 (fun y h1 h2 => zfo_none _ _ ho y h1 (by omega))
      have e : zbsum (zg_set (zx_groups t) q) i + 0 = zbsum (zg_set (zx_groups t) q) (i + 1) := by
        show _ = zbsum (zg_set (zx_groups t) q) i + zand (zshr (zg_set (zx_groups t) q) (i : Int)) 1
        rw [hbit]
      refine zb (a := 0) (zno (zLe_f (show (-9 : Int) < 0 by omega) (by show (-2147483648 : Int) ≤ -9; omega) (by omega)) rfl) (zlet ?_)
      refine zb (a := 0) (zyes (zLt_t (show (-9 : Int) < 0 by omega) (by show (-2147483648 : Int) ≤ -9; omega) (by omega)) rfl) (zb v1 ?_)
      refine zb (a := 0) (zno (by rw [hbit]; exact zE_f (by omega) (by omega) (by omega) (by omega) (by omega)) rfl) (zyes (zE_t rfl) ?_)
      refine zb (a := ()) (zyes (zLt_t (show (-9 : Int) < 0 by omega) (by show (-2147483648 : Int) ≤ -9; omega) (by omega)) rfl) ?_
      rw [e]
      exact ih (i + 1) zn (by omega) (by omega)
    | some y =>
      obtain ⟨y1, y2, y3⟩ := zfo_some _ _ _ ho
      have hbit := b1 ⟨y, y1, by omega, y3⟩
      have e : zbsum (zg_set (zx_groups t) q) i + 1 = zbsum (zg_set (zx_groups t) q) (i + 1) := by
        show _ = zbsum (zg_set (zx_groups t) q) i + zand (zshr (zg_set (zx_groups t) q) (i : Int)) 1
        rw [hbit]
      obtain ⟨u, u1, u2, u3, u4, u5, u6⟩ := zk_tu hk y (by omega)
      have hW := (hv.2.1.2.1 u u1).1
      have eP : (P u).toNat = i := by rw [← u5, y3]; rfl
      rw [eP] at u3
      have hm : zmvv lw lag (i : Int) (some y) = lw y + lag i := rfl
      have ho1 := hmo (fA q) y y1 (by omega)
      have ho2 := hmo y (fA (q + 1) - 1) (by omega) (by omega)
      have k1 := hok (fA q) (by omega)
      have k2 := hok y (by omega)
      have k3 := hok (fA (q + 1) - 1) (by omega)
      rw [hm]
      refine zb (a := 1) (zyes (zLe_t (by omega) (by omega) (by omega)) rfl) (zlet ?_)
      refine zb (a := 1) (zno (zLt_f (by omega) (by omega) (by omega)) rfl) (zb v1 ?_)
      refine zb (a := 1) (zyes (by rw [hbit]) rfl) (zyes (zE_t rfl) ?_)
      refine zb (a := ()) (zno (zLt_f (by omega) (by omega) (by omega)) (zb hl0 (zno (zLt_f (by omega) (by omega) (by omega)) (zb hl0 (zb v5 (zyes (zLe_t (by omega) (by omega) (by omega)) rfl)))))) ?_
      rw [e]
      exact ih (i + 1) zn (by omega) (by omega)
theorem LW_m2 (hk : zLk t t2 lag dead manner setting W P S n ov lw lp ls ml kn g fA L E T U G gR Fa) (hv : zVal lag dead manner setting W P S n ov) (hl : zx_lag t = lag) : ∀ (d i zn : Nat), i + d = g → d < zn → fL_sums_L19 zn t (g : Int) (fA i : Int) (if i = 0 then -999 else lw (fA i - 1) + 100) (i : Int) = some (fA g : Int) := by
  have hkm := zk_kle hk
  have hb := zk_b hk hv
  have hmo := zk_mono hk
  have hok := fun y (hy : y < kn) => (zk_ok hk y (by omega)).1
  have hgx := (zk_grp hk).2.2.2.2
  intro d
  induction d with
  | zero =>
    intro i zn hi hz
    obtain ⟨zn, rfl⟩ : ∃ q, zn = q + 1 := ⟨zn - 1, by omega⟩
    have e : i = g := by omega
    subst e
    rw [fL_sums_L19_s]
    exact zyes (zLe_t (by omega) (by omega) (by omega)) rfl
  | succ d ih =>
    intro i zn hi hz
    obtain ⟨zn, rfl⟩ : ∃ q, zn = q + 1 := ⟨zn - 1, by omega⟩
    rw [fL_sums_L19_s]
    have hq : i < g := by omega
    have hgr := zk_gr hk i hq
    have hfe := hgr.1
    have hek := hgr.2.1
    have hset := (hgx i hq).2.2.1
    have hpb := zpo_b (P := lp) (f := fA i) (fA (i + 1) - fA i) (fun y h1 h2 => zk_pb hk y (by omega))
    rw [← hset] at hpb
    obtain ⟨v0, v1, v2, ⟨cb, v3, v4⟩, v5⟩ := V_grp hk hv hq
    obtain ⟨s1, s2⟩ := zbs_v hpb
    rw [s1] at v3
    cases v3
    have hsb := zbs_b hpb 6 (by omega)
    have hpi := zk_pb hk (fA i) (by omega)
    obtain ⟨j, hj⟩ := Int.eq_ofNat_of_zero_le hpi.1
    have hj6 : j < 6 := by omega
    have hbit := (zpo_bit (P := lp) (f := fA i) (j := j) hj6 (fA (i + 1) - fA i) (fun y h1 h2 => zk_pb hk y (by omega))).1 ⟨fA i, by omega, by omega, hj⟩
    rw [← hset] at hbit
    have hone := s2 j hj6 hbit
    have hm := LW_m1 hk hv hl hq (g : Int) (fA i : Int) (if i = 0 then -999 else lw (fA i - 1) + 100) 6 0 zF (by omega) (by unfold zF; omega)
    have k1 := hok (fA i) (by omega)
    have k2 := hok (fA (i + 1) - 1) (by omega)
    have hbf : ¬ zLe (lw (fA i) + 100) (if i = 0 then -999 else lw (fA i - 1) + 100) := by
      by_cases c : i = 0
      · rw [if_pos c]
        exact zLe_f (by omega) (by omega) (by omega)
      · rw [if_neg c]
        obtain ⟨p, rfl⟩ : ∃ p, i = p + 1 := ⟨i - 1, by omega⟩
        have hz1 := (hgx p (by omega)).1
        have hz2 := hz1.2.2.2 (by omega)
        have hz3 := hz1.2.2.1 (fA (p + 1) - 1) (by have := hz1.1; omega) (by have := hz1.1; omega)
        have k3 := hok (fA (p + 1) - 1) (by omega)
        exact zLe_f (by omega) (by omega) (by omega)
    refine zno (zLe_f (by omega) (by omega) (by omega)) (zb v0 (zb hm (zno hbf (zb v2 (zb v4 (zyes (zE_t (by omega)) (zyes (zLe_t hone (by omega) (by omega)) (zb v5 (zlet (zb v2 (zlet ?_)))))))))))
    have e1 : (fA i : Int) + ((fA (i + 1) : Int) - (fA i : Int)) = (fA (i + 1) : Int) := by omega
    have e2 : lw (fA i) + 100 + (lw (fA (i + 1) - 1) - lw (fA i)) = if i + 1 = 0 then -999 else lw (fA (i + 1) - 1) + 100 := by
      rw [if_neg (by omega)]; omega
    rw [e1, e2]
    exact ih (i + 1) zn (by omega) (by omega)
theorem V_folds (hk : zLk t t2 lag dead manner setting W P S n ov lw lp ls ml kn g fA L E T U G gR Fa) (hv : zVal lag dead manner setting W P S n ov) {m : Int} (hm : 1 ≤ m ∧ m ≤ 6) : fX3_folds t m = some (zct (fun q => decide (zbC (zpo lp (fA q) (fA (q + 1) - fA q)) = m)) g) := by
  have hb := zk_b hk hv
  unfold fX3_folds
  have x := X_folds_loop hk hv hm g 0 zF (by omega) (by unfold zF; omega)
  exact zb (W3t ⟨by omega, by omega⟩ hm (by omega) (by omega)) (zno z10 (zb x rfl))
theorem V_having (hk : zLk t t2 lag dead manner setting W P S n ov lw lp ls ml kn g fA L E T U G gR Fa) (hv : zVal lag dead manner setting W P S n ov) {how : Int} (hh : how = 1 ∨ how = 2) : fX3_having t 0 how = some (g : Int) := by
  have hb := zk_b hk hv
  unfold fX3_having
  have x := X_having_loop hk hv (set := 0) (how := how) ⟨by omega, by omega⟩ ⟨by omega, by omega⟩ g 0 zF (by omega) (by unfold zF; omega)
  rw [zct_all g (fun q hq => by
    have h0 := zand_m (zpo lp (fA q) (fA (q + 1) - fA q)) (m := 0) (by omega)
    have e : zand (zpo lp (fA q) (fA (q + 1) - fA q)) 0 = 0 := by
      show zand (zpo lp (fA q) (fA (q + 1) - fA q)) ((0 : Nat) : Int) = 0
      omega
    unfold zhv
    rw [if_neg (by omega)]
    rcases hh with rfl | rfl
    · rw [if_pos rfl, e]; rfl
    · rw [if_neg (by omega), e]; rfl)] at x
  exact zb (W3t ⟨by omega, by omega⟩ ⟨by omega, by omega⟩ (by omega) (by omega)) (zno z10 (zb (W3t ⟨by omega, by omega⟩ ⟨by omega, by omega⟩ (by omega) (by omega)) (zno z10 (zb x rfl))))
theorem LW_m3 (hk : zLk t t2 lag dead manner setting W P S n ov lw lp ls ml kn g fA L E T U G gR Fa) (hv : zVal lag dead manner setting W P S n ov) (x y : Int) : fL_sums_L230 zF t x y 0 1 = some (g : Int) := by
  have h1 := V_folds hk hv (m := 1) (by omega)
  have h2 := V_folds hk hv (m := 2) (by omega)
  have h3 := V_folds hk hv (m := 3) (by omega)
  have h4 := V_folds hk hv (m := 4) (by omega)
  have h5 := V_folds hk hv (m := 5) (by omega)
  have h6 := V_folds hk hv (m := 6) (by omega)
  have hgx := (zk_grp hk).2.2.2.2
  have hsix := zct_six (b := fun q => zbC (zpo lp (fA q) (fA (q + 1) - fA q))) g (fun q hq => by
    have hgr := zk_gr hk q hq
    have hfe := hgr.1
    have hek := hgr.2.1
    have hkm := zk_kle hk
    have hpb := zpo_b (P := lp) (f := fA q) (fA (q + 1) - fA q) (fun y h1 h2 => zk_pb hk y (by omega))
    obtain ⟨c1, c2, c3, c4⟩ := zbC_e hpb
    obtain ⟨s1, s2⟩ := zbs_v hpb
    have hpi := zk_pb hk (fA q) (by omega)
    obtain ⟨j, hj⟩ := Int.eq_ofNat_of_zero_le hpi.1
    have hbit := (zpo_bit (P := lp) (f := fA q) (j := j) (by omega) (fA (q + 1) - fA q) (fun y h1 h2 => zk_pb hk y (by omega))).1 ⟨fA q, by omega, by omega, hj⟩
    have hone := s2 j (by omega) hbit
    rw [s1] at c1
    have e := Option.some.inj c1
    show 1 ≤ zbC (zpo lp (fA q) (fA (q + 1) - fA q)) ∧ zbC (zpo lp (fA q) (fA (q + 1) - fA q)) ≤ 6
    omega)
  have st : ∀ (zn : Nat) (i a v : Int) (r : Option Int), 1 ≤ i ∧ i ≤ 6 → fX3_folds t i = some v → fL_sums_L230 zn t x y (a + v) (i + 1) = r → fL_sums_L230 (zn + 1) t x y a i = r := by
    intro zn i a v r hi hf hr
    rw [fL_sums_L230_s]
    exact zno (zLe_f (by omega) (by omega) (by omega)) (zb hf (zlet hr))
  show fL_sums_L230 (99993 + 7) t x y 0 1 = _
  refine st _ 1 0 _ _ (by omega) h1 (st _ 2 _ _ _ (by omega) h2 (st _ 3 _ _ _ (by omega) h3 (st _ 4 _ _ _ (by omega) h4 (st _ 5 _ _ _ (by omega) h5 (st _ 6 _ _ _ (by omega) h6 ?_)))))
  rw [fL_sums_L230_s]
  refine zyes (zLe_t (by omega) (by omega) (by omega)) ?_
  rw [Int.zero_add]
  exact congrArg some hsix
end Sums
theorem LW_sums {t : zXT} {lag dead manner setting W P S : Nat → Int} {n : Nat} {ov late : Int} (h : zH t lag dead manner setting W P S n ov late) : fL_sums t = some 1 := by
  have hv := h.1
  have hl := h.2.1.1.1
  obtain ⟨lw, lp, ls, ml, kn, g, fA, L, E, T, U, G, gR, Fa, hk⟩ := L_link (H_rl h)
  have hb := zk_b hk hv
  have hg := zk_grp hk
  have m2 := LW_m2 hk hv hl g 0 zF (by omega) (by unfold zF; omega)
  rw [hg.2.1] at m2
  have m3 := LW_m3 hk hv (g : Int) (fA g : Int)
  have hp := X_pulses (by omega) hg
  have hx := X_isGroup hk hv (p := (g : Int)) ⟨by omega, by omega⟩
  rw [if_neg (by omega)] at hx
  unfold fL_sums
  obtain ⟨n7, n1, n2, n3, n0, n4, n5, n11, n9⟩ := N_many (t := t)
  rw [hg.1] at n7
  rw [hp] at n9
  refine zb n7 (zb m2 (zb m3 (zyes (zE_t rfl) (zb n9 (zyes (zE_t rfl) (zb (V_having hk hv (Or.inl rfl)) (zyes (zE_t rfl) (zb (V_having hk hv (Or.inr rfl)) (zyes (zE_t rfl) ?_)))))))))
  refine zb n4 (zb n5 (zb n3 (zyes (zE_t (by omega)) (zb n0 (zb n1 (zb n2 (zyes (zE_t (by omega)) ?_)))))))
  refine zb (a := -1) ?_ (zyes (zE_t rfl) rfl)
  unfold fX3_group
  exact zb hx (zyes z00 rfl)
