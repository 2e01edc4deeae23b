/-! ===== PURE: having, folds, coincidences ===== -/
section QC
variable {t : zXT} {t2 : zMT} {lag dead manner setting W P S : Nat → Int} {n : Nat} {ov : Int} {lw lp ls : Nat → Int} {ml kn g : Nat} {fA : Nat → Nat} {L E T U G : Nat → Int} {gR : Nat} {Fa : Nat → Int}
/-- a count up to i of those that meet a test -/
def zct (b : Nat → Bool) : Nat → Int
  | 0 => 0
  | i + 1 => if b i = true then zct b i + 1 else zct b i
theorem zct_s (b : Nat → Bool) (i : Nat) : zct b (i + 1) = if b i = true then zct b i + 1 else zct b i := rfl
theorem zset_b (hk : zLk t t2 lag dead manner setting W P S n ov lw lp ls ml kn g fA L E T U G gR Fa) {q : Nat} (hq : q < g) : 0 ≤ zpo lp (fA q) (fA (q + 1) - fA q) ∧ zpo lp (fA q) (fA (q + 1) - fA q) ≤ 63 := by
  have hgr := zk_gr hk q hq
  have h1 := hgr.1
  have h2 := hgr.2.1
  exact zpo_b _ (fun i _ _ => zk_pb hk i (by have := zk_kle hk; omega))
theorem zand_b : ∀ x : Fin 64, ∀ y : Fin 64, 0 ≤ zand ((x.val : Nat) : Int) ((y.val : Nat) : Int) ∧ zand ((x.val : Nat) : Int) ((y.val : Nat) : Int) ≤ 63 := by decide +kernel
theorem zand_bb {x y : Int} (hx : 0 ≤ x ∧ x ≤ 63) (hy : 0 ≤ y ∧ y ≤ 63) : 0 ≤ zand x y ∧ zand x y ≤ 63 := by
  obtain ⟨a, rfl⟩ := Int.eq_ofNat_of_zero_le hx.1
  obtain ⟨b, rfl⟩ := Int.eq_ofNat_of_zero_le hy.1
  exact zand_b ⟨a, by omega⟩ ⟨b, by omega⟩
def zhv (set how v : Int) : Bool := if how = 0 then decide (v = set) else if how = 1 then decide (zand v set = set) else decide (zand v set = 0)
theorem X_having_loop (hk : zLk t t2 lag dead manner setting W P S n ov lw lp ls ml kn g fA L E T U G gR Fa) (hv : zVal lag dead manner setting W P S n ov) {set how : Int} (hs : 0 ≤ set ∧ set ≤ 63) (hh : 0 ≤ how ∧ how ≤ 2) : ∀ (k i zn : Nat), i + k = g → k < zn → fX3_having_L27 zn t set how (zct (fun q => zhv set how (zpo lp (fA q) (fA (q + 1) - fA q))) i) (i : Int) = some (zct (fun q => zhv set how (zpo lp (fA q) (fA (q + 1) - fA q))) g) := by
  have hb := zk_b hk hv
  have hgx := (zk_grp hk).2.2.2
  intro k
  induction k with
  | zero =>
    intro i zn hik hz
    obtain ⟨zn, rfl⟩ : ∃ q, zn = q + 1 := ⟨zn - 1, by omega⟩
    rw [fX3_having_L27_s, (zk_grp hk).1]
    have : i = g := by omega
    subst this
    exact zyes (zLe_t (by omega) (by omega) (by omega)) rfl
  | succ k ih =>
    intro i zn hik hz
    obtain ⟨zn, rfl⟩ : ∃ q, zn = q + 1 := ⟨zn - 1, by omega⟩
    rw [fX3_having_L27_s, (zk_grp hk).1]
    have hset := (hgx.2 i (by omega)).2.2.1
    have hvb := zset_b hk (q := i) (by omega)
    have hab := zand_bb hvb hs
    have gi : zIn (i : Int) 240 := ⟨by omega, by omega⟩
    refine zno (zLe_f (by omega) (by omega) (by omega)) (zok gi (zlet ?_))
    rw [zcN, hset, zc1]
    refine zb (a := if zhv set how (zpo lp (fA i) (fA (i + 1) - fA i)) = true then 1 else 0) ?_ ?_
    · unfold zhv
      by_cases d0 : how = 0
      · rw [if_pos d0]
        refine zyes (zE_t d0) (zok gi ?_)
        by_cases c : zpo lp (fA i) (fA (i + 1) - fA i) = set
        · exact zyes (zE_t c) (by simp [c])
        · exact zno (zE_f c (by omega) (by omega) (by omega) (by omega)) (by simp [c])
      · rw [if_neg d0]
        refine zno (zE_f d0 (by omega) (by omega) (by omega) (by omega)) ?_
        by_cases d1 : how = 1
        · rw [if_pos d1]
          refine zb (zyes (zE_t d1) rfl) ?_
          by_cases c : zand (zpo lp (fA i) (fA (i + 1) - fA i)) set = set
          · exact zyes (zE_t c) (by simp [c])
          · exact zno (zE_f c (by omega) (by omega) (by omega) (by omega)) (by simp [c])
        · rw [if_neg d1]
          refine zb (zno (zE_f d1 (by omega) (by omega) (by omega) (by omega)) rfl) ?_
          by_cases c : zand (zpo lp (fA i) (fA (i + 1) - fA i)) set = 0
          · exact zyes (zE_t c) (by simp [c])
          · exact zno (zE_f c (by omega) (by omega) (by omega) (by omega)) (by simp [c])
    · refine zb (a := zct (fun q => zhv set how (zpo lp (fA q) (fA (q + 1) - fA q))) (i + 1)) ?_ (ih (i + 1) zn (by omega) (by omega))
      rw [zct_s]
      by_cases c : zhv set how (zpo lp (fA i) (fA (i + 1) - fA i)) = true
      · simp only [c, if_true]; exact zno z10 rfl
      · simp only [c, if_false, Bool.false_eq_true]; exact zyes trivial rfl
theorem M_having_loop (hk : zLk t t2 lag dead manner setting W P S n ov lw lp ls ml kn g fA L E T U G gR Fa) (hv : zVal lag dead manner setting W P S n ov) (hM : zCM t2 lag dead manner setting W P S n ov) {set how : Int} (hs : 0 ≤ set ∧ set ≤ 63) (hh : 0 ≤ how ∧ how ≤ 2) : ∀ (k i zn : Nat), i + k = g → k < zn → fX4_having_L33 zn t2 set how L E (kn : Int) T U G (gR : Int) (g : Int) Fa (zct (fun q => zhv set how (zpo lp (fA q) (fA (q + 1) - fA q))) i) (i : Int) = some (zct (fun q => zhv set how (zpo lp (fA q) (fA (q + 1) - fA q))) g) := by
  have hb := zk_b hk hv
  intro k
  induction k with
  | zero =>
    intro i zn hik hz
    obtain ⟨zn, rfl⟩ : ∃ q, zn = q + 1 := ⟨zn - 1, by omega⟩
    rw [fX4_having_L33_s]
    have : i = g := by omega
    subst this
    exact zyes (zLe_t (by omega) (by omega) (by omega)) rfl
  | succ k ih =>
    intro i zn hik hz
    obtain ⟨zn, rfl⟩ : ∃ q, zn = q + 1 := ⟨zn - 1, by omega⟩
    rw [fX4_having_L33_s]
    have hvb := zset_b hk (q := i) (by omega)
    have hab := zand_bb hvb hs
    refine zno (zLe_f (by omega) (by omega) (by omega)) (zb (M_set_q hk hv hM (q := i) (by omega)) ?_)
    refine zb (a := if zhv set how (zpo lp (fA i) (fA (i + 1) - fA i)) = true then 1 else 0) ?_ ?_
    · unfold zhv
      by_cases d0 : how = 0
      · rw [if_pos d0]
        refine zyes (zE_t d0) ?_
        by_cases c : zpo lp (fA i) (fA (i + 1) - fA i) = set
        · exact zyes (zE_t c) (by simp [c])
        · exact zno (zE_f c (by omega) (by omega) (by omega) (by omega)) (by simp [c])
      · rw [if_neg d0]
        refine zno (zE_f d0 (by omega) (by omega) (by omega) (by omega)) ?_
        by_cases d1 : how = 1
        · rw [if_pos d1]
          refine zyes (zE_t d1) ?_
          by_cases c : zand (zpo lp (fA i) (fA (i + 1) - fA i)) set = set
          · exact zyes (zE_t c) (by simp [c])
          · exact zno (zE_f c (by omega) (by omega) (by omega) (by omega)) (by simp [c])
        · rw [if_neg d1]
          refine zno (zE_f d1 (by omega) (by omega) (by omega) (by omega)) ?_
          by_cases c : zand (zpo lp (fA i) (fA (i + 1) - fA i)) set = 0
          · exact zyes (zE_t c) (by simp [c])
          · exact zno (zE_f c (by omega) (by omega) (by omega) (by omega)) (by simp [c])
    · refine zb (a := if zhv set how (zpo lp (fA i) (fA (i + 1) - fA i)) = true then 1 else 0) ?_ (zlet ?_)
      · by_cases c : zhv set how (zpo lp (fA i) (fA (i + 1) - fA i)) = true
        · simp only [c, if_true]; exact zno z10 rfl
        · simp only [c, if_false, Bool.false_eq_true]; exact zyes trivial rfl
      · have e : zct (fun q => zhv set how (zpo lp (fA q) (fA (q + 1) - fA q))) i + (if zhv set how (zpo lp (fA i) (fA (i + 1) - fA i)) = true then 1 else 0) = zct (fun q => zhv set how (zpo lp (fA q) (fA (q + 1) - fA q))) (i + 1) := by
          rw [zct_s]
          by_cases c : zhv set how (zpo lp (fA i) (fA (i + 1) - fA i)) = true
          · simp only [c, if_true]
          · simp only [c, if_false, Bool.false_eq_true]; exact Int.add_zero _
        rw [e]
        exact ih (i + 1) zn (by omega) (by omega)
theorem L_having (h : zRel t t2) {p1 p2 : Int} (r1 : zR p1) (r2 : zR p2) : ∃ a r, fX3_having t p1 p2 = some a ∧ fX4_having t2 p1 p2 = some (a, r) := by
  obtain ⟨lag, dead, manner, setting, W, P, S, n, ov, hl⟩ := h
  obtain ⟨lw, lp, ls, ml, kn, g, fA, L, E, T, U, G, gR, Fa, hk⟩ := L_link hl
  have hv := hl.1
  have hM := hl.2.2.1
  have hb := zk_b hk hv
  unfold fX3_having fX4_having
  by_cases c1 : 0 ≤ p1 ∧ p1 ≤ 63
  case neg => exact ⟨-2, ((zm_isLive t2), (zm_endOf t2), (zm_known t2), (zm_timeOf t2), (zm_pulseOf t2), (zm_groupOf t2), (zm_groups t2), (zm_shut t2), (zm_firstOf t2)), zb (W3f r1 c1 (by omega) (by omega)) (zyes z00 rfl), zb (W4f r1 c1 (by omega) (by omega)) (zyes z00 rfl)⟩
  by_cases c2 : 0 ≤ p2 ∧ p2 ≤ 2
  case neg => exact ⟨-2, ((zm_isLive t2), (zm_endOf t2), (zm_known t2), (zm_timeOf t2), (zm_pulseOf t2), (zm_groupOf t2), (zm_groups t2), (zm_shut t2), (zm_firstOf t2)), zb (W3t r1 c1 (by omega) (by omega)) (zno z10 (zb (W3f r2 c2 (by omega) (by omega)) (zyes z00 rfl))), zb (W4t r1 c1 (by omega) (by omega)) (zno z10 (zb (W4f r2 c2 (by omega) (by omega)) (zyes z00 rfl)))⟩
  have x := X_having_loop hk hv c1 c2 g 0 zF (by omega) (by unfold zF; omega)
  have m := M_having_loop hk hv hM c1 c2 g 0 zF (by omega) (by unfold zF; omega)
  exact ⟨_, zSc L E kn T U G gR g Fa, zb (W3t r1 c1 (by omega) (by omega)) (zno z10 (zb (W3t r2 c2 (by omega) (by omega)) (zno z10 (zb x rfl)))), zb (W4t r1 c1 (by omega) (by omega)) (zno z10 (zb (W4t r2 c2 (by omega) (by omega)) (zno z10 (zb (zk_fnd hk) (zb m rfl)))))⟩
end QC
