/-! ===== PURE: counts of live ones; ofPlane ===== -/
theorem zct_congr {b b' : Nat → Bool} : ∀ n, (∀ i, i < n → b i = b' i) → zct b n = zct b' n := by
  intro n
  induction n with
  | zero => intro _; rfl
  | succ n ih =>
    intro h
    rw [zct_s, zct_s, h n (by omega), ih (fun i hi => h i (by omega))]
theorem zct_b (b : Nat → Bool) : ∀ n : Nat, 0 ≤ zct b n ∧ zct b n ≤ (n : Int) := by
  intro n
  induction n with
  | zero => exact ⟨Int.le_refl _, Int.le_refl _⟩
  | succ n ih =>
    rw [zct_s]
    split <;> omega
theorem zct_split (b c : Nat → Bool) : ∀ n, zct b n = zct (fun i => b i && c i) n + zct (fun i => b i && !(c i)) n := by
  intro n
  induction n with
  | zero => rfl
  | succ n ih =>
    rw [zct_s, zct_s, zct_s]
    cases hb : b n <;> cases hc : c n <;> simp <;> omega
theorem zrl_count (w p s : Nat → Int) (q : Int → Bool) : ∀ n, (((zrl w p s n).countP (fun a => q a.2.1) : Nat) : Int) = zct (fun i => q (p i)) n := by
  intro n
  induction n with
  | zero => rfl
  | succ n ih =>
    rw [zrl_succ, List.countP_append, zct_s, ← ih]
    cases hq : q (p n) <;> simp [hq]
theorem zLR_count {lag dead manner W P S : Nat → Int} (q : Int → Bool) : ∀ x, (∀ i, i < x → W i - lag (P i).toNat < 100000) → (((zLR lag dead manner W P S x).countP (fun a => q a.2.1) : Nat) : Int) = zct (fun i => q (P i) && zlv W P dead manner i) x := by
  intro x
  induction x with
  | zero => intro _; rfl
  | succ x ih =>
    intro h
    have ih := ih (fun i hi => h i (by omega))
    have hx := h x (by omega)
    rw [zct_s, ← ih]
    unfold zLR
    rw [zSR]
    by_cases c : zlv W P dead manner x = true
    · rw [if_pos ⟨c, hx⟩, (zins_perm _ _).countP_eq, List.countP_cons]
      cases hq : q (P x) <;> simp [c, hq]
    · rw [if_neg (fun z => c z.1)]
      simp [c]
theorem zlive_count {lag dead manner setting W P S : Nat → Int} {n : Nat} {ov : Int} (hv : zVal lag dead manner setting W P S n ov) {lw lp ls : Nat → Int} {ml x : Nat} (hx : x ≤ n) (hr : zrl lw lp ls ml = zLR lag dead manner W P S x) (q : Int → Bool) : zct (fun i => q (lp i)) ml = zct (fun i => q (P i) && zlv W P dead manner i) x := by
  rw [← zrl_count lw lp ls q ml, hr]
  exact zLR_count q x (fun i hi => by
    have h1 := (hv.2.1.2.1 i (by omega)).1
    have h2 := zlag_b hv (i := i) (by omega)
    omega)
theorem R_count_loop {ρ : zRowT} {e sz : Nat} (hs : zr_size ρ = (sz : Int)) (hsz : sz ≤ 240) (he : e ≤ sz) (hp : ∀ i, i < e → 0 ≤ zr_plane ρ i ∧ zr_plane ρ i ≤ 5) {j : Int} (hj : 0 ≤ j ∧ j ≤ 5) : ∀ (k i zn : Nat), i + k = e → k < zn → fX2_countOf_L5 zn ρ j (e : Int) (zct (fun i => decide (zr_plane ρ i = j)) i) (i : Int) = some (zct (fun i => decide (zr_plane ρ i = j)) e) := by
  intro k
  induction k with
  | zero =>
    intro i zn hik hz
    obtain ⟨zn, rfl⟩ : ∃ q, zn = q + 1 := ⟨zn - 1, by omega⟩
    rw [fX2_countOf_L5_s]
    have : i = e := by omega
    subst this
    exact zyes (zLe_t (by omega) (by omega) (by omega)) rfl
  | succ k ih =>
    intro i zn hik hz
    obtain ⟨zn, rfl⟩ : ∃ q, zn = q + 1 := ⟨zn - 1, by omega⟩
    rw [fX2_countOf_L5_s]
    have hpi := hp i (by omega)
    refine zno (zLe_f (by omega) (by omega) (by omega)) (zhas hs hsz (by omega) (zok ⟨by omega, by omega⟩ ?_))
    rw [zcN, zc1]
    refine zb (a := zct (fun i => decide (zr_plane ρ i = j)) (i + 1)) ?_ (ih (i + 1) zn (by omega) (by omega))
    rw [zct_s]
    by_cases c : zr_plane ρ i = j
    · rw [if_pos (decide_eq_true c)]; exact zyes (zE_t c) rfl
    · rw [if_neg (fun z => c (of_decide_eq_true z))]; exact zno (zE_f c (by omega) (by omega) (by omega) (by omega)) rfl
theorem R_count {ρ : zRowT} {e sz : Nat} (hs : zr_size ρ = (sz : Int)) (hsz : sz ≤ 240) (he : e ≤ sz) (hp : ∀ i, i < e → 0 ≤ zr_plane ρ i ∧ zr_plane ρ i ≤ 5) {j : Int} (hj : 0 ≤ j ∧ j ≤ 5) : fX2_countOf ρ j (e : Int) = some (zct (fun i => decide (zr_plane ρ i = j)) e) := by
  unfold fX2_countOf
  exact zb (R_count_loop hs hsz he hp hj e 0 zF (by omega) (by unfold zF; omega)) rfl
section QP
variable {lag dead manner setting W P S : Nat → Int} {n : Nat} {ov : Int}
theorem M_kept_loop {t : zMT} (h : zCM t lag dead manner setting W P S n ov) (hv : zVal lag dead manner setting W P S n ov) {j : Int} (hj : 0 ≤ j ∧ j ≤ 5) : ∀ (k i zn : Nat), i + k = n → k < zn → fX4_keptOf_L4 zn t j (zct (fun i => decide (P i = j)) i) (i : Int) = some (zct (fun i => decide (P i = j)) n) := by
  have hn := hv.2.1.1
  intro k
  induction k with
  | zero =>
    intro i zn hik hz
    obtain ⟨zn, rfl⟩ : ∃ q, zn = q + 1 := ⟨zn - 1, by omega⟩
    rw [fX4_keptOf_L4_s, h.2.2.2.2.1]
    have : i = n := by omega
    subst this
    exact zyes (zLe_t (by omega) (by omega) (by omega)) rfl
  | succ k ih =>
    intro i zn hik hz
    obtain ⟨zn, rfl⟩ : ∃ q, zn = q + 1 := ⟨zn - 1, by omega⟩
    rw [fX4_keptOf_L4_s, h.2.2.2.2.1, h.2.2.2.2.2.1]
    have hpi := (hv.2.1.2.1 i (by omega)).2.1
    refine zno (zLe_f (by omega) (by omega) (by omega)) (zok ⟨by omega, by omega⟩ ?_)
    rw [zcN, zc1]
    refine zb (a := if decide (P i = j) = true then 1 else 0) ?_ (zlet ?_)
    · by_cases c : P i = j
      · rw [if_pos (decide_eq_true c)]; exact zyes (zE_t c) rfl
      · rw [if_neg (fun z => c (of_decide_eq_true z))]; exact zno (zE_f c (by omega) (by omega) (by omega) (by omega)) rfl
    · rw [zct_add (fun i => decide (P i = j)) i]
      exact ih (i + 1) zn (by omega) (by omega)
theorem M_kept {t : zMT} (h : zCM t lag dead manner setting W P S n ov) (hv : zVal lag dead manner setting W P S n ov) {j : Int} (hj : 0 ≤ j ∧ j ≤ 5) : fX4_keptOf t j = some (zct (fun i => decide (P i = j)) n) := by
  have hn := hv.2.1.1
  unfold fX4_keptOf
  exact zb (M_kept_loop h hv hj n 0 zF (by omega) (by unfold zF; omega)) rfl
def zml1 (W P dead manner : Nat → Int) (j w : Int) (i : Nat) : Bool := (decide (j = -9) || decide (P i = j)) && decide ((if zlv W P dead manner i = true then (1 : Int) else 0) = w)
theorem M_manyLive_loop {t : zMT} (h : zCM t lag dead manner setting W P S n ov) (hv : zVal lag dead manner setting W P S n ov) {j w : Int} (hj : j = -9 ∨ (0 ≤ j ∧ j ≤ 5)) (hw : 0 ≤ w ∧ w ≤ 1) {L E : Nat → Int} {x : Nat} (hx : x ≤ n) (hL : ∀ i, i < x → L i = if zlv W P dead manner i = true then 1 else 0) : ∀ (k i zn : Nat), i + k = x → k < zn → fX4_manyLive_L15 zn t j w (x : Int) L E (zct (zml1 W P dead manner j w) i) (i : Int) = some (zct (zml1 W P dead manner j w) x) := by
  have hn := hv.2.1.1
  intro k
  induction k with
  | zero =>
    intro i zn hik hz
    obtain ⟨zn, rfl⟩ : ∃ q, zn = q + 1 := ⟨zn - 1, by omega⟩
    rw [fX4_manyLive_L15_s]
    have : i = x := by omega
    subst this
    exact zyes (zLe_t (by omega) (by omega) (by omega)) rfl
  | succ k ih =>
    intro i zn hik hz
    obtain ⟨zn, rfl⟩ : ∃ q, zn = q + 1 := ⟨zn - 1, by omega⟩
    rw [fX4_manyLive_L15_s, h.2.2.2.2.2.1]
    have hpi := (hv.2.1.2.1 i (by omega)).2.1
    have hLi := hL i (by omega)
    have hLb : 0 ≤ L i ∧ L i ≤ 1 := by rw [hLi]; split <;> omega
    have g1 : zIn (i : Int) 240 := ⟨by omega, by omega⟩
    have g2 : zIn (i : Int) 241 := ⟨by omega, by omega⟩
    have hsub : (if zE (L i) w then some (1 : Int) else some 0) = some (if decide (L i = w) = true then 1 else 0) := by
      by_cases c : L i = w
      · rw [decide_eq_true c]; exact zyes (zE_t c) rfl
      · rw [decide_eq_false c]; exact zno (zE_f c (by omega) (by omega) (by omega) (by omega)) rfl
    refine zno (zLe_f (by omega) (by omega) (by omega)) ?_
    rw [zcN, zc1]
    refine zb (a := if zml1 W P dead manner j w i = true then 1 else 0) ?_ (zlet ?_)
    · unfold zml1
      rw [← hLi]
      by_cases c : j = -9
      · refine zyes (zE_t c) (zok g1 ?_)
        rw [hsub, decide_eq_true c, Bool.true_or, Bool.true_and]
      · refine zno (zE_f c (by omega) (by omega) (by omega) (by omega)) (zok g2 ?_)
        rw [decide_eq_false c, Bool.false_or]
        by_cases c2 : P i = j
        · refine zyes (zE_t c2) (zok g1 ?_)
          rw [hsub, decide_eq_true c2, Bool.true_and]
        · rw [decide_eq_false c2, Bool.false_and]
          exact zno (zE_f c2 (by omega) (by omega) (by omega) (by omega)) rfl
    · rw [zct_add (zml1 W P dead manner j w) i]
      exact ih (i + 1) zn (by omega) (by omega)
theorem M_manyLive {t : zMT} (h : zCM t lag dead manner setting W P S n ov) (hv : zVal lag dead manner setting W P S n ov) {j w : Int} (hj : j = -9 ∨ (0 ≤ j ∧ j ≤ 5)) (hw : 0 ≤ w ∧ w ≤ 1) : ∃ L E, fX4_manyLive t j w = some (zct (zml1 W P dead manner j w) (zst W (zhor (setting 0) W n ov) n), L, E) := by
  have hn := hv.2.1.1
  have hx := zst_le W (zhor (setting 0) W n ov) n
  obtain ⟨L, E, a1, a2⟩ := M_findLive h hv
  refine ⟨L, E, ?_⟩
  unfold fX4_manyLive
  refine zb a1 ?_
  refine zb (M_settled (show zCM _ lag dead manner setting W P S n ov from h) hv) ?_
  exact zb (M_manyLive_loop h hv hj hw hx a2 _ 0 zF (Nat.zero_add _) (by unfold zF; omega)) rfl
end QP
