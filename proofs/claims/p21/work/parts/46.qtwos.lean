/-! ===== PURE: twos ===== -/
theorem zct_same {b : Nat → Bool} {m : Nat} : ∀ k, (∀ i, m ≤ i → i < m + k → b i = false) → zct b (m + k) = zct b m := by
  intro k
  induction k with
  | zero => intro _; rfl
  | succ k ih =>
    intro h
    rw [show m + (k + 1) = (m + k) + 1 from rfl, zct_s, h (m + k) (by omega) (by omega)]
    exact ih (fun i h1 h2 => h i h1 (by omega))
def zsu (f : Nat → Int) : Nat → Int
  | 0 => 0
  | i + 1 => zsu f i + f i
theorem zsu_s (f : Nat → Int) (i : Nat) : zsu f (i + 1) = zsu f i + f i := rfl
def ztw (lw lp : Nat → Int) (b time : Int) (j : Nat) : Bool := decide (lw j = time) && decide (lp j = b)
section QW
variable {t : zXT} {t2 : zMT} {lag dead manner setting W P S : Nat → Int} {n : Nat} {ov : Int} {lw lp ls : Nat → Int} {ml kn g : Nat} {fA : Nat → Nat} {L E T U G : Nat → Int} {gR : Nat} {Fa : Nat → Int}
theorem X_tw1 (hml : ml ≤ 240) (hkn : kn ≤ ml) (hw : ∀ i, i < kn → -100 ≤ lw i ∧ lw i ≤ 30000) (hm : ∀ i j, i ≤ j → j < kn → lw i ≤ lw j) {time : Int} (ht : -1000 ≤ time ∧ time ≤ 40000) {y1 y2 y3 y4 y5 : Int} : ∀ (k i zn : Nat), i + k = zst lw time kn → k < zn → fX2_countApart_L50 zn (zk_R lw lp ls (ml : Int)) y1 y2 y3 (kn : Int) y4 y5 time (i : Int) = some ((zst lw time kn : Nat) : Int) := by
  have hle := zst_le lw time kn
  intro k
  induction k with
  | zero =>
    intro i zn hik hz
    obtain ⟨zn, rfl⟩ : ∃ q, zn = q + 1 := ⟨zn - 1, by omega⟩
    rw [fX2_countApart_L50_s]
    have e : i = zst lw time kn := by omega
    rw [← e]
    by_cases c : i = kn
    · exact zyes (zLe_t (by omega) (by omega) (by omega)) rfl
    · have h1 := zst_after (W := lw) (h := time) (n := kn) (i := i) (by omega) (by omega)
      have h2 := hw i (by omega)
      exact zno (zLe_f (by omega) (by omega) (by omega)) (zhas (ρ := zk_R lw lp ls (ml : Int)) (n := ml) rfl hml (by omega) (zok ⟨by omega, by omega⟩ (zyes (zLe_t (show time ≤ lw i from h1) (by omega) (by show lw i < _; omega)) rfl)))
  | succ k ih =>
    intro i zn hik hz
    obtain ⟨zn, rfl⟩ : ∃ q, zn = q + 1 := ⟨zn - 1, by omega⟩
    rw [fX2_countApart_L50_s]
    have h1 := zst_before_m (h := time) hm (show i < zst lw time kn by omega)
    have h2 := hw i (by omega)
    refine zno (zLe_f (by omega) (by omega) (by omega)) (zhas (ρ := zk_R lw lp ls (ml : Int)) (n := ml) rfl hml (by omega) (zok ⟨by omega, by omega⟩ (zno (zLe_f (show lw i < time from h1) (by show _ ≤ lw i; omega) (by omega)) ?_)))
    rw [zc1]
    exact ih (i + 1) zn (by omega) (by omega)
theorem X_tw2 (hml : ml ≤ 240) (hkn : kn ≤ ml) (hw : ∀ i, i < kn → (-100 ≤ lw i ∧ lw i ≤ 30000) ∧ (0 ≤ lp i ∧ lp i ≤ 5)) (hm : ∀ i j, i ≤ j → j < kn → lw i ≤ lw j) {time b c0 : Int} (ht : -1000 ≤ time ∧ time ≤ 40000) (hb : 0 ≤ b ∧ b ≤ 5) {y1 y3 y4 y5 : Int} : ∀ (k i zn : Nat), i + k = kn → k < zn → zst lw time kn ≤ i → fX2_countApart_L88 zn (zk_R lw lp ls (ml : Int)) y1 b y3 (kn : Int) y4 y5 time (c0 + zct (ztw lw lp b time) i) (i : Int) = some (c0 + zct (ztw lw lp b time) kn) := by
  intro k
  induction k with
  | zero =>
    intro i zn hik hz hs
    obtain ⟨zn, rfl⟩ : ∃ q, zn = q + 1 := ⟨zn - 1, by omega⟩
    rw [fX2_countApart_L88_s]
    have : i = kn := by omega
    subst this
    exact zyes (zLe_t (by omega) (by omega) (by omega)) rfl
  | succ k ih =>
    intro i zn hik hz hs
    obtain ⟨zn, rfl⟩ : ∃ q, zn = q + 1 := ⟨zn - 1, by omega⟩
    rw [fX2_countApart_L88_s]
    have h1 := zst_after (W := lw) (h := time) (n := kn) (i := i) hs (by omega)
    have h2 := hw i (by omega)
    refine zno (zLe_f (by omega) (by omega) (by omega)) (zhas (ρ := zk_R lw lp ls (ml : Int)) (n := ml) rfl hml (by omega) (zok ⟨by omega, by omega⟩ ?_))
    by_cases c : lw i = time
    · refine zyes (zE_t (show lw (Int.toNat (i : Int)) = time by rw [zcN]; exact c)) (zok ⟨by omega, by omega⟩ (zb (a := c0 + zct (ztw lw lp b time) (i + 1)) ?_ ?_))
      · rw [zct_s]
        unfold ztw
        show (if zE (lp (Int.toNat (i : Int))) b then _ else _) = _
        rw [zcN, decide_eq_true c, Bool.true_and]
        by_cases c2 : lp i = b
        · rw [decide_eq_true c2]; exact zyes (zE_t c2) (by rw [if_pos rfl]; congr 1; omega)
        · rw [decide_eq_false c2]; exact zno (zE_f c2 (by omega) (by omega) (by omega) (by omega)) (by rw [if_neg (by decide)])
      · rw [zc1]; exact ih (i + 1) zn (by omega) (by omega) (by omega)
    · refine zno (zE_f (show lw (Int.toNat (i : Int)) ≠ time by rw [zcN]; exact c) (by show _ ≤ lw (Int.toNat (i : Int)); rw [zcN]; omega) (by show lw (Int.toNat (i : Int)) < _; rw [zcN]; omega) (by omega) (by omega)) ?_
      have e := zct_same (b := ztw lw lp b time) (m := i) (k + 1) (fun j j1 j2 => by
        have := hm i j j1 (by omega)
        unfold ztw
        rw [decide_eq_false (show ¬ (lw j = time) by omega), Bool.false_and])
      rw [hik] at e
      rw [e]
theorem X_twos_loop (hml : ml ≤ 240) (hkn : kn ≤ ml) (hw : ∀ i, i < kn → (-100 ≤ lw i ∧ lw i ≤ 30000) ∧ (0 ≤ lp i ∧ lp i ≤ 5)) (hm : ∀ i j, i ≤ j → j < kn → lw i ≤ lw j) {a b d : Int} (ha : 0 ≤ a ∧ a ≤ 5) (hb : 0 ≤ b ∧ b ≤ 5) (hd : -200 ≤ d ∧ d ≤ 200) : ∀ (k i zn o : Nat), i + k = kn → k < zn → (i < kn → o ≤ zst lw (lw i + d) kn) → fX2_countApart_L9 zn (zk_R lw lp ls (ml : Int)) a b d (kn : Int) (zsu (fun i => if lp i = a then zct (ztw lw lp b (lw i + d)) kn else 0) i) (o : Int) (i : Int) = some (zsu (fun i => if lp i = a then zct (ztw lw lp b (lw i + d)) kn else 0) kn) := by
  intro k
  induction k with
  | zero =>
    intro i zn o hik hz ho
    obtain ⟨zn, rfl⟩ : ∃ q, zn = q + 1 := ⟨zn - 1, by omega⟩
    rw [fX2_countApart_L9_s]
    have : i = kn := by omega
    subst this
    exact zyes (zLe_t (by omega) (by omega) (by omega)) rfl
  | succ k ih =>
    intro i zn o hik hz ho
    obtain ⟨zn, rfl⟩ : ∃ q, zn = q + 1 := ⟨zn - 1, by omega⟩
    rw [fX2_countApart_L9_s]
    have ho := ho (by omega)
    have h2 := hw i (by omega)
    have gi : zIn (i : Int) 240 := ⟨by omega, by omega⟩
    have hnext : ∀ x, x ≤ zst lw (lw i + d) kn → (i + 1 < kn → x ≤ zst lw (lw (i + 1) + d) kn) := fun x hx hi => by
      have h3 := hm i (i + 1) (by omega) hi
      have h4 := zst_mono (w := lw) (show lw i + d ≤ lw (i + 1) + d by omega) kn
      omega
    have hzl := zst_le lw (lw i + d) kn
    refine zno (zLe_f (by omega) (by omega) (by omega)) (zhas (ρ := zk_R lw lp ls (ml : Int)) (n := ml) rfl hml (by omega) (zok gi ?_))
    by_cases c : lp i = a
    · have ih := ih (i + 1) zn (zst lw (lw i + d) kn) (by omega) (by omega) (hnext _ (Nat.le_refl _))
      rw [zsu_s, if_pos c] at ih
      have t1 := X_tw1 (lp := lp) (ls := ls) (y1 := a) (y2 := b) (y3 := d) (y4 := zsu (fun i => if lp i = a then zct (ztw lw lp b (lw i + d)) kn else 0) i) (y5 := (i : Int)) hml hkn (fun i hi => (hw i hi).1) hm (time := lw i + d) (by omega) (zst lw (lw i + d) kn - o) o zF (by omega) (by unfold zF; omega)
      have e0 : zct (ztw lw lp b (lw i + d)) (zst lw (lw i + d) kn) = 0 := by
        have := zct_same (b := ztw lw lp b (lw i + d)) (m := 0) (zst lw (lw i + d) kn) (fun j _ j2 => by
          have := zst_before_m (h := lw i + d) hm (show j < zst lw (lw i + d) kn by omega)
          unfold ztw
          rw [decide_eq_false (show ¬ (lw j = lw i + d) by omega), Bool.false_and])
        rw [Nat.zero_add] at this
        exact this
      have t2 := X_tw2 (ls := ls) (y1 := a) (y3 := d) (y4 := ((zst lw (lw i + d) kn : Nat) : Int)) (y5 := (i : Int)) (c0 := zsu (fun i => if lp i = a then zct (ztw lw lp b (lw i + d)) kn else 0) i) hml hkn hw hm (time := lw i + d) (b := b) (by omega) hb (kn - zst lw (lw i + d) kn) (zst lw (lw i + d) kn) zF (by omega) (by unfold zF; omega) (Nat.le_refl _)
      rw [e0, Int.add_zero] at t2
      refine zb (a := (zsu (fun i => if lp i = a then zct (ztw lw lp b (lw i + d)) kn else 0) i + zct (ztw lw lp b (lw i + d)) kn, ((zst lw (lw i + d) kn : Nat) : Int))) (zyes (zE_t (show lp (Int.toNat (i : Int)) = a by rw [zcN]; exact c)) (zok gi (zlet ?_))) ih
      show Option.bind (fX2_countApart_L50 zF (zk_R lw lp ls (ml : Int)) a b d (kn : Int) _ (i : Int) (lw (Int.toNat (i : Int)) + d) (o : Int)) _ = _
      rw [zcN]
      exact zb t1 (zb t2 rfl)
    · have ih := ih (i + 1) zn o (by omega) (by omega) (hnext _ ho)
      rw [zsu_s, if_neg c, Int.add_zero] at ih
      exact zb (zno (zE_f (show lp (Int.toNat (i : Int)) ≠ a by rw [zcN]; exact c) (by show _ ≤ lp (Int.toNat (i : Int)); rw [zcN]; omega) (by show lp (Int.toNat (i : Int)) < _; rw [zcN]; omega) (by omega) (by omega)) rfl) ih
end QW
