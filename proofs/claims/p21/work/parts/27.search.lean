/-! ===== PURE: the class: the search of the best line ===== -/
def zds (s : Nat → Int) (a b : Int) (k : Nat) : Int := if 0 ≤ a + b * (k : Int) - s k then a + b * (k : Int) - s k else 0 - (a + b * (k : Int) - s k)
def zht (s : Nat → Int) (c a b : Int) (k : Nat) : Bool := decide (s k ≠ -9 ∧ zds s a b k ≤ c)
def zsO (h : Nat → Bool) : Nat → Int
  | 0 => 0
  | k + 1 => if h k = true then zor (zsO h k) (zshl 1 (k : Int)) else zsO h k
def zsC (h : Nat → Bool) : Nat → Int
  | 0 => 0
  | k + 1 => if h k = true then zsC h k + 1 else zsC h k
def zsM (h : Nat → Bool) (d : Nat → Int) : Nat → Int
  | 0 => 0
  | k + 1 => if h k = true then zsM h d k + d k else zsM h d k
theorem zsO_s (h : Nat → Bool) (k : Nat) : zsO h (k + 1) = if h k = true then zor (zsO h k) (zshl 1 (k : Int)) else zsO h k := rfl
theorem zsC_s (h : Nat → Bool) (k : Nat) : zsC h (k + 1) = if h k = true then zsC h k + 1 else zsC h k := rfl
theorem zsM_s (h : Nat → Bool) (d : Nat → Int) (k : Nat) : zsM h d (k + 1) = if h k = true then zsM h d k + d k else zsM h d k := rfl
def zb6 (b0 b1 b2 b3 b4 b5 : Bool) (k : Nat) : Bool := [b0, b1, b2, b3, b4, b5].getD k false
theorem zsO_congr {h h' : Nat → Bool} : ∀ {n : Nat}, (∀ k, k < n → h k = h' k) → zsO h n = zsO h' n ∧ zsC h n = zsC h' n := by
  intro n
  induction n with
  | zero => intro _; exact ⟨rfl, rfl⟩
  | succ n ih =>
    intro e
    obtain ⟨h1, h2⟩ := ih (fun k hk => e k (by omega))
    rw [zsO_s, zsC_s, zsO_s, zsC_s, e n (by omega), h1, h2]
    exact ⟨rfl, rfl⟩
theorem zsb6 : ∀ b0 b1 b2 b3 b4 b5 : Bool, fJ6_bitCount_0f7a4 (zsO (zb6 b0 b1 b2 b3 b4 b5) 6) = some (zsC (zb6 b0 b1 b2 b3 b4 b5) 6) ∧ (0 ≤ zsO (zb6 b0 b1 b2 b3 b4 b5) 6 ∧ zsO (zb6 b0 b1 b2 b3 b4 b5) 6 ≤ 63) ∧ (0 ≤ zsC (zb6 b0 b1 b2 b3 b4 b5) 6 ∧ zsC (zb6 b0 b1 b2 b3 b4 b5) 6 ≤ 6) ∧ (zsO (zb6 b0 b1 b2 b3 b4 b5) 6 = 0 ↔ zsC (zb6 b0 b1 b2 b3 b4 b5) 6 = 0) := by decide +kernel
theorem zsb (h : Nat → Bool) : fJ6_bitCount_0f7a4 (zsO h 6) = some (zsC h 6) ∧ (0 ≤ zsO h 6 ∧ zsO h 6 ≤ 63) ∧ (0 ≤ zsC h 6 ∧ zsC h 6 ≤ 6) ∧ (zsO h 6 = 0 ↔ zsC h 6 = 0) := by
  have e : ∀ k, k < 6 → h k = zb6 (h 0) (h 1) (h 2) (h 3) (h 4) (h 5) k := by
    intro k hk
    match k, hk with
    | 0, _ => rfl
    | 1, _ => rfl
    | 2, _ => rfl
    | 3, _ => rfl
    | 4, _ => rfl
    | 5, _ => rfl
    | k + 6, hk => omega
  obtain ⟨e1, e2⟩ := zsO_congr e
  rw [e1, e2]
  exact zsb6 _ _ _ _ _ _
theorem zsM_b {h : Nat → Bool} {d : Nat → Int} {c : Int} : ∀ {n : Nat}, (∀ k, k < n → h k = true → 0 ≤ d k ∧ d k ≤ c) → 0 ≤ zsC h n ∧ 0 ≤ zsM h d n ∧ (zsC h n = 0 → zsM h d n = 0) ∧ zsM h d n ≤ c * zsC h n := by
  intro n
  induction n with
  | zero => intro _; exact ⟨Int.le_refl _, Int.le_refl _, fun _ => rfl, by show (0 : Int) ≤ c * 0; omega⟩
  | succ n ih =>
    intro e
    obtain ⟨h0, h1, h2, h3⟩ := ih (fun k hk => e k (by omega))
    rw [zsC_s, zsM_s]
    by_cases hc : h n = true
    · have := e n (by omega) hc
      rw [if_pos hc, if_pos hc]
      refine ⟨by omega, by omega, fun z => by omega, ?_⟩
      rw [Int.mul_add]; omega
    · rw [if_neg hc, if_neg hc]
      exact ⟨h0, h1, h2, h3⟩
def zStr (s : Nat → Int) : Prop := ∀ k, k < 6 → s k = -9 ∨ (0 ≤ s k ∧ s k ≤ 15)
theorem zmulb {b : Int} {k : Nat} (hb : -3 ≤ b ∧ b ≤ 3) (hk : k < 6) : -15 ≤ b * (k : Int) ∧ b * (k : Int) ≤ 15 := by
  have h : b = -3 ∨ b = -2 ∨ b = -1 ∨ b = 0 ∨ b = 1 ∨ b = 2 ∨ b = 3 := by omega
  rcases h with rfl | rfl | rfl | rfl | rfl | rfl | rfl <;> omega
theorem zds_b {s : Nat → Int} {a b : Int} {k : Nat} (hs : zStr s) (hk : k < 6) (ha : 0 ≤ a ∧ a ≤ 15) (hb : -3 ≤ b ∧ b ≤ 3) : (-100 ≤ a + b * (k : Int) - s k ∧ a + b * (k : Int) - s k ≤ 100) ∧ 0 ≤ zds s a b k ∧ zds s a b k ≤ 100 := by
  have h1 := zmulb hb hk
  have h2 := hs k hk
  unfold zds
  split <;> omega
theorem X_weigh_loop {t : zLsT} {s : Nat → Int} {a b c : Int} (hs : zStr s) (hts : ∀ k, k < 6 → zs_strips t k = s k) (ha : 0 ≤ a ∧ a ≤ 15) (hb : -3 ≤ b ∧ b ≤ 3) (hc : 0 ≤ c ∧ c ≤ 3) : ∀ (k i zn : Nat), i + k = 6 → k < zn → fX1_weigh_L9 zn t a b c (zsO (zht s c a b) i) (zsM (zht s c a b) (zds s a b) i) (i : Int) = some (zsO (zht s c a b) 6, zsM (zht s c a b) (zds s a b) 6) := by
  intro k
  induction k with
  | zero =>
    intro i zn hik hz
    obtain ⟨zn, rfl⟩ : ∃ q, zn = q + 1 := ⟨zn - 1, by omega⟩
    rw [fX1_weigh_L9_s]
    have : i = 6 := by omega
    subst this
    exact zyes (zLe_t (by omega) (by omega) (by omega)) rfl
  | succ k ih =>
    intro i zn hik hz
    obtain ⟨zn, rfl⟩ : ∃ q, zn = q + 1 := ⟨zn - 1, by omega⟩
    rw [fX1_weigh_L9_s]
    have g : zIn (i : Int) 6 := ⟨by omega, by omega⟩
    have ih := ih (i + 1) zn (by omega) (by omega)
    have hd := zds_b (k := i) hs (by omega) ha hb
    have hsi := hs i (by omega)
    refine zno (zLe_f (by omega) (by omega) (by omega)) (zok g ?_)
    rw [zcN, hts i (by omega), zc1]
    refine zb (a := (zsO (zht s c a b) (i + 1), zsM (zht s c a b) (zds s a b) (i + 1))) ?_ ih
    by_cases h9 : s i = -9
    · have e : ¬ (zht s c a b i = true) := fun z => (of_decide_eq_true z).1 h9
      refine zyes (zE_t h9) ?_
      rw [zsO_s, zsM_s, if_neg e, if_neg e]
    · have ez : zabs (a + b * (i : Int) - s i) = zds s a b i := by
        unfold zabs zds
        by_cases hz : 0 ≤ a + b * (i : Int) - s i
        · rw [if_pos hz, if_pos (zLe_t hz (by omega) (by omega))]
        · rw [if_neg hz, if_neg (zLe_f (by omega) (by omega) (by omega))]
      refine zno (zE_f h9 (by omega) (by omega) (by omega) (by omega)) (zok g (zlet ?_))
      rw [ez]
      rw [zsO_s, zsM_s]
      by_cases hh : zds s a b i ≤ c
      · have e : zht s c a b i = true := decide_eq_true ⟨h9, hh⟩
        rw [if_pos e, if_pos e]
        exact zyes (zLe_t hh (by omega) (by omega)) (zlet (zlet rfl))
      · have e : ¬ (zht s c a b i = true) := fun z => hh (of_decide_eq_true z).2
        rw [if_neg e, if_neg e]
        exact zno (zLe_f (by omega) (by omega) (by omega)) rfl
def zqA (q : Nat) : Int := ((q % 16 : Nat) : Int)
def zqB (q : Nat) : Int := zS0 (q / 16)
def zqh (s : Nat → Int) (c : Int) (q : Nat) : Nat → Bool := zht s c (zqA q) (zqB q)
def zqC (s : Nat → Int) (c : Int) (q : Nat) : Int := zsC (zqh s c q) 6
def zqO (s : Nat → Int) (c : Int) (q : Nat) : Int := zsO (zqh s c q) 6
def zqM (s : Nat → Int) (c : Int) (q : Nat) : Int := zsM (zqh s c q) (zds s (zqA q) (zqB q)) 6
def zqK (s : Nat → Int) (c : Int) (q : Nat) : Int := (6 - zqC s c q) * 112000 + zqM s c q * 112 + (q : Int)
theorem zS0_b (r : Nat) : -3 ≤ zS0 r ∧ zS0 r ≤ 3 := by
  match r with
  | 0 => decide
  | 1 => decide
  | 2 => decide
  | 3 => decide
  | 4 => decide
  | 5 => decide
  | 6 => decide
  | r + 7 => exact ⟨by show (-3 : Int) ≤ 0; omega, by show (0 : Int) ≤ 3; omega⟩
theorem zqA_b (q : Nat) : 0 ≤ zqA q ∧ zqA q ≤ 15 := by unfold zqA; omega
theorem zqM_b {s : Nat → Int} {c : Int} (hs : zStr s) (hc : 0 ≤ c ∧ c ≤ 3) (q : Nat) : (0 ≤ zqC s c q ∧ zqC s c q ≤ 6) ∧ (0 ≤ zqM s c q ∧ zqM s c q ≤ 18) ∧ (zqC s c q = 0 → zqM s c q = 0) := by
  have h1 := (zsb (zqh s c q)).2.2.1
  have h2 := zsM_b (h := zqh s c q) (d := zds s (zqA q) (zqB q)) (c := c) (n := 6) (fun k hk hh => ⟨(zds_b hs hk (zqA_b q) (zS0_b _)).2.1, (of_decide_eq_true hh).2⟩)
  refine ⟨h1, ⟨h2.2.1, ?_⟩, h2.2.2.1⟩
  have h3 := h2.2.2.2
  have h4 : c * zsC (zqh s c q) 6 ≤ 3 * zsC (zqh s c q) 6 := Int.mul_le_mul_of_nonneg_right hc.2 h1.1
  unfold zqM
  have h5 := h1.2
  omega
/-- the best of the first n lines -/
def zCB (s : Nat → Int) (c : Int) (n : Nat) (A B Q M : Int) : Prop := (Q = 0 ∧ M = 0 ∧ ∀ q, q < n → zqC s c q = 0) ∨ ∃ p, p < n ∧ 0 < zqC s c p ∧ A = zqA p ∧ B = zqB p ∧ Q = zqO s c p ∧ M = zqM s c p ∧ ∀ q, q < n → zqK s c p ≤ zqK s c q
theorem zCB_step {s : Nat → Int} {c : Int} {n : Nat} {A B Q M : Int} {strips : Nat → Int} (hs : zStr s) (hts : ∀ k, k < 6 → strips k = s k) (hc : 0 ≤ c ∧ c ≤ 3) (hn : n < 112) (h : zCB s c n A B Q M) : ∃ A' B' Q' M', fX1_weigh (zk_S strips A B Q M) (zqA n) (zqB n) c = some (A', B', Q', M') ∧ zCB s c (n + 1) A' B' Q' M' := by
  have hb := zqM_b hs hc n
  have hl := X_weigh_loop (t := zk_S strips A B Q M) hs hts (zqA_b n) (zS0_b (n / 16)) hc 6 0 zF (by omega) (by unfold zF; omega)
  have hb2 := zsb (zqh s c n)
  have hz0 : fJ6_bitCount_0f7a4 0 = some 0 := by decide +kernel
  have hold : ∃ C, fJ6_bitCount_0f7a4 Q = some C ∧ (0 ≤ C ∧ C ≤ 6) ∧ (0 ≤ M ∧ M ≤ 18) ∧ (C = 0 → M = 0) := by
    rcases h with ⟨rfl, rfl, _⟩ | ⟨p, _, _, _, _, rfl, rfl, _⟩
    · exact ⟨0, hz0, by omega, by omega, fun _ => rfl⟩
    · have := zqM_b hs hc p
      exact ⟨zqC s c p, (zsb (zqh s c p)).1, this.1, this.2.1, this.2.2⟩
  obtain ⟨C, hC, hCb, hMb, hCM⟩ := hold
  have hw : ∃ r, fX1_weigh (zk_S strips A B Q M) (zqA n) (zqB n) c = some r ∧ ((C < zqC s c n ∨ (C = zqC s c n ∧ zqM s c n < M)) → r = (zqA n, zqB n, zqO s c n, zqM s c n)) ∧ (¬ (C < zqC s c n ∨ (C = zqC s c n ∧ zqM s c n < M)) → r = (A, B, Q, M)) := by
    have e : ∀ r, (if zLt 0 (zqC s c n - C) then some (zqA n, zqB n, zqO s c n, zqM s c n) else if zE (zqC s c n - C) 0 then (if zLe M (zqM s c n) then some (A, B, Q, M) else some (zqA n, zqB n, zqO s c n, zqM s c n)) else some (A, B, Q, M)) = some r → fX1_weigh (zk_S strips A B Q M) (zqA n) (zqB n) c = some r := by
      intro r hr
      unfold fX1_weigh
      refine zb hl ?_
      refine zb hb2.1 ?_
      refine zb (show fJ6_bitCount_0f7a4 (zs_set (zk_S strips A B Q M)) = some C from hC) ?_
      exact zlet hr
    by_cases h1 : C < zqC s c n
    · exact ⟨_, e _ (zyes (zLt_t (by omega) (by omega) (by omega)) rfl), fun _ => rfl, fun z => absurd (Or.inl h1) z⟩
    · by_cases h2 : C = zqC s c n
      · by_cases h3 : zqM s c n < M
        · exact ⟨_, e _ (zno (zLt_f (by omega) (by omega) (by omega)) (zyes (zE_t (by omega)) (zno (zLe_f h3 (by omega) (by omega)) rfl))), fun _ => rfl, fun z => absurd (Or.inr ⟨h2, h3⟩) z⟩
        · exact ⟨_, e _ (zno (zLt_f (by omega) (by omega) (by omega)) (zyes (zE_t (by omega)) (zyes (zLe_t (by omega) (by omega) (by omega)) rfl))), fun z => absurd z (fun z => z.elim h1 (fun z => h3 z.2)), fun _ => rfl⟩
      · exact ⟨_, e _ (zno (zLt_f (by omega) (by omega) (by omega)) (zno (zE_f (by omega) (by omega) (by omega) (by omega) (by omega)) rfl)), fun z => absurd z (fun z => z.elim h1 (fun z => h2 z.1)), fun _ => rfl⟩
  obtain ⟨r, hw1, hw2, hw3⟩ := hw
  by_cases hcond : C < zqC s c n ∨ (C = zqC s c n ∧ zqM s c n < M)
  · have hr := hw2 hcond
    subst hr
    refine ⟨_, _, _, _, hw1, Or.inr ⟨n, by omega, by omega, rfl, rfl, rfl, rfl, ?_⟩⟩
    intro q hq
    by_cases e : q = n
    · subst e; exact Int.le_refl _
    · have hq' : q < n := by omega
      have hbq := zqM_b hs hc q
      rcases h with ⟨rfl, rfl, h0⟩ | ⟨p, hp, hp0, _, _, rfl, rfl, hmin⟩
      · have := h0 q hq'
        have e1 : C = 0 := Option.some.inj (hC.symm.trans hz0)
        unfold zqK
        omega
      · have h1 := hmin q hq'
        have e1 : C = zqC s c p := Option.some.inj (hC.symm.trans (zsb (zqh s c p)).1)
        have hbp := zqM_b hs hc p
        unfold zqK at h1 ⊢
        omega
  · have hr := hw3 hcond
    subst hr
    refine ⟨_, _, _, _, hw1, ?_⟩
    rcases h with ⟨rfl, rfl, h0⟩ | ⟨p, hp, hp0, e1, e2, rfl, rfl, hmin⟩
    · have e1 : C = 0 := Option.some.inj (hC.symm.trans hz0)
      refine Or.inl ⟨rfl, rfl, fun q hq => ?_⟩
      by_cases e : q = n
      · subst e; omega
      · exact h0 q (by omega)
    · have e3 : C = zqC s c p := Option.some.inj (hC.symm.trans (zsb (zqh s c p)).1)
      have hbp := zqM_b hs hc p
      refine Or.inr ⟨p, by omega, hp0, e1, e2, rfl, rfl, fun q hq => ?_⟩
      by_cases e : q = n
      · subst e
        unfold zqK
        omega
      · exact hmin q (by omega)
theorem X_run_in {t : zLsT} {s : Nat → Int} {c i20 : Int} (hs : zStr s) (hts : ∀ k, k < 6 → zs_strips t k = s k) (hc : 0 ≤ c ∧ c ≤ 3) {r : Nat} (hr : r < 7) : ∀ (k i zn : Nat) (A B Q M : Int), i + k = 16 → k < zn → zCB s c (r * 16 + i) A B Q M → ∃ A' B' Q' M', fX1_run_L37 zn t c i20 (r : Int) (zS0 r) (i : Int) A B Q M = some (A', B', Q', M') ∧ zCB s c (r * 16 + 16) A' B' Q' M' := by
  intro k
  induction k with
  | zero =>
    intro i zn A B Q M hik hz h
    obtain ⟨zn, rfl⟩ : ∃ q, zn = q + 1 := ⟨zn - 1, by omega⟩
    rw [fX1_run_L37_s]
    have : i = 16 := by omega
    subst this
    exact ⟨A, B, Q, M, zyes (zLe_t (by omega) (by omega) (by omega)) rfl, h⟩
  | succ k ih =>
    intro i zn A B Q M hik hz h
    obtain ⟨zn, rfl⟩ : ∃ q, zn = q + 1 := ⟨zn - 1, by omega⟩
    rw [fX1_run_L37_s]
    obtain ⟨A1, B1, Q1, M1, a1, a2⟩ := zCB_step hs hts hc (by omega) h
    obtain ⟨A2, B2, Q2, M2, b1, b2⟩ := ih (i + 1) zn A1 B1 Q1 M1 (by omega) (by omega) a2
    have e1 : zqA (r * 16 + i) = (i : Int) := by unfold zqA; omega
    have e2 : zqB (r * 16 + i) = zS0 r := by unfold zqB; rw [show (r * 16 + i) / 16 = r by omega]
    rw [e1, e2] at a1
    exact ⟨A2, B2, Q2, M2, zno (zLe_f (by omega) (by omega) (by omega)) (zb a1 b1), b2⟩
theorem X_run_out {t : zLsT} {s : Nat → Int} {c i4 : Int} (hs : zStr s) (hts : ∀ k, k < 6 → zs_strips t k = s k) (hc : 0 ≤ c ∧ c ≤ 3) : ∀ (k i zn : Nat) (A B Q M : Int), i + k = 7 → k < zn → zCB s c (i * 16) A B Q M → ∃ A' B' Q' M', fX1_run_L21 zn t c i4 (i : Int) A B Q M = some (A', B', Q', M') ∧ zCB s c 112 A' B' Q' M' := by
  intro k
  induction k with
  | zero =>
    intro i zn A B Q M hik hz h
    obtain ⟨zn, rfl⟩ : ∃ q, zn = q + 1 := ⟨zn - 1, by omega⟩
    rw [fX1_run_L21_s]
    have : i = 7 := by omega
    subst this
    exact ⟨A, B, Q, M, zyes (zLe_t (by omega) (by omega) (by omega)) rfl, h⟩
  | succ k ih =>
    intro i zn A B Q M hik hz h
    obtain ⟨zn, rfl⟩ : ∃ q, zn = q + 1 := ⟨zn - 1, by omega⟩
    rw [fX1_run_L21_s]
    obtain ⟨A1, B1, Q1, M1, a1, a2⟩ := X_run_in (i20 := i4) hs hts hc (r := i) (by omega) 16 0 zF A B Q M (by omega) (by unfold zF; omega) h
    obtain ⟨A2, B2, Q2, M2, b1, b2⟩ := ih (i + 1) zn A1 B1 Q1 M1 (by omega) (by omega) (by rw [show (i + 1) * 16 = i * 16 + 16 by omega]; exact a2)
    exact ⟨A2, B2, Q2, M2, zno (zLe_f (by omega) (by omega) (by omega)) (zok ⟨by omega, by omega⟩ (zlet (zb a1 b1))), b2⟩
/-- the track of a group with strips s -/
def zTr (s : Nat → Int) (c fold A B Q M : Int) : Prop := (Q = 0 ∧ ∀ q, q < 112 → zqC s c q < fold) ∨ ∃ p, p < 112 ∧ fold ≤ zqC s c p ∧ A = zqA p ∧ B = zqB p ∧ Q = zqO s c p ∧ M = zqM s c p ∧ ∀ q, q < 112 → zqK s c p ≤ zqK s c q
theorem X_run {t : zLsT} {s : Nat → Int} {c fold : Int} (hs : zStr s) (hts : ∀ k, k < 6 → zs_strips t k = s k) (hc : 0 ≤ c ∧ c ≤ 3) (hf : 2 ≤ fold ∧ fold ≤ 6) : ∃ A B Q M, fX1_run t c fold = some (A, B, Q, M) ∧ zTr s c fold A B Q M := by
  obtain ⟨A, B, Q, M, a1, a2⟩ := X_run_out (i4 := fold) hs hts hc 7 0 zF (zs_start t) (zs_slope t) 0 0 (by omega) (by unfold zF; omega) (Or.inl ⟨rfl, rfl, fun q hq => by omega⟩)
  unfold fX1_run
  rcases a2 with ⟨rfl, rfl, h0⟩ | ⟨p, hp, hp0, e1, e2, rfl, rfl, hmin⟩
  · refine ⟨A, B, 0, 0, zb a1 (zb (a := 0) (show fJ6_bitCount_0f7a4 0 = some 0 by decide +kernel) (zno (zLe_f (by omega) (by omega) (by omega)) rfl)), Or.inl ⟨rfl, fun q hq => by rw [h0 q hq]; omega⟩⟩
  · have hb := zqM_b hs hc p
    by_cases hle : fold ≤ zqC s c p
    · exact ⟨A, B, zqO s c p, zqM s c p, zb a1 (zb (zsb (zqh s c p)).1 (zyes (zLe_t hle (by omega) (by show zqC s c p < _; omega)) rfl)), Or.inr ⟨p, hp, hle, e1, e2, rfl, rfl, hmin⟩⟩
    · refine ⟨A, B, 0, zqM s c p, zb a1 (zb (zsb (zqh s c p)).1 (zno (zLe_f (show zqC s c p < fold by omega) (by show _ ≤ zqC s c p; omega) (by omega)) rfl)), Or.inl ⟨rfl, fun q hq => ?_⟩⟩
      have h1 := hmin q hq
      have hbq := zqM_b hs hc q
      unfold zqK at h1
      omega
