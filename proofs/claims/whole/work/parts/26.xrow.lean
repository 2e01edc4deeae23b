/-! ===== PURE: the class: what is known; a group's end, planes and strips ===== -/
theorem zst_before_m {w : Nat → Int} {h : Int} {n i : Nat} (hm : ∀ i j, i ≤ j → j < n → w i ≤ w j) (h1 : i < zst w h n) : w i < h := by
  obtain ⟨q, hq⟩ : ∃ q, zst w h n = q + 1 := ⟨zst w h n - 1, by omega⟩
  have h2 := zst_last hq
  have h3 := zst_le w h n
  have := hm i q (by omega) (by omega)
  omega
theorem X_known_loop {t : zXT} {du lw lp ls : Nat → Int} {ml : Nat} {ed sd : Int} (hml : ml ≤ 240) (hm : ∀ i j, i ≤ j → j < ml → lw i ≤ lw j) (hok : zok3 lw lp ls ml) (hed : -2000 ≤ ed ∧ ed ≤ 30000) : ∀ (k i zn : Nat), i + k = zst lw ed ml → k < zn → fX3_follow_L13 zn t ed (zk_R lw lp ls (ml : Int)) du sd (i : Int) = some ((zst lw ed ml : Nat) : Int) := by
  have hle := zst_le lw ed ml
  intro k
  induction k with
  | zero =>
    intro i zn hik hz
    obtain ⟨zn, rfl⟩ : ∃ q, zn = q + 1 := ⟨zn - 1, by omega⟩
    have e : i = zst lw ed ml := by omega
    rw [fX3_follow_L13_s, ← e]
    by_cases hc : i = ml
    · exact zyes (zLe_t (show (ml : Int) ≤ (i : Int) by omega) (by show _ ≤ (ml : Int); omega) (by omega)) rfl
    · have h1 := zst_after (W := lw) (h := ed) (n := ml) (i := i) (by omega) (by omega)
      have hw := (hok i (by omega)).1
      exact zno (zLe_f (show (i : Int) < (ml : Int) by omega) (by omega) (by show (ml : Int) < _; omega)) (zok ⟨by omega, by omega⟩ (zyes (zLe_t (show ed ≤ lw i from h1) (by omega) (by show lw i < _; omega)) rfl))
  | succ k ih =>
    intro i zn hik hz
    obtain ⟨zn, rfl⟩ : ∃ q, zn = q + 1 := ⟨zn - 1, by omega⟩
    have h1 := zst_before_m (h := ed) hm (show i < zst lw ed ml by omega)
    have hw := (hok i (by omega)).1
    rw [fX3_follow_L13_s]
    refine zno (zLe_f (show (i : Int) < (ml : Int) by omega) (by omega) (by show (ml : Int) < _; omega)) (zok ⟨by omega, by omega⟩ (zno (zLe_f (show lw i < ed from h1) (by show _ ≤ lw i; omega) (by omega)) ?_))
    rw [zc1]
    exact ih (i + 1) zn (by omega) (by omega)
def zEnd (T : Nat → Int) (w : Int) (N f e : Nat) : Prop := f < e ∧ e ≤ N ∧ (∀ i, f ≤ i → i < e → T i ≤ T f + w) ∧ (e < N → T f + w < T e)
theorem R_end_loop {ρ : zRowT} {w : Int} {N f : Nat} (hN : N ≤ 240) (hT : ∀ i, i < N → -100 ≤ zr_when ρ i ∧ zr_when ρ i ≤ 30000) (hw : 0 ≤ w ∧ w ≤ 40) (hf : f < N) : ∀ (k i zn : Nat), i + k = N → f < i → k < zn → (∀ y, f ≤ y → y < i → zr_when ρ y ≤ zr_when ρ f + w) → ∃ e : Nat, fX2_endOfGroup_L5 zn ρ (f : Int) (N : Int) w (i : Int) = some (e : Int) ∧ zEnd (zr_when ρ) w N f e := by
  intro k
  induction k with
  | zero =>
    intro i zn hik hfi hz hy
    obtain ⟨zn, rfl⟩ : ∃ q, zn = q + 1 := ⟨zn - 1, by omega⟩
    rw [fX2_endOfGroup_L5_s]
    exact ⟨i, zyes (zLe_t (by omega) (by omega) (by omega)) rfl, hfi, by omega, hy, fun h => by omega⟩
  | succ k ih =>
    intro i zn hik hfi hz hy
    obtain ⟨zn, rfl⟩ : ∃ q, zn = q + 1 := ⟨zn - 1, by omega⟩
    rw [fX2_endOfGroup_L5_s]
    have b1 := hT i (by omega)
    have b2 := hT f hf
    by_cases hc : zr_when ρ f + w < zr_when ρ i
    · exact ⟨i, zno (zLe_f (by omega) (by omega) (by omega)) (zok ⟨by omega, by omega⟩ (zok ⟨by omega, by omega⟩ (zyes (zLt_t (show zr_when ρ f + w < zr_when ρ i from hc) (by show _ ≤ zr_when ρ f + w; omega) (by show zr_when ρ i < _; omega)) rfl))), hfi, by omega, hy, fun _ => hc⟩
    · obtain ⟨e, e1, e2⟩ := ih (i + 1) zn (by omega) (by omega) (by omega) (fun y h1 h2 => by
        by_cases ey : y = i
        · subst ey; omega
        · exact hy y h1 (by omega))
      refine ⟨e, zno (zLe_f (by omega) (by omega) (by omega)) (zok ⟨by omega, by omega⟩ (zok ⟨by omega, by omega⟩ (zno (zLt_f (show zr_when ρ i ≤ zr_when ρ f + w by omega) (by show _ ≤ zr_when ρ i; omega) (by show zr_when ρ f + w < _; omega)) ?_))), e2⟩
      rw [zc1]; exact e1
theorem R_end {ρ : zRowT} {w : Int} {N f : Nat} (hN : N ≤ 240) (hT : ∀ i, i < N → -100 ≤ zr_when ρ i ∧ zr_when ρ i ≤ 30000) (hw : 0 ≤ w ∧ w ≤ 40) (hf : f < N) : ∃ e : Nat, fX2_endOfGroup ρ (f : Int) (N : Int) w = some (e : Int) ∧ zEnd (zr_when ρ) w N f e := by
  obtain ⟨e, e1, e2⟩ := R_end_loop hN hT hw hf (N - (f + 1)) (f + 1) zF (by omega) (by omega) (by unfold zF; omega) (fun y h1 h2 => by
    have : y = f := by omega
    subst this; omega)
  refine ⟨e, ?_, e2⟩
  unfold fX2_endOfGroup
  refine zlet ?_
  rw [zc1]
  exact zb e1 rfl
theorem zEnd_uniq {T : Nat → Int} {w : Int} {N f e e' : Nat} (h : zEnd T w N f e) (h' : zEnd T w N f e') : e = e' := by
  rcases Nat.lt_trichotomy e e' with hc | hc | hc
  · have h1 := h.2.2.2 (by have := h'.2.1; omega)
    have h2 := h'.2.2.1 e (by have := h.1; omega) hc
    omega
  · exact hc
  · have h1 := h'.2.2.2 (by have := h.2.1; omega)
    have h2 := h.2.2.1 e' (by have := h'.1; omega) hc
    omega
def zpo (P : Nat → Int) (f : Nat) : Nat → Int
  | 0 => 0
  | k + 1 => zor (zpo P f k) (zshl 1 (P (f + k)))
theorem R_planes_loop {ρ : zRowT} {f e : Nat} (he : e ≤ 240) : ∀ (k i zn : Nat), i + k = e → f ≤ i → k < zn → fX2_planesOf_L5 zn ρ (e : Int) (zpo (zr_plane ρ) f (i - f)) (i : Int) = some (zpo (zr_plane ρ) f (e - f)) := by
  intro k
  induction k with
  | zero =>
    intro i zn hik hfi hz
    obtain ⟨zn, rfl⟩ : ∃ q, zn = q + 1 := ⟨zn - 1, by omega⟩
    rw [fX2_planesOf_L5_s]
    refine zyes (zLe_t (by omega) (by omega) (by omega)) ?_
    rw [show i = e by omega]
  | succ k ih =>
    intro i zn hik hfi hz
    obtain ⟨zn, rfl⟩ : ∃ q, zn = q + 1 := ⟨zn - 1, by omega⟩
    rw [fX2_planesOf_L5_s]
    refine zno (zLe_f (by omega) (by omega) (by omega)) (zok ⟨by omega, by omega⟩ (zlet ?_))
    rw [zc1, zcN]
    have e1 : zor (zpo (zr_plane ρ) f (i - f)) (zshl 1 (zr_plane ρ i)) = zpo (zr_plane ρ) f (i + 1 - f) := by
      rw [show i + 1 - f = (i - f) + 1 by omega]
      show _ = zor _ (zshl 1 (zr_plane ρ (f + (i - f))))
      rw [show f + (i - f) = i by omega]
    rw [e1]
    exact ih (i + 1) zn (by omega) (by omega) (by omega)
theorem R_planes {ρ : zRowT} {f e : Nat} (hf : f ≤ e) (he : e ≤ 240) : fX2_planesOf ρ (f : Int) (e : Int) = some (zpo (zr_plane ρ) f (e - f)) := by
  unfold fX2_planesOf
  refine zb (a := zpo (zr_plane ρ) f (e - f)) ?_ rfl
  have := R_planes_loop (ρ := ρ) (f := f) he (e - f) f zF (by omega) (Nat.le_refl _) (by unfold zF; omega)
  rw [Nat.sub_self] at this
  exact this
/-- the strip of the first one from f on that is of plane j -/
def zfm (P S : Nat → Int) (j : Int) : Nat → Nat → Int
  | 0, _ => -9
  | k + 1, f => if P f = j then S f else zfm P S j k (f + 1)
theorem J_fill_loop : ∀ (k i zn : Nat) (t a : Nat → Int), i + k = 6 → k < zn → (∀ j, j < i → a j = -9) → ∃ a', fJ7_fill_53178_L5 zn t (-9) (i : Int) a = some a' ∧ ∀ j, j < 6 → a' j = -9 := by
  intro k
  induction k with
  | zero =>
    intro i zn t a hik hz h
    obtain ⟨zn, rfl⟩ : ∃ q, zn = q + 1 := ⟨zn - 1, by omega⟩
    rw [fJ7_fill_53178_L5_s]
    exact ⟨a, zyes (zLe_t (by omega) (by omega) (by omega)) rfl, fun j hj => h j (by omega)⟩
  | succ k ih =>
    intro i zn t a hik hz h
    obtain ⟨zn, rfl⟩ : ∃ q, zn = q + 1 := ⟨zn - 1, by omega⟩
    rw [fJ7_fill_53178_L5_s]
    obtain ⟨a', h1, h2⟩ := ih (i + 1) zn t (zu a (i : Int) (-9)) (by omega) (by omega) (fun j hj => by
      unfold zu
      rw [zcN]
      by_cases e : j = i
      · rw [if_pos e]
      · rw [if_neg e]; exact h j (by omega))
    refine ⟨a', zno (zLe_f (by omega) (by omega) (by omega)) (zok ⟨by omega, by omega⟩ ?_), h2⟩
    rw [zc1]; exact h1
theorem R_strips_loop {ρ : zRowT} {s0 : Nat → Int} {f e : Nat} (he : e ≤ 240) (hp : ∀ i, f ≤ i → i < e → 0 ≤ zr_plane ρ i ∧ zr_plane ρ i ≤ 5) : ∀ (k i zn : Nat) (a : Nat → Int), i = f + k → i ≤ e → k < zn → (∀ j : Nat, j < 6 → a j = zfm (zr_plane ρ) (zr_strip ρ) (j : Int) (e - i) i) → ∃ a', fX2_putMemberStrips_L11 zn ρ s0 (f : Int) ((i : Int) - 1) a = some a' ∧ ∀ j : Nat, j < 6 → a' j = zfm (zr_plane ρ) (zr_strip ρ) (j : Int) (e - f) f := by
  intro k
  induction k with
  | zero =>
    intro i zn a hik hie hz h
    obtain ⟨zn, rfl⟩ : ∃ q, zn = q + 1 := ⟨zn - 1, by omega⟩
    rw [fX2_putMemberStrips_L11_s]
    have : i = f := by omega
    subst this
    exact ⟨a, zyes (zLt_t (by omega) (by omega) (by omega)) rfl, h⟩
  | succ k ih =>
    intro i zn a hik hie hz h
    obtain ⟨zn, rfl⟩ : ∃ q, zn = q + 1 := ⟨zn - 1, by omega⟩
    rw [fX2_putMemberStrips_L11_s]
    obtain ⟨q, rfl⟩ : ∃ q, i = q + 1 := ⟨i - 1, by omega⟩
    rw [show (((q + 1 : Nat) : Int) - 1) = (q : Int) by omega, zcN]
    have hq := hp q (by omega) (by omega)
    obtain ⟨p, hpp⟩ := Int.eq_ofNat_of_zero_le hq.1
    obtain ⟨a', h1, h2⟩ := ih q zn (zu a (zr_plane ρ q) (zr_strip ρ q)) (by omega) (by omega) (by omega) (fun j hj => by
      rw [show e - q = (e - (q + 1)) + 1 by omega]
      show (if j = (zr_plane ρ q).toNat then _ else _) = (if zr_plane ρ q = (j : Int) then _ else _)
      rw [hpp, zcN]
      by_cases ej : j = p
      · rw [if_pos ej, if_pos (by omega)]
      · rw [if_neg ej, if_neg (by omega)]; exact h j hj)
    refine ⟨a', zno (zLt_f (by omega) (by omega) (by omega)) (zok ⟨by omega, by omega⟩ (zok ⟨by omega, by omega⟩ (zok ⟨by omega, by omega⟩ ?_))), h2⟩
    exact h1
theorem R_strips {ρ : zRowT} {s0 : Nat → Int} {f e : Nat} (hf : f ≤ e) (he : e ≤ 240) (hp : ∀ i, f ≤ i → i < e → 0 ≤ zr_plane ρ i ∧ zr_plane ρ i ≤ 5) : ∃ a', fX2_putMemberStrips ρ s0 (f : Int) (e : Int) = some a' ∧ ∀ j : Nat, j < 6 → a' j = zfm (zr_plane ρ) (zr_strip ρ) (j : Int) (e - f) f := by
  obtain ⟨a0, b1, b2⟩ := J_fill_loop 6 0 zF s0 s0 (by omega) (by unfold zF; omega) (fun j hj => by omega)
  obtain ⟨a', c1, c2⟩ := R_strips_loop (s0 := s0) he hp (e - f) e zF a0 (by omega) (Nat.le_refl _) (by unfold zF; omega) (fun j hj => by rw [Nat.sub_self]; exact b2 j hj)
  refine ⟨a', ?_, c2⟩
  unfold fX2_putMemberStrips
  refine zb (a := a0) ?_ (zlet (zb c1 rfl))
  unfold fJ7_fill_53178
  exact zb b1 rfl
