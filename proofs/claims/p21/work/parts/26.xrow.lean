/-! ===== PURE: the class: what is known; a group's end, planes and strips ===== -/
theorem zst_before_m {w : Nat → Int} {h : Int} {n i : Nat} (hm : ∀ i j, i ≤ j → j < n → w i ≤ w j) (h1 : i < zst w h n) : w i < h := by
  obtain ⟨q, hq⟩ : ∃ q, zst w h n = q + 1 := ⟨zst w h n - 1, by omega⟩
  have h2 := zst_last hq
  have h3 := zst_le w h n
  have := hm i q (by omega) (by omega)
  omega
theorem X_known_loop {t : zXT} {du lw lp ls : Nat → Int} {ml : Nat} {ed sd : Int} (hml : ml ≤ 240) (hm : ∀ i j, i ≤ j → j < ml → lw i ≤ lw j) (hok : zok3 lw lp ls ml) (hed : -2000 ≤ ed ∧ ed ≤ 30000) : ∀ (k i zn : Nat), i + k = zst lw ed ml → k < zn → fX3_follow_L13 zn t ed (zk_R lw lp ls (ml : Int)) du sd (i : Int) = some ((zst lw ed ml : Nat) : Int) := by
  have hle := zst_le lw ed ml
  intro k
  induction k with
  | zero =>
    intro i zn hik hz
    obtain ⟨zn, rfl⟩ : ∃ q, zn = q + 1 := ⟨zn - 1, by omega⟩
    have e : i = zst lw ed ml := by omega
    rw [fX3_follow_L13_s, ← e]
    by_cases hc : i = ml
    · exact zyes (zLe_t (show (ml : Int) ≤ (i : Int) by omega) (by show _ ≤ (ml : Int); omega) (by omega)) rfl
    · have h1 := zst_after (W := lw) (h := ed) (n := ml) (i := i) (by omega) (by omega)
      have hw := (hok i (by omega)).1
      exact zno (zLe_f (show (i : Int) < (ml : Int) by omega) (by omega) (by show (ml : Int) < _; omega)) (zok ⟨by omega, by omega⟩ (zyes (zLe_t (show ed ≤ lw i from h1) (by omega) (by show lw i < _; omega)) rfl))
  | succ k ih =>
    intro i zn hik hz
    obtain ⟨zn, rfl⟩ : ∃ q, zn = q + 1 := ⟨zn - 1, by omega⟩
    have h1 := zst_before_m (h := ed) hm (show i < zst lw ed ml by omega)
    have hw := (hok i (by omega)).1
    rw [fX3_follow_L13_s]
    refine zno (zLe_f (show (i : Int) < (ml : Int) by omega) (by omega) (by show (ml : Int) < _; omega)) (zok ⟨by omega, by omega⟩ (zno (zLe_f (show lw i < ed from h1) (by show _ ≤ lw i; omega) (by omega)) ?_))
    rw [zc1]
    exact ih (i + 1) zn (by omega) (by omega)
def zEnd (T : Nat → Int) (w : Int) (N f e : Nat) : Prop := f < e ∧ e ≤ N ∧ (∀ i, f ≤ i → i < e → T i ≤ T f + w) ∧ (e < N → T f + w < T e)
theorem R_end_loop {ρ : zRowT} {w : Int} {N f sz : Nat} (hs : zr_size ρ = (sz : Int)) (hsz : sz ≤ 240) (hN : N ≤ sz) (hT : ∀ i, i < N → -100 ≤ zr_when ρ i ∧ zr_when ρ i ≤ 30000) (hw : 0 ≤ w ∧ w ≤ 40) (hf : f < N) : ∀ (k i zn : Nat), i + k = N → f < i → k < zn → (∀ y, f ≤ y → y < i → zr_when ρ y ≤ zr_when ρ f + w) → ∃ e : Nat, fX2_endOfGroup_L14 zn ρ (N : Int) (zr_when ρ f + w) (i : Int) = some (e : Int) ∧ zEnd (zr_when ρ) w N f e := by
  intro k
  induction k with
  | zero =>
    intro i zn hik hfi hz hy
    obtain ⟨zn, rfl⟩ : ∃ q, zn = q + 1 := ⟨zn - 1, by omega⟩
    rw [fX2_endOfGroup_L14_s]
    exact ⟨i, zyes (zLe_t (by omega) (by omega) (by omega)) rfl, hfi, by omega, hy, fun h => by omega⟩
  | succ k ih =>
    intro i zn hik hfi hz hy
    obtain ⟨zn, rfl⟩ : ∃ q, zn = q + 1 := ⟨zn - 1, by omega⟩
    rw [fX2_endOfGroup_L14_s]
    have b1 := hT i (by omega)
    have b2 := hT f hf
    by_cases hc : zr_when ρ f + w < zr_when ρ i
    · exact ⟨i, zno (zLe_f (by omega) (by omega) (by omega)) (zhas hs hsz (by omega) (zok ⟨by omega, by omega⟩ (zyes (zLt_t (show zr_when ρ f + w < zr_when ρ i from hc) (by show _ ≤ zr_when ρ f + w; omega) (by show zr_when ρ i < _; omega)) rfl))), hfi, by omega, hy, fun _ => hc⟩
    · obtain ⟨e, e1, e2⟩ := ih (i + 1) zn (by omega) (by omega) (by omega) (fun y h1 h2 => by
        by_cases ey : y = i
        · subst ey; omega
        · exact hy y h1 (by omega))
      refine ⟨e, zno (zLe_f (by omega) (by omega) (by omega)) (zhas hs hsz (by omega) (zok ⟨by omega, by omega⟩ (zno (zLt_f (show zr_when ρ i ≤ zr_when ρ f + w by omega) (by show _ ≤ zr_when ρ i; omega) (by show zr_when ρ f + w < _; omega)) ?_))), e2⟩
      rw [zc1]; exact e1
theorem R_end {ρ : zRowT} {w : Int} {N f sz : Nat} (hs : zr_size ρ = (sz : Int)) (hsz : sz ≤ 240) (hN : N ≤ sz) (hT : ∀ i, i < N → -100 ≤ zr_when ρ i ∧ zr_when ρ i ≤ 30000) (hw : 0 ≤ w ∧ w ≤ 40) (hf : f < N) : ∃ e : Nat, fX2_endOfGroup ρ (f : Int) (N : Int) w = some (e : Int) ∧ zEnd (zr_when ρ) w N f e := by
  obtain ⟨e, e1, e2⟩ := R_end_loop hs hsz hN hT hw hf (N - (f + 1)) (f + 1) zF (by omega) (by omega) (by unfold zF; omega) (fun y h1 h2 => by
    have : y = f := by omega
    subst this; omega)
  refine ⟨e, ?_, e2⟩
  unfold fX2_endOfGroup
  refine zb (R_when hs hsz (by omega)) (zlet (zlet ?_))
  rw [zc1]
  exact zb e1 rfl
theorem zEnd_uniq {T : Nat → Int} {w : Int} {N f e e' : Nat} (h : zEnd T w N f e) (h' : zEnd T w N f e') : e = e' := by
  rcases Nat.lt_trichotomy e e' with hc | hc | hc
  · have h1 := h.2.2.2 (by have := h'.2.1; omega)
    have h2 := h'.2.2.1 e (by have := h.1; omega) hc
    omega
  · exact hc
  · have h1 := h'.2.2.2 (by have := h.2.1; omega)
    have h2 := h.2.2.1 e' (by have := h'.1; omega) hc
    omega
def zpo (P : Nat → Int) (f : Nat) : Nat → Int
  | 0 => 0
  | k + 1 => zor (zpo P f k) (zshl 1 (P (f + k)))
theorem R_planes_loop {ρ : zRowT} {f e sz : Nat} (hs : zr_size ρ = (sz : Int)) (hsz : sz ≤ 240) (he : e ≤ sz) : ∀ (k i zn : Nat), i + k = e → f ≤ i → k < zn → fX2_planesOf_L5 zn ρ (e : Int) (zpo (zr_plane ρ) f (i - f)) (i : Int) = some (zpo (zr_plane ρ) f (e - f)) := by
  intro k
  induction k with
  | zero =>
    intro i zn hik hfi hz
    obtain ⟨zn, rfl⟩ : ∃ q, zn = q + 1 := ⟨zn - 1, by omega⟩
    rw [fX2_planesOf_L5_s]
    refine zyes (zLe_t (by omega) (by omega) (by omega)) ?_
    rw [show i = e by omega]
  | succ k ih =>
    intro i zn hik hfi hz
    obtain ⟨zn, rfl⟩ : ∃ q, zn = q + 1 := ⟨zn - 1, by omega⟩
    rw [fX2_planesOf_L5_s]
    refine zno (zLe_f (by omega) (by omega) (by omega)) (zhas hs hsz (by omega) (zok ⟨by omega, by omega⟩ (zlet ?_)))
    rw [zc1, zcN]
    have e1 : zor (zpo (zr_plane ρ) f (i - f)) (zshl 1 (zr_plane ρ i)) = zpo (zr_plane ρ) f (i + 1 - f) := by
      rw [show i + 1 - f = (i - f) + 1 by omega]
      show _ = zor _ (zshl 1 (zr_plane ρ (f + (i - f))))
      rw [show f + (i - f) = i by omega]
    rw [e1]
    exact ih (i + 1) zn (by omega) (by omega) (by omega)
theorem R_planes {ρ : zRowT} {f e sz : Nat} (hs : zr_size ρ = (sz : Int)) (hsz : sz ≤ 240) (hf : f ≤ e) (he : e ≤ sz) : fX2_planesOf ρ (f : Int) (e : Int) = some (zpo (zr_plane ρ) f (e - f)) := by
  unfold fX2_planesOf
  refine zb (a := zpo (zr_plane ρ) f (e - f)) ?_ rfl
  have := R_planes_loop (ρ := ρ) (f := f) hs hsz he (e - f) f zF (by omega) (Nat.le_refl _) (by unfold zF; omega)
  rw [Nat.sub_self] at this
  exact this
/-- the strip of the first one from f on that is of plane j -/
def zfm (P S : Nat → Int) (j : Int) : Nat → Nat → Int
  | 0, _ => -9
  | k + 1, f => if P f = j then S f else zfm P S j k (f + 1)
/-- the first one from f on that is of plane j -/
def zfo (P : Nat → Int) (j : Int) : Nat → Nat → Option Nat
  | 0, _ => none
  | k + 1, f => if P f = j then some f else zfo P j k (f + 1)
def zix (d : Int) : Option Nat → Int
  | none => d
  | some i => (i : Int)
theorem zfo_some {P : Nat → Int} {j : Int} : ∀ (k f i : Nat), zfo P j k f = some i → f ≤ i ∧ i < f + k ∧ P i = j := by
  intro k
  induction k with
  | zero => intro f i h; simp [zfo] at h
  | succ k ih =>
    intro f i h
    unfold zfo at h
    by_cases c : P f = j
    · rw [if_pos c] at h
      have := Option.some.inj h
      subst this
      exact ⟨Nat.le_refl _, by omega, c⟩
    · rw [if_neg c] at h
      have := ih (f + 1) i h
      exact ⟨by omega, by omega, this.2.2⟩
theorem zfm_fo {P S : Nat → Int} {j : Int} : ∀ (k f : Nat), zfm P S j k f = match zfo P j k f with | none => -9 | some i => S i := by
  intro k
  induction k with
  | zero => intro f; rfl
  | succ k ih =>
    intro f
    unfold zfm zfo
    by_cases c : P f = j
    · rw [if_pos c, if_pos c]
    · rw [if_neg c, if_neg c]; exact ih (f + 1)
theorem R_index_loop {ρ : zRowT} {e sz : Nat} (hs : zr_size ρ = (sz : Int)) (hsz : sz ≤ 240) (he : e ≤ sz) (hp : ∀ i, i < e → 0 ≤ zr_plane ρ i ∧ zr_plane ρ i ≤ 5) {j : Int} (hj : 0 ≤ j ∧ j ≤ 5) : ∀ (k i zn : Nat), i + k = e → k < zn → fX2_indexOf_L3 zn ρ j (e : Int) (i : Int) = some (zix (-1) (zfo (zr_plane ρ) j k i)) := by
  intro k
  induction k with
  | zero =>
    intro i zn hik hz
    obtain ⟨zn, rfl⟩ : ∃ q, zn = q + 1 := ⟨zn - 1, by omega⟩
    rw [fX2_indexOf_L3_s]
    exact zyes (zLe_t (by omega) (by omega) (by omega)) rfl
  | succ k ih =>
    intro i zn hik hz
    obtain ⟨zn, rfl⟩ : ∃ q, zn = q + 1 := ⟨zn - 1, by omega⟩
    rw [fX2_indexOf_L3_s]
    have hpi := hp i (by omega)
    refine zno (zLe_f (by omega) (by omega) (by omega)) (zhas hs hsz (by omega) (zok ⟨by omega, by omega⟩ ?_))
    rw [zcN, zc1]
    unfold zfo
    by_cases c : zr_plane ρ i = j
    · rw [if_pos c]; exact zyes (zE_t c) rfl
    · rw [if_neg c]; exact zno (zE_f c (by omega) (by omega) (by omega) (by omega)) (ih (i + 1) zn (by omega) (by omega))
theorem R_index {ρ : zRowT} {f e sz : Nat} (hs : zr_size ρ = (sz : Int)) (hsz : sz ≤ 240) (he : e ≤ sz) (hfe : f ≤ e) (hp : ∀ i, i < e → 0 ≤ zr_plane ρ i ∧ zr_plane ρ i ≤ 5) {j : Int} (hj : 0 ≤ j ∧ j ≤ 5) : fX2_indexOf ρ j (f : Int) (e : Int) = some (zix (-1) (zfo (zr_plane ρ) j (e - f) f)) := by
  unfold fX2_indexOf
  exact R_index_loop hs hsz he hp hj (e - f) f zF (by omega) (by unfold zF; omega)
theorem R_strips_loop {ρ : zRowT} {s0 : Nat → Int} {f e sz : Nat} (hs : zr_size ρ = (sz : Int)) (hsz : sz ≤ 240) (he : e ≤ sz) (hfe : f ≤ e) (hp : ∀ i, i < e → 0 ≤ zr_plane ρ i ∧ zr_plane ρ i ≤ 5) : ∀ (k i zn : Nat) (a : Nat → Int), i + k = 6 → k < zn → (∀ j : Nat, j < i → a j = zfm (zr_plane ρ) (zr_strip ρ) (j : Int) (e - f) f) → ∃ a', fX2_putMemberStrips_L3 zn ρ s0 (f : Int) (e : Int) (i : Int) a = some a' ∧ ∀ j : Nat, j < 6 → a' j = zfm (zr_plane ρ) (zr_strip ρ) (j : Int) (e - f) f := by
  intro k
  induction k with
  | zero =>
    intro i zn a hik hz h
    obtain ⟨zn, rfl⟩ : ∃ q, zn = q + 1 := ⟨zn - 1, by omega⟩
    rw [fX2_putMemberStrips_L3_s]
    exact ⟨a, zyes (zLe_t (by omega) (by omega) (by omega)) rfl, fun j hj => h j (by omega)⟩
  | succ k ih =>
    intro i zn a hik hz h
    obtain ⟨zn, rfl⟩ : ∃ q, zn = q + 1 := ⟨zn - 1, by omega⟩
    rw [fX2_putMemberStrips_L3_s]
    have hx := R_index hs hsz he hfe hp (j := (i : Int)) (by omega)
    have hm := zfm_fo (P := zr_plane ρ) (S := zr_strip ρ) (j := (i : Int)) (e - f) f
    have gi : zIn (i : Int) 6 := ⟨by omega, by omega⟩
    obtain ⟨a', h1, h2⟩ := ih (i + 1) zn (zu a (i : Int) (zfm (zr_plane ρ) (zr_strip ρ) (i : Int) (e - f) f)) (by omega) (by omega) (fun j hj => by
      unfold zu
      rw [zcN]
      by_cases ej : j = i
      · rw [if_pos ej, ej]
      · rw [if_neg ej]; exact h j (by omega))
    refine ⟨a', zno (zLe_f (by omega) (by omega) (by omega)) (zb hx ?_), h2⟩
    cases ho : zfo (zr_plane ρ) (i : Int) (e - f) f with
    | none =>
      rw [ho] at hm
      rw [hm] at h1
      refine zb (R_hasnt hs hsz (i := -1) (Or.inl (by omega)) (by omega) (by omega)) (zb (zyes z00 rfl) (zok gi ?_))
      rw [zc1]
      exact h1
    | some y =>
      rw [ho] at hm
      rw [hm] at h1
      obtain ⟨y1, y2, y3⟩ := zfo_some _ _ _ ho
      refine zb (R_has hs hsz (i := y) (by omega)) (zb (a := zr_strip ρ y) (zno z10 (zok ⟨by show (0 : Int) ≤ (y : Int); omega, by show (y : Int) < _; omega⟩ rfl)) (zok gi ?_))
      rw [zc1]
      exact h1
theorem R_strips {ρ : zRowT} {s0 : Nat → Int} {f e sz : Nat} (hs : zr_size ρ = (sz : Int)) (hsz : sz ≤ 240) (hf : f ≤ e) (he : e ≤ sz) (hp : ∀ i, i < e → 0 ≤ zr_plane ρ i ∧ zr_plane ρ i ≤ 5) : ∃ a', fX2_putMemberStrips ρ s0 (f : Int) (e : Int) = some a' ∧ ∀ j : Nat, j < 6 → a' j = zfm (zr_plane ρ) (zr_strip ρ) (j : Int) (e - f) f := by
  obtain ⟨a', c1, c2⟩ := R_strips_loop (s0 := s0) hs hsz he hf hp 6 0 zF s0 (by omega) (by unfold zF; omega) (fun j hj => by omega)
  refine ⟨a', ?_, c2⟩
  unfold fX2_putMemberStrips
  exact zb c1 rfl
