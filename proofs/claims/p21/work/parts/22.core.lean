/-! ===== PURE: what both sides mean: horizon, edge, settled, live ===== -/
def zhor (b : Int) (W : Nat → Int) (n : Nat) (ov : Int) : Int := if ov = 1 then 20000 else if n = 0 then -1000 else W (n - 1) - b
def zml (lag : Nat → Int) : Nat → Int
  | 0 => 0
  | k + 1 => if lag k ≤ zml lag k then zml lag k else lag k
def zst (W : Nat → Int) (h : Int) : Nat → Nat
  | 0 => 0
  | n + 1 => if W n < h then n + 1 else zst W h n
def zEn (W P dead manner : Nat → Int) : Nat → Nat → Int
  | 0, _ => 0
  | x + 1, j => if j = (P x).toNat ∧ (zEn W P dead manner x (P x).toNat ≤ W x ∨ manner (P x).toNat = 1) then W x + dead (P x).toNat else zEn W P dead manner x j
def zlv (W P dead manner : Nat → Int) (x : Nat) : Bool := decide (zEn W P dead manner x (P x).toNat ≤ W x)
def zCfg (lag dead manner setting : Nat → Int) : Prop := (∀ k, k < 6 → (0 ≤ lag k ∧ lag k ≤ 30) ∧ (0 ≤ dead k ∧ dead k ≤ 50) ∧ (0 ≤ manner k ∧ manner k ≤ 1)) ∧ (0 ≤ setting 0 ∧ setting 0 ≤ 100) ∧ (0 ≤ setting 1 ∧ setting 1 ≤ 40) ∧ (2 ≤ setting 2 ∧ setting 2 ≤ 6) ∧ (0 ≤ setting 3 ∧ setting 3 ≤ 3)
def zKpt (W P S : Nat → Int) (n : Nat) : Prop := n ≤ 240 ∧ (∀ i, i < n → (0 ≤ W i ∧ W i ≤ 9999) ∧ (0 ≤ P i ∧ P i ≤ 5) ∧ (0 ≤ S i ∧ S i ≤ 15)) ∧ (zrl W P S n).Pairwise zle
def zVal (lag dead manner setting W P S : Nat → Int) (n : Nat) (ov : Int) : Prop := zCfg lag dead manner setting ∧ zKpt W P S n ∧ (ov = 0 ∨ ov = 1)
def zCM (t : zMT) (lag dead manner setting W P S : Nat → Int) (n : Nat) (ov : Int) : Prop := zm_lag t = lag ∧ zm_dead t = dead ∧ zm_manner t = manner ∧ zm_setting t = setting ∧ zm_kept t = (n : Int) ∧ zm_planeOf t = P ∧ zm_momentOf t = W ∧ zm_stripOf t = S ∧ zm_isOver t = ov
theorem zKpt_mono {W P S : Nat → Int} {n : Nat} (h : zKpt W P S n) {i j : Nat} (hij : i ≤ j) (hj : j < n) : W i ≤ W j := by
  by_cases e : i = j
  · subst e; exact Int.le_refl _
  · exact zle_fst (zrl_sorted.mp h.2.2 i j (by omega) hj)
theorem zhor_b {lag dead manner setting W P S : Nat → Int} {n : Nat} {ov : Int} (hv : zVal lag dead manner setting W P S n ov) : -1000 ≤ zhor (setting 0) W n ov ∧ zhor (setting 0) W n ov ≤ 20000 := by
  obtain ⟨⟨-, h0, -⟩, ⟨-, hb, -⟩, -⟩ := hv
  unfold zhor
  split
  · omega
  · split
    · omega
    · have := (hb (n - 1) (by omega)).1
      omega
theorem zml_b {lag : Nat → Int} (h : ∀ k, k < 6 → 0 ≤ lag k ∧ lag k ≤ 30) : ∀ i, i ≤ 6 → 0 ≤ zml lag i ∧ zml lag i ≤ 30 := by
  intro i
  induction i with
  | zero => intro _; exact ⟨Int.le_refl _, by show (0 : Int) ≤ 30; decide⟩
  | succ i ih =>
    intro hi
    have h1 := ih (by omega)
    have h2 := h i (by omega)
    unfold zml
    split <;> omega
theorem zml_ge {lag : Nat → Int} : ∀ i j, j < i → lag j ≤ zml lag i := by
  intro i
  induction i with
  | zero => intro j hj; omega
  | succ i ih =>
    intro j hj
    unfold zml
    by_cases e : j = i
    · subst e; split <;> omega
    · have := ih j (by omega)
      split <;> omega
theorem zst_le (W : Nat → Int) (h : Int) (n : Nat) : zst W h n ≤ n := by
  induction n with
  | zero => exact Nat.le_refl _
  | succ n ih => unfold zst; split <;> omega
theorem zst_after {W : Nat → Int} {h : Int} {n i : Nat} (h1 : zst W h n ≤ i) (h2 : i < n) : h ≤ W i := by
  induction n with
  | zero => omega
  | succ n ih =>
    unfold zst at h1
    split at h1
    · omega
    · by_cases e : i = n
      · subst e; omega
      · exact ih h1 (by omega)
theorem zst_last {W : Nat → Int} {h : Int} {n i : Nat} (h1 : zst W h n = i + 1) : W i < h := by
  induction n with
  | zero => simp [zst] at h1
  | succ n ih =>
    unfold zst at h1
    split at h1
    · rename_i hw
      have : n = i := by omega
      subst this; exact hw
    · exact ih h1
theorem zst_before {W P S : Nat → Int} {h : Int} {n i : Nat} (hk : zKpt W P S n) (h1 : i < zst W h n) : W i < h := by
  obtain ⟨k, hk2⟩ : ∃ k, zst W h n = k + 1 := ⟨zst W h n - 1, by omega⟩
  have h2 := zst_last hk2
  have h3 := zst_le W h n
  have h4 := zKpt_mono hk (show i ≤ k by omega) (by omega)
  omega
theorem zst_uniq {W : Nat → Int} {h : Int} {n m : Nat} (hm : m ≤ n) (h1 : ∀ i, i < m → W i < h) (h2 : ∀ i, m ≤ i → i < n → h ≤ W i) : zst W h n = m := by
  have h3 := zst_le W h n
  apply Classical.byContradiction
  intro hne
  rcases Nat.lt_or_gt_of_ne hne with hlt | hgt
  · have := zst_after (W := W) (h := h) (n := n) (i := zst W h n) (Nat.le_refl _) (by omega)
    have := h1 _ hlt
    omega
  · obtain ⟨k, hk⟩ : ∃ k, zst W h n = k + 1 := ⟨zst W h n - 1, by omega⟩
    have := zst_last hk
    have := h2 k (by omega) (by omega)
    omega
theorem zEn_b {W P dead manner : Nat → Int} {n : Nat} (hW : ∀ i, i < n → (0 ≤ W i ∧ W i ≤ 9999) ∧ (0 ≤ P i ∧ P i ≤ 5)) (hd : ∀ k, k < 6 → 0 ≤ dead k ∧ dead k ≤ 50) : ∀ x, x ≤ n → ∀ j, 0 ≤ zEn W P dead manner x j ∧ zEn W P dead manner x j ≤ 10049 := by
  intro x
  induction x with
  | zero => intro _ j; exact ⟨Int.le_refl _, by show (0 : Int) ≤ 10049; decide⟩
  | succ x ih =>
    intro hx j
    unfold zEn
    have h1 := hW x (by omega)
    have h2 := hd (P x).toNat (by omega)
    split
    · omega
    · exact ih (by omega) j
theorem zEn_congr {W P W' P' dead manner : Nat → Int} {x : Nat} (h : ∀ i, i < x → W i = W' i ∧ P i = P' i) : ∀ j, zEn W P dead manner x j = zEn W' P' dead manner x j := by
  induction x with
  | zero => intro j; rfl
  | succ x ih =>
    intro j
    obtain ⟨h1, h2⟩ := h x (by omega)
    unfold zEn
    have ih := ih (fun i hi => h i (by omega))
    rw [h1, h2, ih, ih]
section CoreM
variable {lag dead manner setting W P S : Nat → Int} {n : Nat} {ov : Int} {t : zMT}
theorem M_horizon (h : zCM t lag dead manner setting W P S n ov) (hv : zVal lag dead manner setting W P S n ov) : fX4_horizon t = some (zhor (setting 0) W n ov) := by
  obtain ⟨h1, h2, h3, h4, h5, h6, h7, h8, h9⟩ := h
  obtain ⟨-, ⟨hn, -, -⟩, hov⟩ := hv
  unfold fX4_horizon zhor
  rw [h9, h5, h7, h4]
  rcases hov with rfl | rfl
  · refine zyes (zE_t rfl) ?_
    show _ = some (if n = 0 then -1000 else W (n - 1) - setting 0)
    by_cases h0 : n = 0
    · subst h0
      exact zyes (zE_t rfl) rfl
    · refine zno (zE_f (by omega) (by omega) (by omega) (by omega) (by omega)) ?_
      rw [if_neg h0]
      show zg (zIn ((n : Int) - 1) 241) _ = _
      refine zok ⟨by omega, by omega⟩ (zok ⟨by omega, by omega⟩ ?_)
      rw [show ((n : Int) - 1) = ((n - 1 : Nat) : Int) by omega]
      rfl
  · refine zno (zE_f (by omega) (by omega) (by omega) (by omega) (by omega)) ?_
    rfl
theorem M_edge_loop (h : zCM t lag dead manner setting W P S n ov) (hv : zVal lag dead manner setting W P S n ov) : ∀ (k i zn : Nat), i + k = 6 → k < zn → fX4_edge_L4 zn t (zml lag i) (i : Int) = some (zml lag 6) := by
  intro k
  induction k with
  | zero =>
    intro i zn hik hz
    obtain ⟨zn, rfl⟩ : ∃ q, zn = q + 1 := ⟨zn - 1, by omega⟩
    have : i = 6 := by omega
    subst this
    rw [fX4_edge_L4_s]
    exact zyes (zLe_t (by omega) (by omega) (by omega)) rfl
  | succ k ih =>
    intro i zn hik hz
    obtain ⟨zn, rfl⟩ : ∃ q, zn = q + 1 := ⟨zn - 1, by omega⟩
    rw [fX4_edge_L4_s]
    have hl := hv.1.1 i (by omega)
    have hm := zml_b (fun k hk => (hv.1.1 k hk).1) i (by omega)
    have g : zIn (i : Int) 6 := ⟨by omega, by omega⟩
    refine zno (zLe_f (by omega) (by omega) (by omega)) (zok g ?_)
    rw [h.1, zcN]
    refine zb (a := zml lag (i + 1)) ?_ ?_
    · show _ = some (if lag i ≤ zml lag i then zml lag i else lag i)
      by_cases hc : lag i ≤ zml lag i
      · rw [if_pos hc]
        exact zyes (zLe_t hc (by omega) (by omega)) rfl
      · rw [if_neg hc]
        exact zno (zLe_f (by omega) (by omega) (by omega)) (zok g rfl)
    · rw [zc1]
      exact ih (i + 1) zn (by omega) (by omega)
theorem M_edge (h : zCM t lag dead manner setting W P S n ov) (hv : zVal lag dead manner setting W P S n ov) : fX4_edge t = some (zhor (setting 0) W n ov - zml lag 6) := by
  unfold fX4_edge
  refine zb (M_edge_loop h hv 6 0 zF (by omega) (by unfold zF; omega)) ?_
  exact zb (M_horizon h hv) rfl
theorem M_settled_loop (h : zCM t lag dead manner setting W P S n ov) (hv : zVal lag dead manner setting W P S n ov) : ∀ (k i zn : Nat) (acc : Int), i + k = n → k < zn → fX4_settled_L4 zn t acc (i : Int) = some (acc + (if i < zst W (zhor (setting 0) W n ov) n then ((zst W (zhor (setting 0) W n ov) n : Nat) : Int) - i else 0)) := by
  have hb := zhor_b hv
  intro k
  induction k with
  | zero =>
    intro i zn acc hik hz
    obtain ⟨zn, rfl⟩ : ∃ q, zn = q + 1 := ⟨zn - 1, by omega⟩
    have hle := zst_le W (zhor (setting 0) W n ov) n
    rw [fX4_settled_L4_s, h.2.2.2.2.1]
    have hn := hv.2.1.1
    refine zyes (zLe_t (by omega) (by omega) (by omega)) ?_
    rw [if_neg (by omega), Int.add_zero]
  | succ k ih =>
    intro i zn acc hik hz
    obtain ⟨zn, rfl⟩ : ∃ q, zn = q + 1 := ⟨zn - 1, by omega⟩
    have hn := hv.2.1.1
    have hw := (hv.2.1.2.1 i (by omega)).1
    rw [fX4_settled_L4_s, h.2.2.2.2.1]
    refine zno (zLe_f (by omega) (by omega) (by omega)) (zok ⟨by omega, by omega⟩ (zb (M_horizon h hv) ?_))
    rw [h.2.2.2.2.2.2.1, zcN]
    generalize hm : zst W (zhor (setting 0) W n ov) n = m at ih ⊢
    by_cases hc : i < m
    · have h1 := zst_before (h := zhor (setting 0) W n ov) hv.2.1 (by rw [hm]; exact hc)
      refine zb (zno (zLe_f (by omega) (by omega) (by omega)) rfl) (zlet ?_)
      rw [zc1]
      refine (ih (i + 1) zn _ (by omega) (by omega)).trans ?_
      rw [if_pos hc]
      split
      · congr 1; omega
      · congr 1; omega
    · have h1 := zst_after (h := zhor (setting 0) W n ov) (W := W) (n := n) (i := i) (by rw [hm]; omega) (by omega)
      refine zb (zyes (zLe_t (by omega) (by omega) (by omega)) rfl) (zlet ?_)
      rw [zc1]
      refine (ih (i + 1) zn _ (by omega) (by omega)).trans ?_
      rw [if_neg hc, if_neg (by omega)]
      congr 1; omega
theorem M_settled (h : zCM t lag dead manner setting W P S n ov) (hv : zVal lag dead manner setting W P S n ov) : fX4_settled t = some ((zst W (zhor (setting 0) W n ov) n : Nat) : Int) := by
  have hn := hv.2.1.1
  unfold fX4_settled
  refine zb (M_settled_loop h hv n 0 zF 0 (by omega) (by unfold zF; omega)) ?_
  split
  · congr 1; omega
  · congr 1; omega
theorem M_zero_loop : ∀ (k i zn : Nat) (E : Nat → Int), i + k = 6 → k < zn → (∀ j, j < i → E j = 0) → ∃ E', fX4_findLive_L2 zn t (i : Int) E = some E' ∧ ∀ j, j < 6 → E' j = 0 := by
  intro k
  induction k with
  | zero =>
    intro i zn E hik hz hE
    obtain ⟨zn, rfl⟩ : ∃ q, zn = q + 1 := ⟨zn - 1, by omega⟩
    rw [fX4_findLive_L2_s]
    exact ⟨E, zyes (zLe_t (by omega) (by omega) (by omega)) rfl, fun j hj => hE j (by omega)⟩
  | succ k ih =>
    intro i zn E hik hz hE
    obtain ⟨zn, rfl⟩ : ∃ q, zn = q + 1 := ⟨zn - 1, by omega⟩
    rw [fX4_findLive_L2_s]
    obtain ⟨E', h1, h2⟩ := ih (i + 1) zn (zu E (i : Int) 0) (by omega) (by omega) (fun j hj => by
      unfold zu
      rw [zcN]
      split
      · rfl
      · exact hE j (by omega))
    exact ⟨E', zno (zLe_f (by omega) (by omega) (by omega)) (zok ⟨by omega, by omega⟩ h1), h2⟩
theorem M_live_loop (h : zCM t lag dead manner setting W P S n ov) (hv : zVal lag dead manner setting W P S n ov) {m : Nat} (hm : m ≤ n) : ∀ (k i zn : Nat) (L E : Nat → Int), i + k = m → k < zn → (∀ j, j < 6 → E j = zEn W P dead manner i j) → ∃ L' E', fX4_findLive_L28 zn t (m : Int) (i : Int) L E = some (L', E') ∧ (∀ x, i ≤ x → x < m → L' x = if zlv W P dead manner x = true then 1 else 0) ∧ (∀ x, x < i → L' x = L x) := by
  have hn := hv.2.1.1
  intro k
  induction k with
  | zero =>
    intro i zn L E hik hz hE
    obtain ⟨zn, rfl⟩ : ∃ q, zn = q + 1 := ⟨zn - 1, by omega⟩
    rw [fX4_findLive_L28_s]
    exact ⟨L, E, zyes (zLe_t (by omega) (by omega) (by omega)) rfl, fun x h1 h2 => by omega, fun _ _ => rfl⟩
  | succ k ih =>
    intro i zn L E hik hz hE
    obtain ⟨zn, rfl⟩ : ∃ q, zn = q + 1 := ⟨zn - 1, by omega⟩
    obtain ⟨hw, hp, -⟩ := hv.2.1.2.1 i (by omega)
    obtain ⟨kp, hkp⟩ := Int.eq_ofNat_of_zero_le hp.1
    have hkp6 : kp < 6 := by omega
    have hPt : (P i).toNat = kp := by rw [hkp]; rfl
    have hen := zEn_b (manner := manner) (fun i hi => ⟨(hv.2.1.2.1 i hi).1, (hv.2.1.2.1 i hi).2.1⟩) (fun k hk => (hv.1.1 k hk).2.1) i (by omega) kp
    have hcf := hv.1.1 kp hkp6
    have g1 : zIn (i : Int) 241 := ⟨by omega, by omega⟩
    have g2 : zIn (i : Int) 240 := ⟨by omega, by omega⟩
    have g3 : zIn (P i) 6 := ⟨by omega, by omega⟩
    rw [fX4_findLive_L28_s]
    rw [h.2.1, h.2.2.1, h.2.2.2.2.2.1, h.2.2.2.2.2.2.1]
    simp only [zcN]
    obtain ⟨b, hb, hbv⟩ : ∃ b : Int, (if zLt (W i) (E (Int.toNat (P i))) then some (0 : Int) else some 1) = some b ∧ b = if zlv W P dead manner i = true then 1 else 0 := by
      rw [hPt, hE kp hkp6]
      unfold zlv
      rw [hPt]
      by_cases hc : zEn W P dead manner i kp ≤ W i
      · exact ⟨1, zno (zLt_f hc (by omega) (by omega)) rfl, by simp [hc]⟩
      · exact ⟨0, zyes (zLt_t (by omega) (by omega) (by omega)) rfl, by simp [hc]⟩
    have hb01 : b = 0 ∨ b = 1 := by rw [hbv]; split <;> omega
    have hzb : (zu L (i : Int) b) i = b := by unfold zu; rw [zcN, if_pos rfl]
    obtain ⟨v, hv1, hv2⟩ : ∃ v : Int, (if zE ((zu L (i : Int) b) i) 0 then zg (zIn (P i) 6) (if zE (manner (Int.toNat (P i))) 1 then zg (zIn (i : Int) 241) (zg (zIn (P i) 6) (some (W i + dead (Int.toNat (P i))))) else zg (zIn (P i) 6) (some (E (Int.toNat (P i))))) else zg (zIn (i : Int) 241) (zg (zIn (P i) 6) (some (W i + dead (Int.toNat (P i)))))) = some v ∧ v = zEn W P dead manner (i + 1) kp := by
      rw [hzb, hPt]
      have ez1 : (zEn W P dead manner i kp ≤ W i ∨ manner kp = 1) → W i + dead kp = zEn W P dead manner (i + 1) kp := fun hq => by
        show _ = ite _ _ _
        rw [hPt, if_pos ⟨rfl, hq⟩]
      have ez2 : ¬ (zEn W P dead manner i kp ≤ W i ∨ manner kp = 1) → zEn W P dead manner i kp = zEn W P dead manner (i + 1) kp := fun hq => by
        show _ = ite _ _ _
        rw [hPt, if_neg (fun z => hq z.2)]
      by_cases hc : zEn W P dead manner i kp ≤ W i
      · have e1 : b = 1 := by rw [hbv]; unfold zlv; rw [hPt]; simp [hc]
        rw [e1]
        exact ⟨_, zno (zE_f (by omega) (by omega) (by omega) (by omega) (by omega)) (zok g1 (zok g3 rfl)), ez1 (Or.inl hc)⟩
      · have e1 : b = 0 := by rw [hbv]; unfold zlv; rw [hPt]; simp [hc]
        rw [e1]
        by_cases hm1 : manner kp = 1
        · exact ⟨_, zyes (zE_t rfl) (zok g3 (zyes (zE_t hm1) (zok g1 (zok g3 rfl)))), ez1 (Or.inr hm1)⟩
        · exact ⟨_, zyes (zE_t rfl) (zok g3 (zno (zE_f hm1 (by omega) (by omega) (by omega) (by omega)) (zok g3 rfl))), (hE kp hkp6).trans (ez2 (by rintro (h1 | h1) <;> contradiction))⟩
    obtain ⟨L', E', i1, i2, i3⟩ := ih (i + 1) zn (zu L (i : Int) b) (zu E (P i) v) (by omega) (by omega) (fun j hj => by
      unfold zu
      rw [hPt]
      by_cases hjk : j = kp
      · subst hjk; rw [if_pos rfl, hv2]
      · rw [if_neg hjk, hE j hj]
        show _ = ite _ _ _
        rw [hPt, if_neg (by rintro ⟨h1, -⟩; exact hjk h1)])
    refine ⟨L', E', ?_, ?_, ?_⟩
    · refine zno (zLe_f (by omega) (by omega) (by omega)) (zok g1 (zlet (zok g1 (zok g3 ?_))))
      refine zb hb (zok g2 (zok hb01 (zok g2 ?_)))
      exact zb hv1 (zok g3 i1)
    · intro x hx1 hx2
      by_cases e : x = i
      · subst e
        rw [i3 x (by omega), hzb, hbv]
      · exact i2 x (by omega) hx2
    · intro x hx
      rw [i3 x (by omega)]
      unfold zu
      rw [zcN, if_neg (by omega)]
theorem M_findLive (h : zCM t lag dead manner setting W P S n ov) (hv : zVal lag dead manner setting W P S n ov) : ∃ L E, fX4_findLive t = some (L, E) ∧ ∀ x, x < zst W (zhor (setting 0) W n ov) n → L x = if zlv W P dead manner x = true then 1 else 0 := by
  have hn := hv.2.1.1
  have hle := zst_le W (zhor (setting 0) W n ov) n
  obtain ⟨E0, a1, a2⟩ := M_zero_loop (t := t) 6 0 zF (zm_endOf t) (by omega) (by unfold zF; omega) (fun j hj => by omega)
  obtain ⟨L, E, b1, b2, -⟩ := M_live_loop h hv hle (zst W (zhor (setting 0) W n ov) n) 0 zF (zm_isLive t) E0 (by omega) (by unfold zF; omega) (fun j hj => a2 j hj)
  refine ⟨L, E, ?_, fun x hx => b2 x (by omega) hx⟩
  unfold fX4_findLive
  refine zb a1 ?_
  refine zb (M_settled (show zCM _ lag dead manner setting W P S n ov from h) hv) ?_
  exact zb b1 rfl
end CoreM
