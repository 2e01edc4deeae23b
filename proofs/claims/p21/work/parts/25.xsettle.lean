/-! ===== PURE: the class: horizon, edge, what becomes settled ===== -/
def zLR (lag dead manner W P S : Nat → Int) (x : Nat) : List zP3 := zSR lag dead manner W P S 100000 (fun _ => 0) x
theorem zSR_congr {lag dead manner W P S W' P' S' : Nat → Int} {ed : Int} {sh : Int → Int} {x : Nat} (h : ∀ i, i < x → W i = W' i ∧ P i = P' i ∧ S i = S' i) : zSR lag dead manner W P S ed sh x = zSR lag dead manner W' P' S' ed sh x := by
  induction x with
  | zero => rfl
  | succ x ih =>
    obtain ⟨h1, h2, h3⟩ := h x (by omega)
    have ih := ih (fun i hi => h i (by omega))
    have e : zlv W P dead manner x = zlv W' P' dead manner x := by
      unfold zlv
      rw [zEn_congr (fun i hi => ⟨(h i (by omega)).1, (h i (by omega)).2.1⟩), h1, h2]
    unfold zSR
    rw [e, h1, h2, h3, ih]
theorem zSR_filter (lag dead manner W P S : Nat → Int) {ed : Int} {x : Nat} (hb : ∀ i, i < x → W i - lag (P i).toNat < 100000) : zSR lag dead manner W P S ed (fun _ => 0) x = (zLR lag dead manner W P S x).filter (fun a => decide (a.1 < ed)) := by
  induction x with
  | zero => rfl
  | succ x ih =>
    have ih := ih (fun i hi => hb i (by omega))
    have hbx := hb x (by omega)
    have hs := zSR_sorted lag dead manner W P S 100000 (fun _ => 0) x
    unfold zLR at ih ⊢
    unfold zSR
    by_cases hl : zlv W P dead manner x = true
    · rw [if_pos (show zlv W P dead manner x = true ∧ W x - lag (P x).toNat < 100000 from ⟨hl, hbx⟩), zins_filter _ hs]
      by_cases hc : W x - lag (P x).toNat < ed
      · rw [if_pos ⟨hl, hc⟩, if_pos (by simp only [Int.add_zero]; exact decide_eq_true hc), ih]
      · rw [if_neg (fun z => hc z.2), if_neg (by simp only [Int.add_zero, decide_eq_true_eq]; exact hc), ih]
    · rw [if_neg (fun z => hl z.1), if_neg (fun z => hl z.1), ih]
theorem zrl_filter {w p s : Nat → Int} {n : Nat} {ed : Int} (hs : (zrl w p s n).Pairwise zle) : (zrl w p s n).filter (fun a => decide (a.1 < ed)) = zrl w p s (zst w ed n) := by
  induction n with
  | zero => rfl
  | succ n ih =>
    have hs' : (zrl w p s n).Pairwise zle := by
      rw [zrl_succ] at hs
      exact (List.pairwise_append.mp hs).1
    have ih := ih hs'
    unfold zst
    by_cases hc : w n < ed
    · rw [if_pos hc]
      rw [List.filter_eq_self]
      intro a ha
      obtain ⟨i, hi, rfl⟩ := zrl_mem ha
      by_cases e : i = n
      · subst e; exact decide_eq_true hc
      · have := zle_fst (zrl_sorted.mp hs i n (by omega) (by omega))
        exact decide_eq_true (by show w i < ed; have h2 : w i ≤ w n := this; omega)
    · rw [if_neg hc, zrl_succ, List.filter_append, ih]
      simp [hc]
def zCX (t : zXT) (lag dead manner setting W P S : Nat → Int) (n : Nat) (ov : Int) : Prop := zx_lag t = lag ∧ zx_dead t = dead ∧ zx_manner t = manner ∧ zx_setting t = setting ∧ zx_keptRow t = zk_R W P S (n : Int) ∧ zx_ended t = ov
theorem zok3_sh {lw lp ls : Nat → Int} {ml pos : Nat} {a b c : Int} (hok : zok3 lw lp ls ml) (hb : zb3 a b c) (hle : pos ≤ ml) : zok3 (zsh lw pos ml a) (zsh lp pos ml b) (zsh ls pos ml c) (ml + 1) := by
  intro i hi
  unfold zsh
  by_cases h1 : i < pos
  · rw [if_pos h1, if_pos h1, if_pos h1]; exact hok i (by omega)
  · rw [if_neg h1, if_neg h1, if_neg h1]
    by_cases h2 : i = pos
    · rw [if_pos h2, if_pos h2, if_pos h2]; exact hb
    · rw [if_neg h2, if_neg h2, if_neg h2, if_pos (by omega), if_pos (by omega), if_pos (by omega)]; exact hok (i - 1) (by omega)
section CoreX
variable {lag dead manner setting W P S : Nat → Int} {n : Nat} {ov : Int} {t : zXT}
theorem X_latest (h : zCX t lag dead manner setting W P S n ov) (hv : zVal lag dead manner setting W P S n ov) : fX3_latest t = some (if n = 0 then -1 else W (n - 1)) := by
  have hn := hv.2.1.1
  unfold fX3_latest
  rw [h.2.2.2.2.1]
  show zl ((n : Int) - 1) (fun v1 => Option.bind (fX2_has (zk_R W P S (n : Int)) v1) (fun r2 => if zE r2 0 then some (-1) else zg (zIn v1 240) (some (W (Int.toNat v1))))) = _
  refine zlet ?_
  by_cases h0 : n = 0
  · rw [if_pos h0]
    exact zb (R_hasnt (ρ := zk_R W P S (n : Int)) (n := n) rfl (by omega) (Or.inl (by omega)) (by omega) (by omega)) (zyes z00 rfl)
  · rw [show ((n : Int) - 1) = ((n - 1 : Nat) : Int) by omega, if_neg h0]
    refine zhas (ρ := zk_R W P S (n : Int)) (n := n) rfl (by omega) (by omega) (zok ⟨by omega, by omega⟩ ?_)
    rw [zcN]
theorem X_horizon (h : zCX t lag dead manner setting W P S n ov) (hv : zVal lag dead manner setting W P S n ov) : fX3_horizon t = some (zhor (setting 0) W n ov) := by
  have hn := hv.2.1.1
  unfold fX3_horizon zhor
  rw [h.2.2.2.2.2, h.2.2.2.2.1, h.2.2.2.1]
  rcases hv.2.2 with rfl | rfl
  · refine zyes (zE_t rfl) ?_
    show (if zE (n : Int) 0 then some (-1000 : Int) else _) = some (if n = 0 then -1000 else W (n - 1) - setting 0)
    by_cases h0 : n = 0
    · subst h0
      exact zyes (zE_t rfl) rfl
    · refine zno (zE_f (by omega) (by omega) (by omega) (by omega) (by omega)) ?_
      rw [if_neg h0]
      refine zb (X_latest h hv) ?_
      rw [if_neg h0]
      exact zok ⟨by omega, by omega⟩ rfl
  · refine zno (zE_f (by omega) (by omega) (by omega) (by omega) (by omega)) ?_
    rfl
theorem X_edge_loop (h : zCX t lag dead manner setting W P S n ov) (hv : zVal lag dead manner setting W P S n ov) : ∀ (k i zn : Nat), i + k = 6 → k < zn → fX3_edge_L4 zn t (zml lag i) (i : Int) = some (zml lag 6) := by
  intro k
  induction k with
  | zero =>
    intro i zn hik hz
    obtain ⟨zn, rfl⟩ : ∃ q, zn = q + 1 := ⟨zn - 1, by omega⟩
    have : i = 6 := by omega
    subst this
    rw [fX3_edge_L4_s]
    exact zyes (zLe_t (by omega) (by omega) (by omega)) rfl
  | succ k ih =>
    intro i zn hik hz
    obtain ⟨zn, rfl⟩ : ∃ q, zn = q + 1 := ⟨zn - 1, by omega⟩
    rw [fX3_edge_L4_s]
    have hl := hv.1.1 i (by omega)
    have hm := zml_b (fun k hk => (hv.1.1 k hk).1) i (by omega)
    have g : zIn (i : Int) 6 := ⟨by omega, by omega⟩
    refine zno (zLe_f (by omega) (by omega) (by omega)) (zok g (zlet ?_))
    rw [h.1, zcN]
    have e : zmax (zml lag i) (lag i) = zml lag (i + 1) := by
      unfold zmax
      show _ = (if lag i ≤ zml lag i then zml lag i else lag i)
      by_cases hc : lag i ≤ zml lag i
      · rw [if_pos hc, if_neg (zLt_f hc (by omega) (by omega))]
      · rw [if_neg hc, if_pos (zLt_t (by omega) (by omega) (by omega))]
    rw [e, zc1]
    exact ih (i + 1) zn (by omega) (by omega)
theorem X_edge (h : zCX t lag dead manner setting W P S n ov) (hv : zVal lag dead manner setting W P S n ov) : fX3_edge t = some (zhor (setting 0) W n ov - zml lag 6) := by
  unfold fX3_edge
  refine zb (X_edge_loop h hv 6 0 zF (by omega) (by unfold zF; omega)) ?_
  exact zb (X_horizon h hv) rfl
/-- the row of the live ones so far, and the ENDs -/
def zLv (lag dead manner W P S : Nat → Int) (x : Nat) (ρ : zRowT) (du : Nat → Int) : Prop := (∀ j, j < 6 → du j = zEn W P dead manner x j) ∧ ∃ (lw lp ls : Nat → Int) (ml : Nat), ρ = zk_R lw lp ls (ml : Int) ∧ ml ≤ x ∧ zrl lw lp ls ml = zLR lag dead manner W P S x ∧ zok3 lw lp ls ml
theorem X_settle (h : zCX t lag dead manner setting W P S n ov) (hv : zVal lag dead manner setting W P S n ov) {x : Nat} (hx : x < n) (hL : zLv lag dead manner W P S x (zx_liveRow t) (zx_deadUntil t)) : ∃ ρ du, fX3_settle t (W x) (P x) (S x) = some (ρ, du) ∧ zLv lag dead manner W P S (x + 1) ρ du := by
  have hn := hv.2.1.1
  obtain ⟨hdu, lw, lp, ls, ml, hρ, hml, hrl, hok⟩ := hL
  obtain ⟨hw, hp, hs⟩ := hv.2.1.2.1 x hx
  obtain ⟨kp, hkp⟩ := Int.eq_ofNat_of_zero_le hp.1
  have hkp6 : kp < 6 := by omega
  have hPt : (P x).toNat = kp := by rw [hkp]; rfl
  have hen := zEn_b (manner := manner) (fun i hi => ⟨(hv.2.1.2.1 i hi).1, (hv.2.1.2.1 i hi).2.1⟩) (fun k hk => (hv.1.1 k hk).2.1) x (by omega) kp
  have hcf := hv.1.1 kp hkp6
  have g3 : zIn (P x) 6 := ⟨by omega, by omega⟩
  have hsd := zSR_sorted lag dead manner W P S 100000 (fun _ => 0) x
  have ez1 : (zEn W P dead manner x kp ≤ W x ∨ manner kp = 1) → ∀ j, j < 6 → zu (zx_deadUntil t) (P x) (W x + dead kp) j = zEn W P dead manner (x + 1) j := fun hq j hj => by
    show (if j = (P x).toNat then _ else _) = ite _ _ _
    rw [hPt]
    by_cases e : j = kp
    · subst e; rw [if_pos rfl, if_pos ⟨rfl, hq⟩]
    · rw [if_neg e, if_neg (fun z => e z.1)]; exact hdu j hj
  have ez2 : ¬ (zEn W P dead manner x kp ≤ W x ∨ manner kp = 1) → ∀ j, j < 6 → zx_deadUntil t j = zEn W P dead manner (x + 1) j := fun hq j hj => by
    show _ = ite _ _ _
    rw [hPt, if_neg (fun z => hq z.2)]; exact hdu j hj
  have hpl : fX3_isPlane (P x) = some 1 := P3t ⟨by omega, by omega⟩ hp
  unfold fX3_settle
  rw [h.2.2.1, h.2.1, h.1]
  by_cases hc : zEn W P dead manner x kp ≤ W x
  · have hlr : zLR lag dead manner W P S (x + 1) = zins (W x - lag kp + 0, P x, S x) (zLR lag dead manner W P S x) := by
      show ite _ _ _ = _
      rw [hPt, if_pos ⟨by unfold zlv; rw [hPt]; exact decide_eq_true hc, by omega⟩]
      rfl
    rw [Int.add_zero] at hlr
    have hsd2 : (zrl lw lp ls ml).Pairwise zle := by rw [hrl]; exact hsd
    have hb3 : zb3 (W x - lag kp) (P x) (S x) := ⟨by omega, hp, hs⟩
    have hins := R_insert (n := ml) (by omega) hok hb3
    refine ⟨_, _, zb hpl (zno z10 (zok g3 (zb (zno (zLt_f (show zx_deadUntil t (Int.toNat (P x)) ≤ W x by rw [hPt, hdu kp hkp6]; exact hc) (by rw [hPt, hdu kp hkp6]; omega) (by omega)) rfl) (zb (zno (zE_f (by omega) (by omega) (by omega) (by omega) (by omega)) (zok g3 (zb (by rw [hρ, hPt]; exact hins) rfl))) (zno (zE_f (by omega) (by omega) (by omega) (by omega) (by omega)) (zok g3 (zok g3 rfl))))))), ?_⟩
    refine ⟨?_, zsh lw (zpos lw lp ls (W x - lag kp, P x, S x) ml) ml (W x - lag kp), zsh lp (zpos lw lp ls (W x - lag kp, P x, S x) ml) ml (P x), zsh ls (zpos lw lp ls (W x - lag kp, P x, S x) ml) ml (S x), ml + 1, rfl, by omega, ?_, ?_⟩
    · rw [hPt]; exact ez1 (Or.inl hc)
    · rw [zrl_ins hsd2, hrl, hlr]
    · exact zok3_sh hok hb3 (zpos_le lw lp ls (W x - lag kp, P x, S x) ml)
  · have hlr : zLR lag dead manner W P S (x + 1) = zLR lag dead manner W P S x := by
      show ite _ _ _ = _
      rw [if_neg (fun z => hc (by have := z.1; unfold zlv at this; rw [hPt] at this; exact of_decide_eq_true this))]
      rfl
    have hk : ∀ du', (∀ j, j < 6 → du' j = zEn W P dead manner (x + 1) j) → zLv lag dead manner W P S (x + 1) (zx_liveRow t) du' := fun du' hd => ⟨hd, lw, lp, ls, ml, hρ, by omega, by rw [hrl, hlr], hok⟩
    by_cases hm1 : manner kp = 1
    · refine ⟨_, _, zb hpl (zno z10 (zok g3 (zb (zyes (zLt_t (show W x < zx_deadUntil t (Int.toNat (P x)) by rw [hPt, hdu kp hkp6]; omega) (by omega) (by rw [hPt, hdu kp hkp6]; omega)) rfl) (zb (zyes (zE_t rfl) rfl) (zyes (zE_t rfl) (zok g3 (zyes (zE_t (by rw [hPt]; exact hm1)) (zok g3 (zok g3 rfl))))))))), ?_⟩
      rw [hPt]
      exact hk _ (ez1 (Or.inr hm1))
    · refine ⟨_, _, zb hpl (zno z10 (zok g3 (zb (zyes (zLt_t (show W x < zx_deadUntil t (Int.toNat (P x)) by rw [hPt, hdu kp hkp6]; omega) (by omega) (by rw [hPt, hdu kp hkp6]; omega)) rfl) (zb (zyes (zE_t rfl) rfl) (zyes (zE_t rfl) (zok g3 (zno (by rw [hPt]; exact zE_f hm1 (by omega) (by omega) (by omega) (by omega)) rfl))))))), ?_⟩
      exact hk _ (ez2 (by rintro (h1 | h1) <;> contradiction))
theorem X_settle_loop (h : zCX t lag dead manner setting W P S n ov) (hv : zVal lag dead manner setting W P S n ov) : ∀ (k i zn : Nat) (ρ : zRowT) (du : Nat → Int), i + k = zst W (zhor (setting 0) W n ov) n → k < zn → zLv lag dead manner W P S i ρ du →
    ∃ ρ' du', fX3_settleBelow_L0 zn t (zhor (setting 0) W n ov) ρ du (i : Int) = some (ρ', du', ((zst W (zhor (setting 0) W n ov) n : Nat) : Int)) ∧ zLv lag dead manner W P S (zst W (zhor (setting 0) W n ov) n) ρ' du' := by
  have hn := hv.2.1.1
  have hle := zst_le W (zhor (setting 0) W n ov) n
  have hhb := zhor_b hv
  have hkr := h.2.2.2.2.1
  intro k
  induction k with
  | zero =>
    intro i zn ρ du hik hz hL
    obtain ⟨zn, rfl⟩ : ∃ q, zn = q + 1 := ⟨zn - 1, by omega⟩
    have e : i = zst W (zhor (setting 0) W n ov) n := by omega
    rw [fX3_settleBelow_L0_s, hkr]
    refine ⟨ρ, du, ?_, by rw [← e]; exact hL⟩
    rw [← e]
    show (if zLe (n : Int) (i : Int) then _ else zg (zIn (i : Int) 240) (if zLe (zhor (setting 0) W n ov) (W (Int.toNat (i : Int))) then _ else _)) = _
    by_cases hc : i = n
    · exact zyes (zLe_t (by omega) (by omega) (by omega)) rfl
    · have h1 := zst_after (W := W) (h := zhor (setting 0) W n ov) (n := n) (i := i) (by omega) (by omega)
      have hw := (hv.2.1.2.1 i (by omega)).1
      exact zno (zLe_f (by omega) (by omega) (by omega)) (zok ⟨by omega, by omega⟩ (zyes (zLe_t h1 (by omega) (by rw [zcN]; omega)) rfl))
  | succ k ih =>
    intro i zn ρ du hik hz hL
    obtain ⟨zn, rfl⟩ : ∃ q, zn = q + 1 := ⟨zn - 1, by omega⟩
    have h1 := zst_before (h := zhor (setting 0) W n ov) hv.2.1 (show i < zst W (zhor (setting 0) W n ov) n by omega)
    have hw := (hv.2.1.2.1 i (by omega)).1
    have g1 : zIn (i : Int) 240 := ⟨by omega, by omega⟩
    rw [fX3_settleBelow_L0_s]
    obtain ⟨ρ1, du1, a1, a2⟩ := X_settle (t := zk_X (zx_lag t) (zx_dead t) (zx_manner t) (zx_setting t) (zx_keptRow t) ρ (zx_shiftedRow t) (zx_groups t) (zx_search t) du (i : Int) (zx_known t) (zx_tooLate t) (zx_ended t)) (show zCX _ lag dead manner setting W P S n ov from h) hv (x := i) (by omega) hL
    obtain ⟨ρ2, du2, b1, b2⟩ := ih (i + 1) zn ρ1 du1 (by omega) (by omega) a2
    refine ⟨ρ2, du2, ?_, b2⟩
    refine zno (by rw [hkr]; exact zLe_f (show (i : Int) < (n : Int) by omega) (by omega) (by show (n : Int) < _; omega)) (zok g1 (zno (by rw [hkr]; exact zLe_f (show W i < _ from h1) (by show _ ≤ W i; omega) (by omega)) (zok g1 (zok g1 (zok g1 ?_)))))
    refine zb (a := (ρ1, du1)) ?_ b1
    rw [hkr] at a1 ⊢
    exact a1
end CoreX
