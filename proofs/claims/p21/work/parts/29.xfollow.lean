/-! ===== PURE: the class: its whole state, and how it follows ===== -/
def zIX (t : zXT) (lag dead manner setting W P S : Nat → Int) (n : Nat) (ov hz : Int) : Prop :=
  zCX t lag dead manner setting W P S n ov ∧ zx_settled t = ((zst W hz n : Nat) : Int) ∧ (∀ j, j < 6 → zx_deadUntil t j = zEn W P dead manner (zst W hz n) j) ∧
  ∃ (lw lp ls : Nat → Int) (ml : Nat), zx_liveRow t = zk_R lw lp ls (ml : Int) ∧ ml ≤ zst W hz n ∧ zrl lw lp ls ml = zLR lag dead manner W P S (zst W hz n) ∧ zok3 lw lp ls ml ∧
    zx_known t = ((zst lw (hz - zml lag 6) ml : Nat) : Int) ∧
    ∃ (g : Nat) (fA : Nat → Nat), zXG lw lp ls (zst lw (hz - zml lag 6) ml) (setting 1) (hz - zml lag 6) (setting 3) (setting 2) (zx_groups t) g fA ∧ (fA g = zst lw (hz - zml lag 6) ml ∨ hz - zml lag 6 ≤ lw (fA g) + setting 1)
theorem zst_mono {w : Nat → Int} {h h' : Int} (hh : h ≤ h') (n : Nat) : zst w h n ≤ zst w h' n := by
  induction n with
  | zero => exact Nat.le_refl _
  | succ n ih =>
    unfold zst
    have h2 := zst_le w h n
    have h3 := zst_le w h' n
    by_cases c : w n < h
    · rw [if_pos c, if_pos (by omega)]; exact Nat.le_refl _
    · rw [if_neg c]
      by_cases c2 : w n < h'
      · rw [if_pos c2]; omega
      · rw [if_neg c2]; exact ih
theorem zSR_skip {lag dead manner W P S : Nat → Int} {ed : Int} {sh : Int → Int} {x : Nat} : ∀ k, (∀ i, x ≤ i → i < x + k → ed ≤ W i - lag (P i).toNat) → zSR lag dead manner W P S ed sh (x + k) = zSR lag dead manner W P S ed sh x := by
  intro k
  induction k with
  | zero => intro _; rfl
  | succ k ih =>
    intro h
    rw [← ih (fun i h1 h2 => h i h1 (by omega))]
    have := h (x + k) (by omega) (by omega)
    rw [show x + (k + 1) = (x + k) + 1 from rfl, zSR]
    rw [if_neg (fun z => by have := z.2; omega)]
theorem zrl_mono {w p s : Nat → Int} {n : Nat} (h : (zrl w p s n).Pairwise zle) : ∀ i j, i ≤ j → j < n → w i ≤ w j := by
  intro i j hij hj
  by_cases e : i = j
  · subst e; exact Int.le_refl _
  · exact zle_fst (zrl_sorted.mp h i j (by omega) hj)
section FollowX
variable {lag dead manner setting W P S : Nat → Int} {n : Nat} {ov hz : Int} {t : zXT}
theorem zlag_b (hv : zVal lag dead manner setting W P S n ov) {i : Nat} (hi : i < n) : 0 ≤ lag (P i).toNat ∧ lag (P i).toNat ≤ zml lag 6 ∧ lag (P i).toNat ≤ 30 := by
  have hp := (hv.2.1.2.1 i hi).2.1
  have h6 : (P i).toNat < 6 := by omega
  have := hv.1.1 (P i).toNat h6
  exact ⟨this.1.1, zml_ge 6 _ h6, this.1.2⟩
theorem zfilt (hv : zVal lag dead manner setting W P S n ov) {x : Nat} (hx : x ≤ n) {lw lp ls : Nat → Int} {ml : Nat} (ed : Int) (h : zrl lw lp ls ml = zLR lag dead manner W P S x) : zrl lw lp ls (zst lw ed ml) = zSR lag dead manner W P S ed (fun _ => 0) x := by
  rw [zSR_filter lag dead manner W P S (fun i hi => by
    have h1 := (hv.2.1.2.1 i (by omega)).1
    have h2 := zlag_b hv (i := i) (by omega)
    omega)]
  rw [← h]
  refine (zrl_filter ?_).symm
  rw [h]
  exact zSR_sorted lag dead manner W P S 100000 (fun _ => 0) x
theorem X_follow (hv : zVal lag dead manner setting W P S n ov) (hI : zIX t lag dead manner setting W P S n ov hz) (hle : hz ≤ zhor (setting 0) W n ov) (hzb : -1000 ≤ hz) : ∃ ρ γ σ du sd kd, fX3_follow t = some (ρ, γ, σ, du, sd, kd) ∧
    zIX (zk_X (zx_lag t) (zx_dead t) (zx_manner t) (zx_setting t) (zx_keptRow t) ρ (zx_shiftedRow t) γ σ du sd kd (zx_tooLate t) (zx_ended t)) lag dead manner setting W P S n ov (zhor (setting 0) W n ov) := by
  obtain ⟨hc, hsd, hdu, lw, lp, ls, ml, hr, hml, hrl, hok, hkn, g, fA, hg, hcm⟩ := hI
  have hn := hv.2.1.1
  have hhb := zhor_b hv
  have hmb := zml_b (fun k hk => (hv.1.1 k hk).1) 6 (by omega)
  have hx01 := zst_mono (w := W) hle n
  have hx1n := zst_le W (zhor (setting 0) W n ov) n
  obtain ⟨ρ, du, a1, a2⟩ := X_settle_loop hc hv (zst W (zhor (setting 0) W n ov) n - zst W hz n) (zst W hz n) zF (zx_liveRow t) (zx_deadUntil t) (by omega) (by unfold zF; omega) ⟨hdu, lw, lp, ls, ml, hr, hml, hrl, hok⟩
  obtain ⟨hdu', lw', lp', ls', ml', hr', hml', hrl', hok'⟩ := a2
  have f1 := zfilt hv (ed := hz - zml lag 6) (by omega) hrl
  have f2 := zfilt hv (ed := hz - zml lag 6) (by omega) hrl'
  have f3 : zSR lag dead manner W P S (hz - zml lag 6) (fun _ => 0) (zst W (zhor (setting 0) W n ov) n) = zSR lag dead manner W P S (hz - zml lag 6) (fun _ => 0) (zst W hz n) := by
    have := zSR_skip (lag := lag) (dead := dead) (manner := manner) (W := W) (P := P) (S := S) (ed := hz - zml lag 6) (sh := fun _ => 0) (x := zst W hz n) (zst W (zhor (setting 0) W n ov) n - zst W hz n) (fun i h1 h2 => by
      have h3 := zst_after (W := W) (h := hz) (n := n) (i := i) h1 (by omega)
      have h4 := zlag_b hv (i := i) (by omega)
      omega)
    rw [show zst W hz n + (zst W (zhor (setting 0) W n ov) n - zst W hz n) = zst W (zhor (setting 0) W n ov) n by omega] at this
    exact this
  have f4 : zrl lw lp ls (zst lw (hz - zml lag 6) ml) = zrl lw' lp' ls' (zst lw' (hz - zml lag 6) ml') := by rw [f1, f2, f3]
  have ek : zst lw (hz - zml lag 6) ml = zst lw' (hz - zml lag 6) ml' := by
    have := congrArg List.length f4
    rwa [zrl_len, zrl_len] at this
  rw [← ek] at f4
  have hinj := zrl_inj f4
  have hmono' := zrl_mono (w := lw') (p := lp') (s := ls') (n := ml') (by rw [hrl']; exact zSR_sorted lag dead manner W P S 100000 (fun _ => 0) _)
  have hkk := zst_mono (w := lw') (show hz - zml lag 6 ≤ zhor (setting 0) W n ov - zml lag 6 by omega) ml'
  rw [← ek] at hkk
  have hk2 := zst_le lw' (zhor (setting 0) W n ov - zml lag 6) ml'
  have hg' := zXG_grow (lw' := lw') (lp' := lp') (ls' := ls') hkk (show hz - zml lag 6 ≤ zhor (setting 0) W n ov - zml lag 6 by omega) hinj (fun i h1 h2 => by
    rw [ek] at h1
    exact zst_after h1 (by omega)) hg
  have hkl := X_known_loop (t := t) (du := du) (sd := ((zst W (zhor (setting 0) W n ov) n : Nat) : Int)) (ed := zhor (setting 0) W n ov - zml lag 6) (ml := ml') (by omega) hmono' hok' (by omega) (zst lw' (zhor (setting 0) W n ov - zml lag 6) ml' - zst lw (hz - zml lag 6) ml) (zst lw (hz - zml lag 6) ml) zF (by omega) (by unfold zF; omega)
  obtain ⟨γ, σ, g2, fA2, c1, c2, c3⟩ := X_shut_loop (t := t) (lag := lag) (dead := dead) (manner := manner) (du := du) (sd := ((zst W (zhor (setting 0) W n ov) n : Nat) : Int)) (ed := zhor (setting 0) W n ov - zml lag 6) (ml := ml') hv.1 hc.2.2.2.1 hk2 (by omega) hok' (by omega) 240 0 zF g (zx_groups t) (zx_search t) fA (by omega) (by unfold zF; omega) (by omega) hg'
  refine ⟨ρ, γ, σ, du, ((zst W (zhor (setting 0) W n ov) n : Nat) : Int), ((zst lw' (zhor (setting 0) W n ov - zml lag 6) ml' : Nat) : Int), ?_, ⟨hc.1, hc.2.1, hc.2.2.1, hc.2.2.2.1, hc.2.2.2.2.1, hc.2.2.2.2.2⟩, rfl, hdu', lw', lp', ls', ml', hr', hml', hrl', hok', rfl, g2, fA2, c2, c3⟩
  unfold fX3_follow
  refine zb (X_horizon hc hv) ?_
  refine zb (a := (ρ, du, ((zst W (zhor (setting 0) W n ov) n : Nat) : Int))) ?_ ?_
  · unfold fX3_settleBelow
    rw [hsd]
    exact zb a1 rfl
  · refine zb (X_edge (show zCX _ lag dead manner setting W P S n ov from hc) hv) ?_
    rw [hkn]
    refine zb (by rw [hr']; exact hkl) ?_
    refine zb (by rw [hr']; exact c1) rfl
end FollowX
