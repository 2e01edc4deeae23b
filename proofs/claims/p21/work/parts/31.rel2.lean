/-! ===== PURE: pulse, end, anew keep the relation ===== -/
theorem zIX_ins {t t' : zXT} {lag dead manner setting W P S : Nat → Int} {n : Nat} {ov hz a b c : Int} (hv : zVal lag dead manner setting W P S n ov) (hI : zIX t lag dead manner setting W P S n ov hz) (ha : hz ≤ a)
    (e1 : zx_lag t' = zx_lag t) (e2 : zx_dead t' = zx_dead t) (e3 : zx_manner t' = zx_manner t) (e4 : zx_setting t' = zx_setting t) (e5 : zx_keptRow t' = zk_R (zsh W (zpos W P S (a, b, c) n) n a) (zsh P (zpos W P S (a, b, c) n) n b) (zsh S (zpos W P S (a, b, c) n) n c) ((n + 1 : Nat) : Int)) (e6 : zx_ended t' = zx_ended t) (e7 : zx_settled t' = zx_settled t) (e8 : zx_deadUntil t' = zx_deadUntil t) (e9 : zx_liveRow t' = zx_liveRow t) (e10 : zx_known t' = zx_known t) (e11 : zx_groups t' = zx_groups t) :
    zIX t' lag dead manner setting (zsh W (zpos W P S (a, b, c) n) n a) (zsh P (zpos W P S (a, b, c) n) n b) (zsh S (zpos W P S (a, b, c) n) n c) (n + 1) ov hz := by
  obtain ⟨hc, hsd, hdu, lw, lp, ls, ml, hr, hml, hrl, hok, hkn, g, fA, hg, hcm⟩ := hI
  have hxn := zst_le W hz n
  have hpn := zpos_le W P S (a, b, c) n
  have hxp : zst W hz n ≤ zpos W P S (a, b, c) n := by
    by_cases q : zst W hz n ≤ zpos W P S (a, b, c) n
    · exact q
    · exfalso
      have h1 := zst_before (h := hz) hv.2.1 (show zpos W P S (a, b, c) n < zst W hz n by omega)
      exact zpos_after (w := W) (p := P) (s := S) (a := (a, b, c)) (Nat.le_refl _) (show zpos W P S (a, b, c) n < n by omega) (Or.inl (by show W _ < a; omega))
  have hW : ∀ i, i < zst W hz n → W i = zsh W (zpos W P S (a, b, c) n) n a i ∧ P i = zsh P (zpos W P S (a, b, c) n) n b i ∧ S i = zsh S (zpos W P S (a, b, c) n) n c i := by
    intro i hi
    unfold zsh
    rw [if_pos (show i < zpos W P S (a, b, c) n by omega), if_pos (show i < zpos W P S (a, b, c) n by omega), if_pos (show i < zpos W P S (a, b, c) n by omega)]
    exact ⟨rfl, rfl, rfl⟩
  have ex : zst (zsh W (zpos W P S (a, b, c) n) n a) hz (n + 1) = zst W hz n := by
    refine zst_uniq (by omega) (fun i hi => ?_) (fun i h1 h2 => ?_)
    · rw [← (hW i hi).1]; exact zst_before hv.2.1 hi
    · unfold zsh
      by_cases q1 : i < zpos W P S (a, b, c) n
      · rw [if_pos q1]; exact zst_after h1 (by omega)
      · rw [if_neg q1]
        by_cases q2 : i = zpos W P S (a, b, c) n
        · rw [if_pos q2]; exact ha
        · rw [if_neg q2, if_pos (by omega)]; exact zst_after (n := n) (by omega) (by omega)
  refine ⟨⟨e1.trans hc.1, e2.trans hc.2.1, e3.trans hc.2.2.1, e4.trans hc.2.2.2.1, e5, e6.trans hc.2.2.2.2.2⟩, ?_⟩
  rw [ex, e7, e8, e9, e10, e11]
  refine ⟨hsd, fun j hj => ?_, lw, lp, ls, ml, hr, hml, ?_, hok, hkn, g, fA, hg, hcm⟩
  · rw [hdu j hj]; exact zEn_congr (fun i hi => ⟨(hW i hi).1, (hW i hi).2.1⟩) j
  · rw [hrl]; exact zSR_congr hW
theorem zVal_ins {lag dead manner setting W P S : Nat → Int} {n : Nat} {ov a b c : Int} (hv : zVal lag dead manner setting W P S n ov) (hn : n < 240) (ha : 0 ≤ a ∧ a ≤ 9999) (hb : 0 ≤ b ∧ b ≤ 5) (hcc : 0 ≤ c ∧ c ≤ 15) :
    zVal lag dead manner setting (zsh W (zpos W P S (a, b, c) n) n a) (zsh P (zpos W P S (a, b, c) n) n b) (zsh S (zpos W P S (a, b, c) n) n c) (n + 1) ov := by
  have hpn := zpos_le W P S (a, b, c) n
  refine ⟨hv.1, ⟨by omega, fun i hi => ?_, ?_⟩, hv.2.2⟩
  · unfold zsh
    by_cases q1 : i < zpos W P S (a, b, c) n
    · rw [if_pos q1, if_pos q1, if_pos q1]; exact hv.2.1.2.1 i (by omega)
    · rw [if_neg q1, if_neg q1, if_neg q1]
      by_cases q2 : i = zpos W P S (a, b, c) n
      · rw [if_pos q2, if_pos q2, if_pos q2]; exact ⟨ha, hb, hcc⟩
      · rw [if_neg q2, if_neg q2, if_neg q2, if_pos (by omega), if_pos (by omega), if_pos (by omega)]; exact hv.2.1.2.1 (i - 1) (by omega)
  · rw [zrl_ins hv.2.1.2.2]; exact zins_sorted hv.2.1.2.2
theorem zhor_ins {lag dead manner setting W P S : Nat → Int} {n : Nat} {ov a b c : Int} (hv : zVal lag dead manner setting W P S n ov) (ha : 0 ≤ a) : zhor (setting 0) W n ov ≤ zhor (setting 0) (zsh W (zpos W P S (a, b, c) n) n a) (n + 1) ov := by
  have hpn := zpos_le W P S (a, b, c) n
  have hs := hv.1.2.1
  unfold zhor
  by_cases q : ov = 1
  · rw [if_pos q, if_pos q]; exact Int.le_refl _
  · rw [if_neg q, if_neg q, if_neg (show ¬ (n + 1 = 0) by omega), show n + 1 - 1 = n by omega]
    unfold zsh
    by_cases q0 : n = 0
    · rw [if_pos q0]
      subst q0
      have : zpos W P S (a, b, c) 0 = 0 := by omega
      rw [this, if_neg (by omega), if_pos rfl]
      omega
    · rw [if_neg q0]
      by_cases q1 : zpos W P S (a, b, c) n = n
      · rw [q1, if_neg (by omega), if_pos rfl]
        obtain ⟨m, rfl⟩ : ∃ m, n = m + 1 := ⟨n - 1, by omega⟩
        have h2 : W m ≤ a := zle_fst (zpos_before (w := W) (p := P) (s := S) q1)
        rw [show m + 1 - 1 = m by omega]
        omega
      · rw [if_neg (by omega), if_neg (by omega), if_pos (Nat.le_refl _)]
        exact Int.le_refl _
theorem L_pulse {t : zXT} {t2 : zMT} (h : zRel t t2) {p1 p2 p3 : Int} (r1 : zR p1) (r2 : zR p2) (r3 : zR p3) : ∃ a kr lr gr se du sd kd tl k' P' W' S' l', fX3_pulse t p1 p2 p3 = some (a, kr, lr, gr, se, du, sd, kd, tl) ∧ fX4_pulse t2 p1 p2 p3 = some (a, k', P', W', S', l') ∧
    zRel (zk_X (zx_lag t) (zx_dead t) (zx_manner t) (zx_setting t) kr lr (zx_shiftedRow t) gr se du sd kd tl (zx_ended t)) (zk_M (zm_lag t2) (zm_dead t2) (zm_manner t2) (zm_setting t2) (zm_leastOf t2) (zm_mostOf t2) k' P' W' S' l' (zm_isOver t2) (zm_isLive t2) (zm_endOf t2) (zm_known t2) (zm_timeOf t2) (zm_pulseOf t2) (zm_groupOf t2) (zm_groups t2) (zm_shut t2) (zm_firstOf t2) (zm_agrees t2) (zm_agreeSet t2) (zm_missed t2) (zm_bestA t2) (zm_bestB t2) (zm_bestAgrees t2) (zm_bestMissed t2)) := by
  unfold fX3_pulse fX4_pulse
  by_cases c1 : 0 ≤ p1 ∧ p1 ≤ 5
  case neg => exact ⟨-1, _, _, _, _, _, _, _, _, _, _, _, _, _, zb (P3f r1 c1) (zyes z00 rfl), zb (P4f r1 c1) (zyes z00 rfl), h⟩
  by_cases c2 : 0 ≤ p2 ∧ p2 ≤ 9999
  case neg => exact ⟨-2, _, _, _, _, _, _, _, _, _, _, _, _, _, zb (P3t r1 c1) (zno z10 (zb (W3f r2 c2 (by omega) (by omega)) (zyes z00 rfl))), zb (P4t r1 c1) (zno z10 (zb (W4f r2 c2 (by omega) (by omega)) (zyes z00 rfl))), h⟩
  by_cases c3 : 0 ≤ p3 ∧ p3 ≤ 15
  case neg => exact ⟨-2, _, _, _, _, _, _, _, _, _, _, _, _, _, zb (P3t r1 c1) (zno z10 (zb (W3t r2 c2 (by omega) (by omega)) (zno z10 (zb (S3f r3 c3) (zyes z00 rfl))))), zb (P4t r1 c1) (zno z10 (zb (W4t r2 c2 (by omega) (by omega)) (zno z10 (zb (W4f r3 c3 (by omega) (by omega)) (zyes z00 rfl))))), h⟩
  have h0 := h
  obtain ⟨lag, dead, manner, setting, W, P, S, n, ov, hv, hI, hM, hl, hlm⟩ := h0
  have hn := hv.2.1.1
  have hX : ∀ {α : Type} {o : Option α} {f : Int → Option α}, f 1 = o → (fX3_isPlane p1).bind f = o := fun k => zb (P3t r1 c1) k
  have eo := hI.1.2.2.2.2.2
  have eo2 := hM.2.2.2.2.2.2.2.2
  have eh := X_horizon hI.1 hv
  have eh2 := M_horizon hM hv
  have hhb := zhor_b hv
  by_cases c4 : ov = 1
  · subst c4
    exact ⟨-3, _, _, _, _, _, _, _, _, _, _, _, _, _, zb (P3t r1 c1) (zno z10 (zb (W3t r2 c2 (by omega) (by omega)) (zno z10 (zb (S3t r3 c3) (zno z10 (zno (by rw [eo]; exact z10) rfl)))))), zb (P4t r1 c1) (zno z10 (zb (W4t r2 c2 (by omega) (by omega)) (zno z10 (zb (W4t r3 c3 (by omega) (by omega)) (zno z10 (zno (by rw [eo2]; exact z10) rfl)))))), h⟩
  have e0 : ov = 0 := by rcases hv.2.2 with q | q; exact q; exact absurd q c4
  subst e0
  by_cases c5 : zhor (setting 0) W n 0 ≤ p2
  case neg =>
    refine ⟨0, _, _, _, _, _, _, _, _, _, _, _, _, _, zb (P3t r1 c1) (zno z10 (zb (W3t r2 c2 (by omega) (by omega)) (zno z10 (zb (S3t r3 c3) (zno z10 (zyes (by rw [eo]) (zb eh (zno (zLe_f (by omega) (by omega) (by omega)) rfl)))))))), zb (P4t r1 c1) (zno z10 (zb (W4t r2 c2 (by omega) (by omega)) (zno z10 (zb (W4t r3 c3 (by omega) (by omega)) (zno z10 (zyes (by rw [eo2]) (zb eh2 (zno (zLe_f (by omega) (by omega) (by omega)) rfl)))))))), ?_⟩
    exact ⟨lag, dead, manner, setting, W, P, S, n, 0, hv, hI, hM, by show zx_tooLate t + 1 = zm_late t2 + 1; rw [hl], hlm⟩
  by_cases c6 : n = 240
  · subst c6
    exact ⟨-4, _, _, _, _, _, _, _, _, _, _, _, _, _, zb (P3t r1 c1) (zno z10 (zb (W3t r2 c2 (by omega) (by omega)) (zno z10 (zb (S3t r3 c3) (zno z10 (zyes (by rw [eo]) (zb eh (zyes (zLe_t c5 (by omega) (by omega)) (zno (by rw [hI.1.2.2.2.2.1]; exact zLt_f (Int.le_refl 240) (by omega) (by show ((240 : Nat) : Int) < _; omega)) rfl))))))))), zb (P4t r1 c1) (zno z10 (zb (W4t r2 c2 (by omega) (by omega)) (zno z10 (zb (W4t r3 c3 (by omega) (by omega)) (zno z10 (zyes (by rw [eo2]) (zb eh2 (zyes (zLe_t c5 (by omega) (by omega)) (zyes (by rw [hM.2.2.2.2.1]; exact zE_t rfl) rfl))))))))), h⟩
  have hpn := zpos_le W P S (p2, p1, p3) n
  have hok : zok3 W P S n := fun i hi => by
    have := hv.2.1.2.1 i hi
    exact ⟨by omega, this.2.1, this.2.2⟩
  have hb3 : zb3 p2 p1 p3 := ⟨by omega, c1, c3⟩
  have hv' := zVal_ins hv (show n < 240 by omega) c2 c1 c3
  have hins := R_insert (show n < 240 by omega) hok hb3
  have hI' := zIX_ins (t' := zk_X (zx_lag t) (zx_dead t) (zx_manner t) (zx_setting t) (zk_R (zsh W (zpos W P S (p2, p1, p3) n) n p2) (zsh P (zpos W P S (p2, p1, p3) n) n p1) (zsh S (zpos W P S (p2, p1, p3) n) n p3) ((n + 1 : Nat) : Int)) (zx_liveRow t) (zx_shiftedRow t) (zx_groups t) (zx_search t) (zx_deadUntil t) (zx_settled t) (zx_known t) (zx_tooLate t) (zx_ended t)) (b := p1) (c := p3) hv hI c5 rfl rfl rfl rfl rfl rfl rfl rfl rfl rfl rfl
  obtain ⟨ρ, γ, σ, du, sd, kd, f1, f2⟩ := X_follow hv' hI' (zhor_ins hv c2.1) hhb.1
  have hml := M_loop (t := t2) hb3 n zF W P S (by unfold zF; omega) (by omega) hok
  refine ⟨1, zk_R (zsh W (zpos W P S (p2, p1, p3) n) n p2) (zsh P (zpos W P S (p2, p1, p3) n) n p1) (zsh S (zpos W P S (p2, p1, p3) n) n p3) ((n + 1 : Nat) : Int), ρ, γ, σ, du, sd, kd, zx_tooLate t, ((n + 1 : Nat) : Int), zsh P (zpos W P S (p2, p1, p3) n) n p1, zsh W (zpos W P S (p2, p1, p3) n) n p2, zsh S (zpos W P S (p2, p1, p3) n) n p3, zm_late t2, ?_, ?_, ?_⟩
  rotate_left
  · refine zb (P4t r1 c1) (zno z10 (zb (W4t r2 c2 (by omega) (by omega)) (zno z10 (zb (W4t r3 c3 (by omega) (by omega)) (zno z10 (zyes (by rw [eo2]) (zb eh2 (zyes (zLe_t c5 (by omega) (by omega)) (zno (by rw [hM.2.2.2.2.1]; exact zE_f (by omega) (by omega) (by omega) (by omega) (by omega)) ?_)))))))))
    rw [hM.2.2.2.2.1, hM.2.2.2.2.2.1, hM.2.2.2.2.2.2.1, hM.2.2.2.2.2.2.2.1]
    have g : zIn ((zpos W P S (p2, p1, p3) n : Nat) : Int) 241 := ⟨by omega, by omega⟩
    refine zb hml (zok g (zok g (zok g ?_)))
    show some ((1 : Int), (n : Int) + 1, zu (zsf P _ n) _ p1, zu (zsf W _ n) _ p2, zu (zsf S _ n) _ p3, zm_late t2) = _
    rw [zsf_put W p2 hpn, zsf_put P p1 hpn, zsf_put S p3 hpn, zc1]
  · exact ⟨lag, dead, manner, setting, _, _, _, n + 1, 0, hv', f2, ⟨hM.1, hM.2.1, hM.2.2.1, hM.2.2.2.1, rfl, rfl, rfl, rfl, hM.2.2.2.2.2.2.2.2⟩, hl, hlm⟩
  · refine zb (P3t r1 c1) (zno z10 (zb (W3t r2 c2 (by omega) (by omega)) (zno z10 (zb (S3t r3 c3) (zno z10 (zyes (by rw [eo]) (zb eh (zyes (zLe_t c5 (by omega) (by omega)) (zyes (by rw [hI.1.2.2.2.2.1]; exact zLt_t (show (n : Int) < 240 by omega) (by show _ ≤ (n : Int); omega) (by omega)) ?_)))))))))
    refine zb (by rw [hI.1.2.2.2.2.1]; exact hins) ?_
    exact zb f1 rfl

theorem J_fill_v {v : Int} : ∀ (k i zn : Nat) (t a : Nat → Int), i + k = 6 → k < zn → (∀ j, j < i → a j = v) → ∃ a', fJ7_fill_53178_L5 zn t v (i : Int) a = some a' ∧ ∀ j, j < 6 → a' j = v := by
  intro k
  induction k with
  | zero =>
    intro i zn t a hik hz h
    obtain ⟨zn, rfl⟩ : ∃ q, zn = q + 1 := ⟨zn - 1, by omega⟩
    rw [fJ7_fill_53178_L5_s]
    exact ⟨a, zyes (zLe_t (by omega) (by omega) (by omega)) rfl, fun j hj => h j (by omega)⟩
  | succ k ih =>
    intro i zn t a hik hz h
    obtain ⟨zn, rfl⟩ : ∃ q, zn = q + 1 := ⟨zn - 1, by omega⟩
    rw [fJ7_fill_53178_L5_s]
    obtain ⟨a', h1, h2⟩ := ih (i + 1) zn t (zu a (i : Int) v) (by omega) (by omega) (fun j hj => by
      unfold zu
      rw [zcN]
      by_cases e : j = i
      · rw [if_pos e]
      · rw [if_neg e]; exact h j (by omega))
    refine ⟨a', zno (zLe_f (by omega) (by omega) (by omega)) (zok ⟨by omega, by omega⟩ ?_), h2⟩
    rw [zc1]; exact h1
theorem zIX_hz {t : zXT} {lag dead manner setting W P S : Nat → Int} {n : Nat} {ov hz : Int} (h : zIX t lag dead manner setting W P S n ov hz) : ∀ {ov' : Int}, zIX (zk_X (zx_lag t) (zx_dead t) (zx_manner t) (zx_setting t) (zx_keptRow t) (zx_liveRow t) (zx_shiftedRow t) (zx_groups t) (zx_search t) (zx_deadUntil t) (zx_settled t) (zx_known t) (zx_tooLate t) ov') lag dead manner setting W P S n ov' hz := by
  intro ov'
  exact ⟨⟨h.1.1, h.1.2.1, h.1.2.2.1, h.1.2.2.2.1, h.1.2.2.2.2.1, rfl⟩, h.2⟩
theorem L_end {t : zXT} {t2 : zMT} (h : zRel t t2) : ∃ a lr gr se du sd kd en en', fX3_end t = some (a, lr, gr, se, du, sd, kd, en) ∧ fX4_end t2 = some (a, en') ∧
    zRel (zk_X (zx_lag t) (zx_dead t) (zx_manner t) (zx_setting t) (zx_keptRow t) lr (zx_shiftedRow t) gr se du sd kd (zx_tooLate t) en) (zk_M (zm_lag t2) (zm_dead t2) (zm_manner t2) (zm_setting t2) (zm_leastOf t2) (zm_mostOf t2) (zm_kept t2) (zm_planeOf t2) (zm_momentOf t2) (zm_stripOf t2) (zm_late t2) en' (zm_isLive t2) (zm_endOf t2) (zm_known t2) (zm_timeOf t2) (zm_pulseOf t2) (zm_groupOf t2) (zm_groups t2) (zm_shut t2) (zm_firstOf t2) (zm_agrees t2) (zm_agreeSet t2) (zm_missed t2) (zm_bestA t2) (zm_bestB t2) (zm_bestAgrees t2) (zm_bestMissed t2)) := by
  unfold fX3_end fX4_end
  have h0 := h
  obtain ⟨lag, dead, manner, setting, W, P, S, n, ov, hv, hI, hM, hl, hlm⟩ := h0
  have eo := hI.1.2.2.2.2.2
  have eo2 := hM.2.2.2.2.2.2.2.2
  rcases hv.2.2 with e | e
  · subst e
    have hv' : zVal lag dead manner setting W P S n 1 := ⟨hv.1, hv.2.1, Or.inr rfl⟩
    have hhb := zhor_b hv
    have hle : zhor (setting 0) W n 0 ≤ zhor (setting 0) W n 1 := by
      show _ ≤ (if (1 : Int) = 1 then (20000 : Int) else _)
      rw [if_pos rfl]; omega
    obtain ⟨ρ, γ, σ, du, sd, kd, f1, f2⟩ := X_follow hv' (zIX_hz hI) hle hhb.1
    have m1 := M_settled hM hv
    have m2 := M_settled (t := zk_M (zm_lag t2) (zm_dead t2) (zm_manner t2) (zm_setting t2) (zm_leastOf t2) (zm_mostOf t2) (zm_kept t2) (zm_planeOf t2) (zm_momentOf t2) (zm_stripOf t2) (zm_late t2) 1 (zm_isLive t2) (zm_endOf t2) (zm_known t2) (zm_timeOf t2) (zm_pulseOf t2) (zm_groupOf t2) (zm_groups t2) (zm_shut t2) (zm_firstOf t2) (zm_agrees t2) (zm_agreeSet t2) (zm_missed t2) (zm_bestA t2) (zm_bestB t2) (zm_bestAgrees t2) (zm_bestMissed t2)) (ov := 1) ⟨hM.1, hM.2.1, hM.2.2.1, hM.2.2.2.1, hM.2.2.2.2.1, hM.2.2.2.2.2.1, hM.2.2.2.2.2.2.1, hM.2.2.2.2.2.2.2.1, rfl⟩ hv'
    have hsd : sd = ((zst W (zhor (setting 0) W n 1) n : Nat) : Int) := f2.2.1
    refine ⟨((zst W (zhor (setting 0) W n 1) n : Nat) : Int) - ((zst W (zhor (setting 0) W n 0) n : Nat) : Int), ρ, γ, σ, du, sd, kd, 1, 1, ?_, ?_, ?_⟩
    · refine zyes (by rw [eo]) (zb f1 ?_)
      rw [hI.2.1]
      show some (sd - _, _) = _
      rw [hsd]
    · exact zyes (by rw [eo2]) (zb m1 (zb m2 rfl))
    · exact ⟨lag, dead, manner, setting, W, P, S, n, 1, hv', f2, ⟨hM.1, hM.2.1, hM.2.2.1, hM.2.2.2.1, hM.2.2.2.2.1, hM.2.2.2.2.2.1, hM.2.2.2.2.2.2.1, hM.2.2.2.2.2.2.2.1, rfl⟩, hl, hlm⟩
  · subst e
    exact ⟨-3, _, _, _, _, _, _, _, _, zno (by rw [eo]; exact z10) rfl, zno (by rw [eo2]; exact z10) rfl, h⟩
theorem L_anew {t : zXT} {t2 : zMT} (h : zRel t t2) : ∃ a kr lr gr du sd kd tl en k' l' en', fX3_anew t = some (a, kr, lr, gr, du, sd, kd, tl, en) ∧ fX4_anew t2 = some (a, k', l', en') ∧
    zRel (zk_X (zx_lag t) (zx_dead t) (zx_manner t) (zx_setting t) kr lr (zx_shiftedRow t) gr (zx_search t) du sd kd tl en) (zk_M (zm_lag t2) (zm_dead t2) (zm_manner t2) (zm_setting t2) (zm_leastOf t2) (zm_mostOf t2) k' (zm_planeOf t2) (zm_momentOf t2) (zm_stripOf t2) l' en' (zm_isLive t2) (zm_endOf t2) (zm_known t2) (zm_timeOf t2) (zm_pulseOf t2) (zm_groupOf t2) (zm_groups t2) (zm_shut t2) (zm_firstOf t2) (zm_agrees t2) (zm_agreeSet t2) (zm_missed t2) (zm_bestA t2) (zm_bestB t2) (zm_bestAgrees t2) (zm_bestMissed t2)) := by
  unfold fX3_anew fX4_anew
  obtain ⟨lag, dead, manner, setting, W, P, S, n, ov, hv, hI, hM, hl, hlm⟩ := h
  obtain ⟨du, d1, d2⟩ := J_fill_v (v := 0) 6 0 zF (zx_deadUntil t) (zx_deadUntil t) (by omega) (by unfold zF; omega) (fun j hj => by omega)
  have hI2 := hI
  obtain ⟨hc, hsd, hdu, lw, lp, ls, ml, hr, hml, hrl, hok, hkn, g, fA, hg, hcm⟩ := hI2
  refine ⟨(n : Int), zk_R W P S 0, zk_R lw lp ls 0, zgs_size (zx_groups t) 0, du, 0, 0, 0, 0, 0, 0, 0, ?_, ?_, ?_⟩
  · refine zb (a := du) ?_ ?_
    · unfold fJ7_fill_53178; exact zb d1 rfl
    · rw [hc.2.2.2.2.1, hr]; rfl
  · rw [hM.2.2.2.2.1]
  · refine ⟨lag, dead, manner, setting, W, P, S, 0, 0, ⟨hv.1, ⟨by omega, fun i hi => by omega, List.Pairwise.nil⟩, Or.inl rfl⟩, zFr_ix ⟨hc.1, hc.2.1, hc.2.2.1, hc.2.2.2.1, rfl, rfl⟩ ⟨rfl, d2, ⟨lw, lp, ls, rfl⟩, rfl, rfl⟩, ⟨hM.1, hM.2.1, hM.2.2.1, hM.2.2.2.1, rfl, hM.2.2.2.2.2.1, hM.2.2.2.2.2.2.1, hM.2.2.2.2.2.2.2.1, rfl⟩, rfl, hlm⟩
