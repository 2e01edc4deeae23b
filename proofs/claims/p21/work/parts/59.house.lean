/-! ===== PURE: a house and what it was told ===== -/
def zH (t : zXT) (lag dead manner setting W P S : Nat → Int) (n : Nat) (ov late : Int) : Prop := zVal lag dead manner setting W P S n ov ∧ zIX t lag dead manner setting W P S n ov (zhor (setting 0) W n ov) ∧ zx_tooLate t = late
def zMM (lag dead manner setting W P S : Nat → Int) (n : Nat) (ov late : Int) : zMT := zk_M lag dead manner setting zS1 zS2 (n : Int) P W S late ov (fun _ => 0) (fun _ => 0) 0 (fun _ => 0) (fun _ => 0) (fun _ => 0) 0 0 (fun _ => 0) 0 0 0 0 0 0 0
def zNP (t : zXT) (r : Int × zRowT × zRowT × zGrT × zLsT × (Nat → Int) × Int × Int × Int) : zXT := zk_X (zx_lag t) (zx_dead t) (zx_manner t) (zx_setting t) r.2.1 r.2.2.1 (zx_shiftedRow t) r.2.2.2.1 r.2.2.2.2.1 r.2.2.2.2.2.1 r.2.2.2.2.2.2.1 r.2.2.2.2.2.2.2.1 r.2.2.2.2.2.2.2.2 (zx_ended t)
def zNE (t : zXT) (r : Int × zRowT × zGrT × zLsT × (Nat → Int) × Int × Int × Int) : zXT := zk_X (zx_lag t) (zx_dead t) (zx_manner t) (zx_setting t) (zx_keptRow t) r.2.1 (zx_shiftedRow t) r.2.2.1 r.2.2.2.1 r.2.2.2.2.1 r.2.2.2.2.2.1 r.2.2.2.2.2.2.1 (zx_tooLate t) r.2.2.2.2.2.2.2
def zNA (t : zXT) (r : Int × zRowT × zRowT × zGrT × (Nat → Int) × Int × Int × Int × Int) : zXT := zk_X (zx_lag t) (zx_dead t) (zx_manner t) (zx_setting t) r.2.1 r.2.2.1 (zx_shiftedRow t) r.2.2.2.1 (zx_search t) r.2.2.2.2.1 r.2.2.2.2.2.1 r.2.2.2.2.2.2.1 r.2.2.2.2.2.2.2.1 r.2.2.2.2.2.2.2.2
def zNL (t : zXT) (r : Int × (Nat → Int) × (Nat → Int) × (Nat → Int)) : zXT := zk_X r.2.1 r.2.2.1 r.2.2.2 (zx_setting t) (zx_keptRow t) (zx_liveRow t) (zx_shiftedRow t) (zx_groups t) (zx_search t) (zx_deadUntil t) (zx_settled t) (zx_known t) (zx_tooLate t) (zx_ended t)
def zNT (t : zXT) (r : Int × (Nat → Int)) : zXT := zk_X (zx_lag t) (zx_dead t) (zx_manner t) r.2 (zx_keptRow t) (zx_liveRow t) (zx_shiftedRow t) (zx_groups t) (zx_search t) (zx_deadUntil t) (zx_settled t) (zx_known t) (zx_tooLate t) (zx_ended t)
def zNS (t : zXT) (r : Int × zRowT) : zXT := zk_X (zx_lag t) (zx_dead t) (zx_manner t) (zx_setting t) (zx_keptRow t) (zx_liveRow t) r.2 (zx_groups t) (zx_search t) (zx_deadUntil t) (zx_settled t) (zx_known t) (zx_tooLate t) (zx_ended t)
section House
variable {t t' : zXT} {lag dead manner setting W P S : Nat → Int} {n : Nat} {ov late : Int}
theorem H_rel (h : zH t lag dead manner setting W P S n ov late) : zRel t (zMM lag dead manner setting W P S n ov late) :=
  ⟨lag, dead, manner, setting, W, P, S, n, ov, h.1, h.2.1, ⟨rfl, rfl, rfl, rfl, rfl, rfl, rfl, rfl, rfl⟩, h.2.2, fun _ _ => ⟨rfl, rfl⟩⟩
theorem H_size (h : zH t lag dead manner setting W P S n ov late) : ∃ g : Nat, zg_size (zx_groups t) = (g : Int) ∧ g ≤ 240 := by
  obtain ⟨hv, ⟨hc, hsd, hdu, lw, lp, ls, ml, hr, hml, hrl, hok, hkn, g, fA, hg, hcm⟩, -⟩ := h
  have h1 := zXG_le hg g (Nat.le_refl _)
  have h2 := hg.2.2.1
  have h3 := zst_le lw (zhor (setting 0) W n ov - zml lag 6) ml
  have h4 := zst_le W (zhor (setting 0) W n ov) n
  have h5 := hv.2.1.1
  exact ⟨g, hg.1, by omega⟩
theorem H_shf (h : zH t lag dead manner setting W P S n ov late) (r : Int × zRowT) : zH (zNS t r) lag dead manner setting W P S n ov late := ⟨h.1, ⟨h.2.1.1, h.2.1.2⟩, h.2.2⟩
theorem H_pulse (h : zH t lag dead manner setting W P S n 0 late) {p1 p2 p3 : Int} (c1 : 0 ≤ p1 ∧ p1 ≤ 5) (c2 : 0 ≤ p2 ∧ p2 ≤ 9999) (c3 : 0 ≤ p3 ∧ p3 ≤ 15) (c5 : zhor (setting 0) W n 0 ≤ p2) (c6 : n < 240) : ∃ r, fX3_pulse t p1 p2 p3 = some r ∧ r.1 = 1 ∧
    zH (zNP t r) lag dead manner setting (zsh W (zpos W P S (p2, p1, p3) n) n p2) (zsh P (zpos W P S (p2, p1, p3) n) n p1) (zsh S (zpos W P S (p2, p1, p3) n) n p3) (n + 1) 0 late ∧ zPf t (zNP t r) := by
  obtain ⟨hv, hI, hl⟩ := h
  have r1 : zR p1 := ⟨by omega, by omega⟩
  have r2 : zR p2 := ⟨by omega, by omega⟩
  have r3 : zR p3 := ⟨by omega, by omega⟩
  have hn := hv.2.1.1
  have eo := hI.1.2.2.2.2.2
  have eh := X_horizon hI.1 hv
  have hhb := zhor_b hv
  have hpn := zpos_le W P S (p2, p1, p3) n
  have hok : zok3 W P S n := fun i hi => by
    have := hv.2.1.2.1 i hi
    exact ⟨by omega, this.2.1, this.2.2⟩
  have hb3 : zb3 p2 p1 p3 := ⟨by omega, c1, c3⟩
  have hv' := zVal_ins hv (show n < 240 by omega) c2 c1 c3
  have hins := R_insert (show n < 240 by omega) hok hb3
  have hI' := zIX_ins (t' := zk_X (zx_lag t) (zx_dead t) (zx_manner t) (zx_setting t) (zk_R (zsh W (zpos W P S (p2, p1, p3) n) n p2) (zsh P (zpos W P S (p2, p1, p3) n) n p1) (zsh S (zpos W P S (p2, p1, p3) n) n p3) ((n + 1 : Nat) : Int)) (zx_liveRow t) (zx_shiftedRow t) (zx_groups t) (zx_search t) (zx_deadUntil t) (zx_settled t) (zx_known t) (zx_tooLate t) (zx_ended t)) (b := p1) (c := p3) hv hI c5 rfl rfl rfl rfl rfl rfl rfl rfl rfl rfl rfl
  obtain ⟨ρ, γ, σ, du, sd, kd, f1, f2⟩ := X_follow hv' hI' (zhor_ins hv c2.1) hhb.1
  refine ⟨(1, zk_R (zsh W (zpos W P S (p2, p1, p3) n) n p2) (zsh P (zpos W P S (p2, p1, p3) n) n p1) (zsh S (zpos W P S (p2, p1, p3) n) n p3) ((n + 1 : Nat) : Int), ρ, γ, σ, du, sd, kd, zx_tooLate t), ?_, rfl, ⟨hv', f2, hl⟩, ?_⟩
  · unfold fX3_pulse
    refine zb (P3t r1 c1) (zno z10 (zb (W3t r2 c2 (by omega) (by omega)) (zno z10 (zb (S3t r3 c3) (zno z10 (zyes (by rw [eo]) (zb eh (zyes (zLe_t c5 (by omega) (by omega)) (zyes (by rw [hI.1.2.2.2.2.1]; exact zLt_t (show (n : Int) < 240 by omega) (by show _ ≤ (n : Int); omega) (by omega)) ?_)))))))))
    refine zb (by rw [hI.1.2.2.2.2.1]; exact hins) ?_
    exact zb f1 rfl
  · have k := zPf_follow (t' := zNP t (1, zk_R (zsh W (zpos W P S (p2, p1, p3) n) n p2) (zsh P (zpos W P S (p2, p1, p3) n) n p1) (zsh S (zpos W P S (p2, p1, p3) n) n p3) ((n + 1 : Nat) : Int), ρ, γ, σ, du, sd, kd, zx_tooLate t)) hv' hI' f1 rfl rfl rfl f2 (zhor_ins hv c2.1)
    exact k
theorem H_late (h : zH t lag dead manner setting W P S n 0 late) {p1 p2 p3 : Int} (c1 : 0 ≤ p1 ∧ p1 ≤ 5) (c2 : 0 ≤ p2 ∧ p2 ≤ 9999) (c3 : 0 ≤ p3 ∧ p3 ≤ 15) (c5 : p2 < zhor (setting 0) W n 0) : ∃ r, fX3_pulse t p1 p2 p3 = some r ∧ r.1 = 0 ∧
    zH (zNP t r) lag dead manner setting W P S n 0 (late + 1) ∧ zx_groups (zNP t r) = zx_groups t := by
  obtain ⟨hv, hI, hl⟩ := h
  have r1 : zR p1 := ⟨by omega, by omega⟩
  have r2 : zR p2 := ⟨by omega, by omega⟩
  have r3 : zR p3 := ⟨by omega, by omega⟩
  have eo := hI.1.2.2.2.2.2
  have eh := X_horizon hI.1 hv
  have hhb := zhor_b hv
  refine ⟨(0, zx_keptRow t, zx_liveRow t, zx_groups t, zx_search t, zx_deadUntil t, zx_settled t, zx_known t, zx_tooLate t + 1), ?_, rfl, ⟨hv, hI, by show zx_tooLate t + 1 = late + 1; rw [hl]⟩, rfl⟩
  unfold fX3_pulse
  exact zb (P3t r1 c1) (zno z10 (zb (W3t r2 c2 (by omega) (by omega)) (zno z10 (zb (S3t r3 c3) (zno z10 (zyes (by rw [eo]) (zb eh (zno (zLe_f (by omega) (by omega) (by omega)) rfl))))))))
theorem H_over (h : zH t lag dead manner setting W P S n 1 late) {p1 p2 p3 : Int} (c1 : 0 ≤ p1 ∧ p1 ≤ 5) (c2 : 0 ≤ p2 ∧ p2 ≤ 9999) (c3 : 0 ≤ p3 ∧ p3 ≤ 15) : ∃ r, fX3_pulse t p1 p2 p3 = some r ∧ r.1 = -3 ∧ zNP t r = t := by
  obtain ⟨hv, hI, hl⟩ := h
  have r1 : zR p1 := ⟨by omega, by omega⟩
  have r2 : zR p2 := ⟨by omega, by omega⟩
  have r3 : zR p3 := ⟨by omega, by omega⟩
  have eo := hI.1.2.2.2.2.2
  refine ⟨(-3, zx_keptRow t, zx_liveRow t, zx_groups t, zx_search t, zx_deadUntil t, zx_settled t, zx_known t, zx_tooLate t), ?_, rfl, rfl⟩
  unfold fX3_pulse
  exact zb (P3t r1 c1) (zno z10 (zb (W3t r2 c2 (by omega) (by omega)) (zno z10 (zb (S3t r3 c3) (zno z10 (zno (by rw [eo]; exact z10) rfl))))))
theorem zhor_over {b : Int} {W : Nat → Int} {n : Nat} : zhor b W n 1 = 20000 := if_pos rfl
theorem zst_all (hk : zKpt W P S n) : zst W 20000 n = n := zst_uniq (Nat.le_refl _) (fun i hi => by have := (hk.2.1 i hi).1; omega) (fun i h1 h2 => by omega)
theorem H_end0 (h : zH t lag dead manner setting W P S n 0 late) : ∃ r, fX3_end t = some r ∧ r.1 = (n : Int) - zx_settled t ∧ 0 ≤ r.1 ∧ zH (zNE t r) lag dead manner setting W P S n 1 late ∧ zPf t (zNE t r) := by
  obtain ⟨hv, hI, hl⟩ := h
  have eo := hI.1.2.2.2.2.2
  have hv' : zVal lag dead manner setting W P S n 1 := ⟨hv.1, hv.2.1, Or.inr rfl⟩
  have hhb := zhor_b hv
  have hle : zhor (setting 0) W n 0 ≤ zhor (setting 0) W n 1 := by rw [zhor_over]; omega
  have hJ := zIX_hz hI (ov' := 1)
  obtain ⟨ρ, γ, σ, du, sd, kd, f1, f2⟩ := X_follow hv' hJ hle hhb.1
  have hsd : sd = ((zst W (zhor (setting 0) W n 1) n : Nat) : Int) := f2.2.1
  rw [zhor_over, zst_all hv.2.1] at hsd
  have hs0 := zst_le W (zhor (setting 0) W n 0) n
  refine ⟨((n : Int) - zx_settled t, ρ, γ, σ, du, sd, kd, 1), ?_, rfl, ?_, ⟨hv', f2, hl⟩, ?_⟩
  · unfold fX3_end
    refine zyes (by rw [eo]) (zb f1 ?_)
    show some (sd - _, _) = _
    rw [hsd]
  · show 0 ≤ (n : Int) - zx_settled t
    rw [hI.2.1]; omega
  · have k := zPf_follow (t' := zNE t ((n : Int) - zx_settled t, ρ, γ, σ, du, sd, kd, 1)) hv' hJ f1 rfl rfl rfl f2 hle
    exact k
theorem H_end1 (h : zH t lag dead manner setting W P S n 1 late) : ∃ r, fX3_end t = some r ∧ r.1 = -3 ∧ zNE t r = t := by
  have eo := h.2.1.1.2.2.2.2.2
  refine ⟨(-3, zx_liveRow t, zx_groups t, zx_search t, zx_deadUntil t, zx_settled t, zx_known t, zx_ended t), ?_, rfl, rfl⟩
  unfold fX3_end
  exact zno (by rw [eo]; exact z10) rfl
theorem H_anew (h : zH t lag dead manner setting W P S n ov late) : ∃ r, fX3_anew t = some r ∧ r.1 = (n : Int) ∧ zH (zNA t r) lag dead manner setting W P S 0 0 0 := by
  obtain ⟨hv, hI, hl⟩ := h
  obtain ⟨du, d1, d2⟩ := J_fill_v (v := 0) 6 0 zF (zx_deadUntil t) (zx_deadUntil t) (by omega) (by unfold zF; omega) (fun j hj => by omega)
  have hI2 := hI
  obtain ⟨hc, hsd, hdu, lw, lp, ls, ml, hr, hml, hrl, hok, hkn, g, fA, hg, hcm⟩ := hI2
  refine ⟨((n : Int), zk_R W P S 0, zk_R lw lp ls 0, zgs_size (zx_groups t) 0, du, 0, 0, 0, 0), ?_, rfl, ⟨hv.1, ⟨by omega, fun i hi => by omega, List.Pairwise.nil⟩, Or.inl rfl⟩, zFr_ix ⟨hc.1, hc.2.1, hc.2.2.1, hc.2.2.2.1, rfl, rfl⟩ ⟨rfl, d2, ⟨lw, lp, ls, rfl⟩, rfl, rfl⟩, rfl⟩
  unfold fX3_anew
  refine zb (a := du) ?_ ?_
  · unfold fJ7_fill_53178; exact zb d1 rfl
  · rw [hc.2.2.2.2.1, hr]; rfl
theorem H_plane (h : zH t lag dead manner setting W P S 0 0 late) {p1 p2 p3 p4 : Int} (c1 : 0 ≤ p1 ∧ p1 ≤ 5) (c2 : 0 ≤ p2 ∧ p2 ≤ 30) (c3 : 0 ≤ p3 ∧ p3 ≤ 50) (c4 : 0 ≤ p4 ∧ p4 ≤ 1) : ∃ r, fX3_plane t p1 p2 p3 p4 = some r ∧ r.1 = 1 ∧ zH (zNL t r) (zu lag p1 p2) (zu dead p1 p3) (zu manner p1 p4) setting W P S 0 0 late := by
  obtain ⟨hv, hI, hl⟩ := h
  have r1 : zR p1 := ⟨by omega, by omega⟩
  have r2 : zR p2 := ⟨by omega, by omega⟩
  have r3 : zR p3 := ⟨by omega, by omega⟩
  have r4 : zR p4 := ⟨by omega, by omega⟩
  have b3 := X_begun hI.1 hv
  rw [if_pos ⟨rfl, rfl⟩] at b3
  have g : zIn p1 6 := ⟨by omega, by omega⟩
  refine ⟨(1, zu lag p1 p2, zu dead p1 p3, zu manner p1 p4), ?_, rfl, ⟨⟨?_, hv.1.2⟩, hv.2⟩, zFr_ix ⟨rfl, rfl, rfl, hI.1.2.2.2⟩ (by have q := zIX_fr hI; exact q), hl⟩
  · unfold fX3_plane
    rw [hI.1.1, hI.1.2.1, hI.1.2.2.1]
    exact zb (P3t r1 c1) (zno z10 (zb (W3t r2 c2 (by omega) (by omega)) (zno z10 (zb (W3t r3 c3 (by omega) (by omega)) (zno z10 (zb (W3t r4 c4 (by omega) (by omega)) (zno z10 (zb b3 (zyes z00 (zok g (zok g (zok g rfl))))))))))))
  · intro k hk
    have := hv.1.1 k hk
    unfold zu
    by_cases e : k = p1.toNat
    · rw [if_pos e, if_pos e, if_pos e]; omega
    · rw [if_neg e, if_neg e, if_neg e]; exact this
theorem H_plane1 (h : zH t lag dead manner setting W P S n 1 late) {p1 p2 p3 p4 : Int} (c1 : 0 ≤ p1 ∧ p1 ≤ 5) (c2 : 0 ≤ p2 ∧ p2 ≤ 30) (c3 : 0 ≤ p3 ∧ p3 ≤ 50) (c4 : 0 ≤ p4 ∧ p4 ≤ 1) : ∃ r, fX3_plane t p1 p2 p3 p4 = some r ∧ r.1 = -3 ∧ zNL t r = t := by
  obtain ⟨hv, hI, hl⟩ := h
  have r1 : zR p1 := ⟨by omega, by omega⟩
  have r2 : zR p2 := ⟨by omega, by omega⟩
  have r3 : zR p3 := ⟨by omega, by omega⟩
  have r4 : zR p4 := ⟨by omega, by omega⟩
  have b3 := X_begun hI.1 hv
  rw [if_neg (fun z => by have := z.2; omega)] at b3
  refine ⟨(-3, zx_lag t, zx_dead t, zx_manner t), ?_, rfl, rfl⟩
  unfold fX3_plane
  exact zb (P3t r1 c1) (zno z10 (zb (W3t r2 c2 (by omega) (by omega)) (zno z10 (zb (W3t r3 c3 (by omega) (by omega)) (zno z10 (zb (W3t r4 c4 (by omega) (by omega)) (zno z10 (zb b3 (zno z10 rfl)))))))))
theorem zS12 {j : Nat} (hj : j < 4) : (0 ≤ zS1 j ∧ zS1 j ≤ 2) ∧ (3 ≤ zS2 j ∧ zS2 j ≤ 100) := by
  match j, hj with
  | 0, _ => decide
  | 1, _ => decide
  | 2, _ => decide
  | 3, _ => decide
  | j + 4, hj => omega
theorem H_tune (h : zH t lag dead manner setting W P S 0 0 late) {j : Nat} {p2 : Int} (hj : j < 4) (c2 : zS1 j ≤ p2 ∧ p2 ≤ zS2 j) : ∃ r, fX3_tune t (j : Int) p2 = some r ∧ r.1 = setting j ∧ zH (zNT t r) lag dead manner (zu setting (j : Int) p2) W P S 0 0 late := by
  obtain ⟨hv, hI, hl⟩ := h
  have hS := zS12 hj
  have r1 : zR (j : Int) := ⟨by omega, by omega⟩
  have r2 : zR p2 := ⟨by omega, by omega⟩
  have b3 := X_begun hI.1 hv
  rw [if_pos ⟨rfl, rfl⟩] at b3
  have g : zIn (j : Int) 4 := ⟨by omega, by omega⟩
  refine ⟨(setting j, zu setting (j : Int) p2), ?_, rfl, ⟨⟨hv.1.1, ?_⟩, hv.2⟩, zFr_ix ⟨hI.1.1, hI.1.2.1, hI.1.2.2.1, rfl, hI.1.2.2.2.2⟩ (by have q := zIX_fr hI; exact q), hl⟩
  · unfold fX3_tune
    rw [hI.1.2.2.2.1]
    exact zb (W3t r1 ⟨by omega, by omega⟩ (by omega) (by omega)) (zno z10 (zok g (zok g (zb (W3t r2 c2 (by rw [zcN]; omega) (by rw [zcN]; omega)) (zno z10 (zb b3 (zyes z00 (zok g (zlet (zok g rfl))))))))))
  · obtain ⟨d0, d1, d2, d3⟩ := hv.1.2
    unfold zu
    rw [zcN]
    match j, hj, c2 with
    | 0, _, c2 =>
      have c2 : 0 ≤ p2 ∧ p2 ≤ 100 := c2
      exact ⟨c2, d1, d2, d3⟩
    | 1, _, c2 =>
      have c2 : 0 ≤ p2 ∧ p2 ≤ 40 := c2
      exact ⟨d0, c2, d2, d3⟩
    | 2, _, c2 =>
      have c2 : 2 ≤ p2 ∧ p2 ≤ 6 := c2
      exact ⟨d0, d1, c2, d3⟩
    | 3, _, c2 =>
      have c2 : 0 ≤ p2 ∧ p2 ≤ 3 := c2
      exact ⟨d0, d1, d2, c2⟩
    | j + 4, hj, _ => omega
theorem H_tune1 (h : zH t lag dead manner setting W P S n 1 late) {j : Nat} {p2 : Int} (hj : j < 4) (c2 : zS1 j ≤ p2 ∧ p2 ≤ zS2 j) : ∃ r, fX3_tune t (j : Int) p2 = some r ∧ r.1 = -3 ∧ zNT t r = t := by
  obtain ⟨hv, hI, hl⟩ := h
  have hS := zS12 hj
  have r1 : zR (j : Int) := ⟨by omega, by omega⟩
  have r2 : zR p2 := ⟨by omega, by omega⟩
  have b3 := X_begun hI.1 hv
  rw [if_neg (fun z => by have := z.2; omega)] at b3
  have g : zIn (j : Int) 4 := ⟨by omega, by omega⟩
  refine ⟨(-3, zx_setting t), ?_, rfl, rfl⟩
  unfold fX3_tune
  exact zb (W3t r1 ⟨by omega, by omega⟩ (by omega) (by omega)) (zno z10 (zok g (zok g (zb (W3t r2 c2 (by rw [zcN]; omega) (by rw [zcN]; omega)) (zno z10 (zb b3 (zno z10 rfl)))))))
theorem E_group (h : zH t lag dead manner setting W P S n ov late) (h' : zH t' lag dead manner setting W P S n ov late) {p1 p2 : Int} (r1 : zR p1) (r2 : zR p2) : ∃ a, fX3_group t p1 p2 = some a ∧ fX3_group t' p1 p2 = some a := by
  obtain ⟨a, r, x, y⟩ := L_group (H_rel h) r1 r2
  obtain ⟨a', r', x', y'⟩ := L_group (H_rel h') r1 r2
  rw [y] at y'
  cases y'
  exact ⟨a, x, x'⟩
theorem E_member (h : zH t lag dead manner setting W P S n ov late) (h' : zH t' lag dead manner setting W P S n ov late) {p1 p2 p3 : Int} (r1 : zR p1) (r2 : zR p2) (r3 : zR p3) : ∃ a, fX3_member t p1 p2 p3 = some a ∧ fX3_member t' p1 p2 p3 = some a := by
  obtain ⟨a, r, x, y⟩ := L_member (H_rel h) r1 r2 r3
  obtain ⟨a', r', x', y'⟩ := L_member (H_rel h') r1 r2 r3
  rw [y] at y'
  cases y'
  exact ⟨a, x, x'⟩
theorem E_having (h : zH t lag dead manner setting W P S n ov late) (h' : zH t' lag dead manner setting W P S n ov late) {p1 p2 : Int} (r1 : zR p1) (r2 : zR p2) : ∃ a, fX3_having t p1 p2 = some a ∧ fX3_having t' p1 p2 = some a := by
  obtain ⟨a, r, x, y⟩ := L_having (H_rel h) r1 r2
  obtain ⟨a', r', x', y'⟩ := L_having (H_rel h') r1 r2
  rw [y] at y'
  cases y'
  exact ⟨a, x, x'⟩
theorem E_ofPlane (h : zH t lag dead manner setting W P S n ov late) (h' : zH t' lag dead manner setting W P S n ov late) {p1 p2 : Int} (r1 : zR p1) (r2 : zR p2) : ∃ a, fX3_ofPlane t p1 p2 = some a ∧ fX3_ofPlane t' p1 p2 = some a := by
  obtain ⟨a, r, x, y⟩ := L_ofPlane (H_rel h) r1 r2
  obtain ⟨a', r', x', y'⟩ := L_ofPlane (H_rel h') r1 r2
  rw [y] at y'
  cases y'
  exact ⟨a, x, x'⟩
theorem E_track (h : zH t lag dead manner setting W P S n ov late) (h' : zH t' lag dead manner setting W P S n ov late) {p1 p2 : Int} (r1 : zR p1) (r2 : zR p2) : ∃ a, fX3_track t p1 p2 = some a ∧ fX3_track t' p1 p2 = some a := by
  obtain ⟨a, r, x, y⟩ := L_track (H_rel h) r1 r2
  obtain ⟨a', r', x', y'⟩ := L_track (H_rel h') r1 r2
  rw [y] at y'
  cases y'
  exact ⟨a, x, x'⟩
theorem E_through (h : zH t lag dead manner setting W P S n ov late) (h' : zH t' lag dead manner setting W P S n ov late) {p1 p2 : Int} (r1 : zR p1) (r2 : zR p2) : ∃ a, fX3_through t p1 p2 = some a ∧ fX3_through t' p1 p2 = some a := by
  obtain ⟨a, r, x, y⟩ := L_through (H_rel h) r1 r2
  obtain ⟨a', r', x', y'⟩ := L_through (H_rel h') r1 r2
  rw [y] at y'
  cases y'
  exact ⟨a, x, x'⟩
theorem E_many (h : zH t lag dead manner setting W P S n ov late) (h' : zH t' lag dead manner setting W P S n ov late) {p1 : Int} (r1 : zR p1) : ∃ a, fX3_many t p1 = some a ∧ fX3_many t' p1 = some a := by
  obtain ⟨a, r, x, y⟩ := L_many (H_rel h) r1
  obtain ⟨a', r', x', y'⟩ := L_many (H_rel h') r1
  rw [y] at y'
  cases y'
  exact ⟨a, x, x'⟩
theorem E_twos (h : zH t lag dead manner setting W P S n ov late) (h' : zH t' lag dead manner setting W P S n ov late) {p1 p2 p3 : Int} (r1 : zR p1) (r2 : zR p2) (r3 : zR p3) : ∃ a, fX3_twos t p1 p2 p3 = some a ∧ fX3_twos t' p1 p2 p3 = some a := by
  obtain ⟨a, r, x, y⟩ := L_twos (H_rel h) r1 r2 r3
  obtain ⟨a', r', x', y'⟩ := L_twos (H_rel h') r1 r2 r3
  rw [y] at y'
  cases y'
  exact ⟨a, x, x'⟩
theorem E_live (h : zH t lag dead manner setting W P S n ov late) (h' : zH t' lag dead manner setting W P S n ov late) {p1 : Int} (r1 : zR p1) : ∃ a, fX3_live t p1 = some a ∧ fX3_live t' p1 = some a := by
  obtain ⟨a, r, x, y⟩ := L_live _ _ _ (H_rel h) r1
  obtain ⟨a', r', x', y'⟩ := L_live _ _ _ (H_rel h') r1
  rw [y] at y'
  cases y'
  exact ⟨a, x, x'⟩
theorem E_rate (h : zH t lag dead manner setting W P S n ov late) (h' : zH t' lag dead manner setting W P S n ov late) {p1 p2 : Int} (r1 : zR p1) (r2 : zR p2) : ∃ a, fX3_rate t p1 p2 = some a ∧ fX3_rate t' p1 p2 = some a ∧ zE (zlcmp a a) 0 := by
  obtain ⟨a, r, x, y, w⟩ := L_rate _ _ _ _ (H_rel h) r1 r2
  obtain ⟨a', r', x', y', w'⟩ := L_rate _ _ _ _ (H_rel h') r1 r2
  rw [y] at y'
  cases y'
  exact ⟨a, x, x', w⟩
theorem E_expected (h : zH t lag dead manner setting W P S n ov late) (h' : zH t' lag dead manner setting W P S n ov late) {p1 p2 p3 : Int} (r1 : zR p1) (r2 : zR p2) (r3 : zR p3) : ∃ a, fX3_expected t p1 p2 p3 = some a ∧ fX3_expected t' p1 p2 p3 = some a ∧ zE (zlcmp a a) 0 := by
  obtain ⟨a, r, x, y, w⟩ := L_expected _ _ _ _ _ (H_rel h) r1 r2 r3
  obtain ⟨a', r', x', y', w'⟩ := L_expected _ _ _ _ _ (H_rel h') r1 r2 r3
  rw [y] at y'
  cases y'
  exact ⟨a, x, x', w⟩
theorem E_shifted (h : zH t lag dead manner setting W P S n ov late) (h' : zH t' lag dead manner setting W P S n ov late) {p1 p2 : Int} (r1 : zR p1) (r2 : zR p2) : ∃ a ρ ρ', fX3_shifted t p1 p2 = some (a, ρ) ∧ fX3_shifted t' p1 p2 = some (a, ρ') := by
  obtain ⟨a, ρ, r, x, y⟩ := L_shifted _ _ _ _ (H_rel h) r1 r2
  obtain ⟨a', ρ', r', x', y'⟩ := L_shifted _ _ _ _ (H_rel h') r1 r2
  rw [y] at y'
  cases y'
  exact ⟨a, ρ, ρ', x, x'⟩
end House
