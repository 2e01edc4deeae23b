/-! ===== PURE: one run of the law ===== -/
theorem zlet2 {α : Type} {e v : Int} {f : Int → Option α} {r : Option α} (h : e = v) (k : f v = r) : zl e f = r := by subst h; exact k
section Ep
variable {lag dead manner setting W P S W0 P0 S0 : Nat → Int} {n : Nat} {ov late : Int} {t : zXT} {L : Nat} {zsc : Nat → Int}
theorem H_open (h : zH t lag dead manner setting W P S n 0 late) : fX3_rate t 0 0 = some (-9223372036854775808) ∧ fX3_live t 0 = some (-3) ∧ fX3_shifted t 0 0 = some (-3, zx_shiftedRow t) := by
  have eo := h.2.1.1.2.2.2.2.2
  have r0 : zR 0 := ⟨by omega, by omega⟩
  unfold fX3_rate fX3_live fX3_shifted
  exact ⟨zb (P3t r0 (by omega)) (zno z10 (zb (W3t r0 (by omega) (by omega) (by omega)) (zno z10 (zyes (zE_t eo) rfl)))), zb (P3t r0 (by omega)) (zno z10 (zyes (zE_t eo) rfl)), zb (W3t r0 (by omega) (by omega) (by omega)) (zno z10 (zb (W3t r0 (by omega) (by omega) (by omega)) (zno z10 (zyes (zE_t eo) rfl))))⟩
theorem H_many11 (h : zH t lag dead manner setting W P S n ov late) : fX3_many t 11 = some (zhor (setting 0) W n ov + 2000) := by
  rw [(N_many (t := t)).2.2.2.2.2.2.2.1, X_horizon h.2.1.1 h.1]
  rfl
theorem H_kept (h : zH t lag dead manner setting W P S n ov late) : zr_size (zx_keptRow t) = (n : Int) := by
  rw [h.2.1.1.2.2.2.2.1]; rfl
theorem H_settled (h : zH t lag dead manner setting W P S n ov late) : 0 ≤ zx_settled t ∧ zx_settled t ≤ (n : Int) := by
  have h1 := h.2.1.2.1
  have h2 := zst_le W (zhor (setting 0) W n ov) n
  omega
theorem LW_refeed {pl mo st ke : Nat → Int} {M : Int} {b : Nat} (hn : n ≤ 47) (hB : setting 0 = (b : Int)) (hM : M ≤ 9999) (hA : zAr (b : Int) pl mo st ke M n) (hmo : ∀ j k, j ≤ k → k < n → mo j ≤ mo k) (p : zXT) (e c : Int) : ∀ (d i zn : Nat) (o : zXT) (W P S : Nat → Int), i + d = n → d < zn → zH o lag dead manner setting W P S i 0 late → (zrl W P S i).Perm (zrl mo pl st i) → zBy i W P S W0 P0 S0 →
    ∃ o' W' P' S', ∀ ke' : Nat → Int, fL_law_L587 zn L zsc o p pl mo st ke' e (n : Int) c (i : Int) = some o' ∧ zH o' lag dead manner setting W' P' S' n 0 late ∧ (zrl W' P' S' n).Perm (zrl mo pl st n) ∧ zBy n W' P' S' W0 P0 S0 := by
  intro d
  induction d with
  | zero =>
    intro i zn o W P S hi hzn h hp hby
    obtain ⟨zn, rfl⟩ : ∃ q, zn = q + 1 := ⟨zn - 1, by omega⟩
    have ei : i = n := by omega
    subst ei
    refine ⟨o, W, P, S, fun ke' => ⟨?_, h, hp, hby⟩⟩
    rw [fL_law_L587_s]
    exact zyes (zLe_t (by omega) (by omega) (by omega)) rfl
  | succ d ih =>
    intro i zn o W P S hi hzn h hp hby
    obtain ⟨zn, rfl⟩ : ∃ q, zn = q + 1 := ⟨zn - 1, by omega⟩
    have hAi := hA i (by omega)
    obtain ⟨r, W1, P1, S1, r1, r2, r3, r4, r5, r6⟩ := F_pulse h hby (p1 := pl i) (p2 := mo i) (p3 := st i) hAi.1 (by omega) hAi.2.1 (fun y hy => by
      obtain ⟨j, hj, rfl⟩ := zrl_mem (hp.mem_iff.mp hy)
      have := hmo j i (by omega) (by omega)
      show mo j ≤ _
      rw [hB]; omega) (by omega)
    have hp' : (zrl W1 P1 S1 (i + 1)).Perm (zrl mo pl st (i + 1)) := by
      rw [zrl_succ mo]
      exact r5.trans ((List.Perm.cons _ hp).trans (List.perm_append_singleton _ _).symm)
    obtain ⟨o', W', P', S', k⟩ := ih (i + 1) zn (zNP o r) W1 P1 S1 (by omega) (by omega) r3 hp' r6
    refine ⟨o', W', P', S', fun ke' => ?_⟩
    obtain ⟨k1, k2, k3, k4⟩ := k ke'
    refine ⟨?_, k2, k3, k4⟩
    have g0 : zIn (i : Int) 48 := ⟨by omega, by omega⟩
    rw [fL_law_L587_s]
    exact zno (zLe_f (by omega) (by omega) (by omega)) (zok g0 (zok g0 (zok g0 (zb (by rw [zcN]; exact r1) (zyes (zE_t r2) k1)))))
/-- the end of a run: the second house ends, both are held side by side -/
theorem LW_rest {o p : zXT} (h : zH o lag dead manner setting W P S n 1 late) (h' : zH p lag dead manner setting W P S n 0 late) (c : Int) : ∃ r187 r r' r195 r197, fX3_end p = some r187 ∧ r187.1 = (n : Int) - zx_settled p ∧ fL_same o (zNE p r187) c = some (1, zNS o r, zNS (zNE p r187) r') ∧ fL_sums (zNS (zNE p r187) r') = some 1 ∧ fX3_plane (zNS (zNE p r187) r') 0 0 0 0 = some r195 ∧ r195.1 = -3 ∧ fX3_tune (zNL (zNS (zNE p r187) r') r195) 0 0 = some r197 ∧ r197.1 = -3 ∧ zH (zNS o r) lag dead manner setting W P S n 1 late ∧ zH (zNT (zNL (zNS (zNE p r187) r') r195) r197) lag dead manner setting W P S n 1 late := by
  obtain ⟨r187, a1, a2, a3, a4, a5⟩ := H_end0 h'
  obtain ⟨r, r', b1⟩ := LW_same h a4 c
  have k := H_shf a4 r'
  obtain ⟨r195, c1, c2, c3⟩ := H_plane1 k (p1 := 0) (p2 := 0) (p3 := 0) (p4 := 0) (by omega) (by omega) (by omega) (by omega)
  have k2 : zH (zNL (zNS (zNE p r187) r') r195) lag dead manner setting W P S n 1 late := by rw [c3]; exact k
  obtain ⟨r197, d1, d2, d3⟩ := H_tune1 k2 (j := 0) (p2 := 0) (by omega) (show (0 : Int) ≤ 0 ∧ (0 : Int) ≤ 100 by omega)
  exact ⟨r187, r, r', r195, r197, a1, a2, b1, LW_sums k, c1, c2, d1, d2, H_shf h r, by rw [d3]; exact k2⟩
end Ep
