/-! ===== PURE: what is told stays told: groups are only added ===== -/
def zGq (γ γ' : zGrT) (q : Nat) : Prop := zg_end γ q = zg_end γ' q ∧ zg_set γ q = zg_set γ' q ∧ zg_trackStart γ q = zg_trackStart γ' q ∧ zg_trackSlope γ q = zg_trackSlope γ' q ∧ zg_trackSet γ q = zg_trackSet γ' q ∧ zg_trackMisses γ q = zg_trackMisses γ' q
theorem zGq_r (γ : zGrT) (q : Nat) : zGq γ γ q := ⟨rfl, rfl, rfl, rfl, rfl, rfl⟩
theorem zGq_t {a b c : zGrT} {q : Nat} (h : zGq a b q) (k : zGq b c q) : zGq a c q := ⟨h.1.trans k.1, h.2.1.trans k.2.1, h.2.2.1.trans k.2.2.1, h.2.2.2.1.trans k.2.2.2.1, h.2.2.2.2.1.trans k.2.2.2.2.1, h.2.2.2.2.2.trans k.2.2.2.2.2⟩
def zRq (ρ ρ' : zRowT) (i : Nat) : Prop := zr_when ρ i = zr_when ρ' i ∧ zr_plane ρ i = zr_plane ρ' i ∧ zr_strip ρ i = zr_strip ρ' i
/-- the groups of t are those of t' so far -/
def zPf (t t' : zXT) : Prop := ∃ g g' : Nat, zg_size (zx_groups t) = (g : Int) ∧ zg_size (zx_groups t') = (g' : Int) ∧ g ≤ g' ∧ (∀ q, q < g → zGq (zx_groups t) (zx_groups t') q) ∧ (∀ q i : Nat, q < g → (i : Int) < zg_end (zx_groups t) q → zRq (zx_liveRow t) (zx_liveRow t') i) ∧ zx_lag t = zx_lag t'
theorem zPf_t {a b c : zXT} (h : zPf a b) (k : zPf b c) : zPf a c := by
  obtain ⟨g, g', h1, h2, h3, h4, h5, h6⟩ := h
  obtain ⟨f, f', k1, k2, k3, k4, k5, k6⟩ := k
  have e : f = g' := by rw [h2] at k1; omega
  subst e
  refine ⟨g, f', h1, k2, by omega, fun q hq => zGq_t (h4 q hq) (k4 q (by omega)), fun q i hq hi => ?_, h6.trans k6⟩
  have a1 := h5 q i hq hi
  have a2 := k5 q i (by omega) (by rw [← (h4 q hq).1]; exact hi)
  exact ⟨a1.1.trans a2.1, a1.2.1.trans a2.2.1, a1.2.2.trans a2.2.2⟩
theorem zPf_same {a b : zXT} {g : Nat} (h : zg_size (zx_groups a) = (g : Int)) (e1 : zx_groups a = zx_groups b) (e2 : zx_liveRow a = zx_liveRow b) (e3 : zx_lag a = zx_lag b) : zPf a b :=
  ⟨g, g, h, by rw [← e1]; exact h, Nat.le_refl _, fun q _ => by rw [e1]; exact zGq_r _ _, fun q i _ _ => by rw [e2]; exact ⟨rfl, rfl, rfl⟩, e3⟩
theorem G_add_keep {γ : zGrT} {σ : zLsT} {a b : Int} {r} (h : fX0_add γ σ a b = some r) {g : Nat} (hg : zg_size γ = (g : Int)) : ∃ g' : Nat, r.2.2.2.2.2.2 = (g' : Int) ∧ g ≤ g' ∧ ∀ q, q < g → zg_end γ q = r.1 q ∧ zg_set γ q = r.2.1 q ∧ zg_trackStart γ q = r.2.2.1 q ∧ zg_trackSlope γ q = r.2.2.2.1 q ∧ zg_trackSet γ q = r.2.2.2.2.1 q ∧ zg_trackMisses γ q = r.2.2.2.2.2.1 q := by
  unfold fX0_add at h
  rw [hg] at h
  by_cases c : zLt (g : Int) 240
  · have h := zif_pos h c
    obtain ⟨_, h⟩ := zg_some h
    obtain ⟨_, h⟩ := zg_some h
    obtain ⟨_, h⟩ := zg_some h
    obtain ⟨_, h⟩ := zg_some h
    obtain ⟨_, h⟩ := zg_some h
    obtain ⟨_, h⟩ := zg_some h
    cases h
    refine ⟨g + 1, rfl, by omega, fun q hq => ?_⟩
    have e : ∀ (f : Nat → Int) (v : Int), f q = zu f (g : Int) v q := fun f v => by
      unfold zu
      rw [zcN, if_neg (by omega)]
    exact ⟨e _ _, e _ _, e _ _, e _ _, e _ _, e _ _⟩
  · have h := zif_neg h c
    cases h
    exact ⟨g, rfl, Nat.le_refl _, fun q _ => ⟨rfl, rfl, rfl, rfl, rfl, rfl⟩⟩
theorem X_shut_keep {t : zXT} {r} (h : fX3_shutGroup t = some r) {g : Nat} (hg : zg_size (zx_groups t) = (g : Int)) : ∃ g' : Nat, zg_size r.1 = (g' : Int) ∧ g ≤ g' ∧ ∀ q, q < g → zGq (zx_groups t) r.1 q := by
  unfold fX3_shutGroup at h
  obtain ⟨r1, _, h⟩ := zbind h
  obtain ⟨_, h⟩ := zg_some h
  obtain ⟨r4, _, h⟩ := zbind h
  obtain ⟨r6, _, h⟩ := zbind h
  obtain ⟨_, h⟩ := zg_some h
  obtain ⟨_, h⟩ := zg_some h
  obtain ⟨r10, _, h⟩ := zbind h
  obtain ⟨r12, _, h⟩ := zbind h
  obtain ⟨r14, ha, h⟩ := zbind h
  cases h
  exact G_add_keep ha hg
theorem X_loop_keep : ∀ (zn : Nat) (t : zXT) (ed : Int) (ρ : zRowT) (du : Nat → Int) (sd kn i : Int) (γ : zGrT) (σ : zLsT) (r : zGrT × zLsT) (g : Nat), fX3_follow_L58 zn t ed ρ du sd kn i γ σ = some r → zg_size γ = (g : Int) → ∃ g' : Nat, zg_size r.1 = (g' : Int) ∧ g ≤ g' ∧ ∀ q, q < g → zGq γ r.1 q := by
  intro zn
  induction zn with
  | zero => intro t ed ρ du sd kn i γ σ r g h; cases h
  | succ zn ih =>
    intro t ed ρ du sd kn i γ σ r g h hg
    rw [fX3_follow_L58_s] at h
    by_cases c : zLe 240 i
    · have h := zif_pos h c
      cases h
      exact ⟨g, hg, Nat.le_refl _, fun q _ => zGq_r _ _⟩
    have h := zif_neg h c
    obtain ⟨r46, _, h⟩ := zbind h
    by_cases c : zE r46 0
    · have h := zif_pos h c
      cases h
      exact ⟨g, hg, Nat.le_refl _, fun q _ => zGq_r _ _⟩
    have h := zif_neg h c
    obtain ⟨r48, hs, h⟩ := zbind h
    obtain ⟨g1, a1, a2, a3⟩ := X_shut_keep hs (g := g) hg
    obtain ⟨g2, b1, b2, b3⟩ := ih _ _ _ _ _ _ _ _ _ _ g1 h a1
    exact ⟨g2, b1, by omega, fun q hq => zGq_t (a3 q hq) (b3 q (by omega))⟩
theorem X_follow_keep {t : zXT} {r} (h : fX3_follow t = some r) {g : Nat} (hg : zg_size (zx_groups t) = (g : Int)) : ∃ g' : Nat, zg_size r.2.1 = (g' : Int) ∧ g ≤ g' ∧ ∀ q, q < g → zGq (zx_groups t) r.2.1 q := by
  unfold fX3_follow at h
  obtain ⟨r1, _, h⟩ := zbind h
  obtain ⟨r3, _, h⟩ := zbind h
  obtain ⟨r5, _, h⟩ := zbind h
  obtain ⟨r27, _, h⟩ := zbind h
  obtain ⟨r53, hl, h⟩ := zbind h
  cases h
  exact X_loop_keep _ _ _ _ _ _ _ _ _ _ _ g hl hg
section Keep
variable {lag dead manner setting W P S : Nat → Int} {n : Nat} {ov ov' hz hz' : Int} {t t' : zXT}
/-- the pulses in shut groups stay where they are in the live row -/
theorem zIX_live (hv : zVal lag dead manner setting W P S n ov) (h : zIX t lag dead manner setting W P S n ov hz) (h' : zIX t' lag dead manner setting W P S n ov' hz') (hle : hz ≤ hz') : ∃ g : Nat, zg_size (zx_groups t) = (g : Int) ∧ ∀ q i : Nat, q < g → (i : Int) < zg_end (zx_groups t) q → zRq (zx_liveRow t) (zx_liveRow t') i := by
  obtain ⟨hc, hsd, hdu, lw, lp, ls, ml, hr, hml, hrl, hok, hkn, g, fA, hg, hcm⟩ := h
  obtain ⟨hc', hsd', hdu', lw', lp', ls', ml', hr', hml', hrl', hok', hkn', g', fA', hg', hcm'⟩ := h'
  have hx01 := zst_mono (w := W) hle n
  have hx1n := zst_le W hz' n
  have f1 := zfilt hv (ed := hz - zml lag 6) (by omega) hrl
  have f2 := zfilt hv (ed := hz - zml lag 6) (by omega) hrl'
  have f3 : zSR lag dead manner W P S (hz - zml lag 6) (fun _ => 0) (zst W hz' n) = zSR lag dead manner W P S (hz - zml lag 6) (fun _ => 0) (zst W hz n) := by
    have := zSR_skip (lag := lag) (dead := dead) (manner := manner) (W := W) (P := P) (S := S) (ed := hz - zml lag 6) (sh := fun _ => 0) (x := zst W hz n) (zst W hz' n - zst W hz n) (fun i h1 h2 => by
      have h3 := zst_after (W := W) (h := hz) (n := n) (i := i) h1 (by omega)
      have h4 := zlag_b hv (i := i) (by omega)
      omega)
    rw [show zst W hz n + (zst W hz' n - zst W hz n) = zst W hz' n by omega] at this
    exact this
  have f4 : zrl lw lp ls (zst lw (hz - zml lag 6) ml) = zrl lw' lp' ls' (zst lw' (hz - zml lag 6) ml') := by rw [f1, f2, f3]
  have ek : zst lw (hz - zml lag 6) ml = zst lw' (hz - zml lag 6) ml' := by
    have := congrArg List.length f4
    rwa [zrl_len, zrl_len] at this
  rw [← ek] at f4
  have hinj := zrl_inj f4
  have hm := zXG_mono hg
  refine ⟨g, hg.1, fun q i hq hi => ?_⟩
  rw [hg.2.2.2.1 q hq] at hi
  have h1 := hm (g - (q + 1)) (q + 1) (by omega)
  rw [show q + 1 + (g - (q + 1)) = g by omega] at h1
  have h2 := hg.2.2.1
  have h3 := hinj i (by omega)
  rw [hr, hr']
  exact h3
theorem zPf_follow (hv : zVal lag dead manner setting W P S n ov) (h : zIX t lag dead manner setting W P S n ov hz) {ρ : zRowT} {γ : zGrT} {σ : zLsT} {du : Nat → Int} {sd kd : Int} (hf : fX3_follow t = some (ρ, γ, σ, du, sd, kd)) (e1 : zx_lag t = zx_lag t') (e2 : zx_liveRow t' = ρ) (e3 : zx_groups t' = γ) (h' : zIX t' lag dead manner setting W P S n ov' hz') (hle : hz ≤ hz') : zPf t t' := by
  obtain ⟨g, a1, a2⟩ := zIX_live hv h h' hle
  obtain ⟨g', b1, b2, b3⟩ := X_follow_keep hf a1
  exact ⟨g, g', a1, by rw [e3]; exact b1, b2, fun q hq => by rw [e3]; exact b3 q hq, a2, e1⟩
end Keep
