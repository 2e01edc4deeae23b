/-! ===== PURE: the reference: the search of a track, its loops ===== -/
theorem zRB_b {s : Nat → Int} {c a b bA bB bAg bMi : Int} (hs : zStr s) (hc : 0 ≤ c ∧ c ≤ 3) (h : zRB s c a b bA bB bAg bMi) : (-1 ≤ bAg ∧ bAg ≤ 6) ∧ (bAg ≠ -1 → (-3 ≤ bB ∧ bB ≤ 3) ∧ (0 ≤ bMi ∧ bMi ≤ 18)) := by
  rcases h with ⟨rfl, _⟩ | ⟨r, hr, hrs, rfl, rfl, rfl, rfl, _⟩
  · exact ⟨by omega, fun z => absurd rfl z⟩
  · have hb := zqM_b hs hc r
    exact ⟨by omega, fun _ => ⟨zS0_b _, hb.2.1⟩⟩
theorem zRB_next {s : Nat → Int} {c a bA bB bAg bMi : Int} (h : zRB s c a 4 bA bB bAg bMi) : zRB s c (a + 1) (-3) bA bB bAg bMi := by
  have e : ∀ q, zsn a 4 q ↔ zsn (a + 1) (-3) q := by
    intro q
    have hb := zS0_b (q / 16)
    unfold zsn zqB
    omega
  rcases h with ⟨h1, h2⟩ | ⟨r, hr, hrs, h1, h2, h3, h4, h5⟩
  · exact Or.inl ⟨h1, fun q hq z => h2 q hq ((e q).mpr z)⟩
  · exact Or.inr ⟨r, hr, (e r).mp hrs, h1, h2, h3, h4, fun q hq z => h5 q hq ((e q).mpr z)⟩
section MF
variable {t : zXT} {t2 : zMT} {lag dead manner setting W P S : Nat → Int} {n : Nat} {ov : Int} {lw lp ls : Nat → Int} {ml kn g : Nat} {fA : Nat → Nat} {L E T U G : Nat → Int} {gR : Nat} {Fa : Nat → Int}
theorem M_find_in (hk : zLk t t2 lag dead manner setting W P S n ov lw lp ls ml kn g fA L E T U G gR Fa) (hv : zVal lag dead manner setting W P S n ov) (hM : zCM t2 lag dead manner setting W P S n ov) {q : Nat} (hq : q < g) {a : Int} (ha : 0 ≤ a ∧ a ≤ 15) {y1 y2 y3 y4 y5 y6 y7 : Int} : ∀ (k : Nat) (b : Int) (zn : Nat) (x1 x2 x3 bA bB bAg bMi : Int), b + k = 4 → -3 ≤ b → k < zn → zRB (zgs lp ls fA q) (setting 3) a b bA bB bAg bMi →
    ∃ x1' x2' x3' bA' bB' bAg' bMi', fX4_findTrack_L16 zn (zFt t2 L E kn T U G gR g Fa y1 y2 y3 y4 y5 y6 y7) (q : Int) a b x1 x2 x3 bA bB bAg bMi = some (x1', x2', x3', bA', bB', bAg', bMi') ∧ zRB (zgs lp ls fA q) (setting 3) (a + 1) (-3) bA' bB' bAg' bMi' := by
  have hstr := zgs_str hk hq
  have hc4 := hv.1.2.2.2.2
  intro k
  induction k with
  | zero =>
    intro b zn x1 x2 x3 bA bB bAg bMi hbk hb3 hz h
    obtain ⟨zn, rfl⟩ : ∃ q, zn = q + 1 := ⟨zn - 1, by omega⟩
    rw [fX4_findTrack_L16_s]
    have : b = 4 := by omega
    subst this
    exact ⟨x1, x2, x3, bA, bB, bAg, bMi, zyes (zLt_t (by omega) (by omega) (by omega)) rfl, zRB_next h⟩
  | succ k ih =>
    intro b zn x1 x2 x3 bA bB bAg bMi hbk hb3 hz h
    obtain ⟨zn, rfl⟩ : ∃ q, zn = q + 1 := ⟨zn - 1, by omega⟩
    rw [fX4_findTrack_L16_s]
    obtain ⟨p, hp, pa, pb⟩ := zq_of ha (show -3 ≤ b ∧ b ≤ 3 by omega)
    have ht := M_tries hk hv hM hq (p := p) x1 x2 x3 bA bB bAg bMi
    rw [pa, pb] at ht
    have hbp := zqM_b hstr hc4 p
    have hbb := zRB_b hstr hc4 h
    have hah := M_ahead (t := zFt t2 L E kn T U G gR g Fa (zqC (zgs lp ls fA q) (setting 3) p) (zqO (zgs lp ls fA q) (setting 3) p) (zqM (zgs lp ls fA q) (setting 3) p) bA bB bAg bMi) (C := zqC (zgs lp ls fA q) (setting 3) p) (O := 0) (M := zqM (zgs lp ls fA q) (setting 3) p) (b := b) (bA := bA) (bB := bB) (bAg := bAg) (bMi := bMi) rfl rfl rfl rfl rfl hbp.1 hbp.2.1 (by omega) hbb.1 hbb.2
    have hst := zRB_step hstr hc4 (show -3 ≤ b ∧ b ≤ 3 by omega) hp pa pb h
    by_cases c : zah (zqC (zgs lp ls fA q) (setting 3) p) (zqM (zgs lp ls fA q) (setting 3) p) b bA bB bAg bMi = true
    · rw [if_pos c] at hah
      rw [if_pos c, if_pos c, if_pos c, if_pos c] at hst
      obtain ⟨x1', x2', x3', bA', bB', bAg', bMi', f1, f2⟩ := ih (b + 1) zn (zqC (zgs lp ls fA q) (setting 3) p) (zqO (zgs lp ls fA q) (setting 3) p) (zqM (zgs lp ls fA q) (setting 3) p) a b (zqC (zgs lp ls fA q) (setting 3) p) (zqM (zgs lp ls fA q) (setting 3) p) (by omega) (by omega) (by omega) hst
      exact ⟨x1', x2', x3', bA', bB', bAg', bMi', zno (zLt_f (by omega) (by omega) (by omega)) (zb ht (zb hah (zb (zno z10 rfl) f1))), f2⟩
    · rw [if_neg c] at hah
      rw [if_neg c, if_neg c, if_neg c, if_neg c] at hst
      obtain ⟨x1', x2', x3', bA', bB', bAg', bMi', f1, f2⟩ := ih (b + 1) zn (zqC (zgs lp ls fA q) (setting 3) p) (zqO (zgs lp ls fA q) (setting 3) p) (zqM (zgs lp ls fA q) (setting 3) p) bA bB bAg bMi (by omega) (by omega) (by omega) hst
      exact ⟨x1', x2', x3', bA', bB', bAg', bMi', zno (zLt_f (by omega) (by omega) (by omega)) (zb ht (zb hah (zb (zyes z00 rfl) f1))), f2⟩
theorem M_find_out (hk : zLk t t2 lag dead manner setting W P S n ov lw lp ls ml kn g fA L E T U G gR Fa) (hv : zVal lag dead manner setting W P S n ov) (hM : zCM t2 lag dead manner setting W P S n ov) {q : Nat} (hq : q < g) {y1 y2 y3 y4 y5 y6 y7 : Int} : ∀ (k i : Nat) (zn : Nat) (x1 x2 x3 bA bB bAg bMi : Int), i + k = 16 → k < zn → zRB (zgs lp ls fA q) (setting 3) (i : Int) (-3) bA bB bAg bMi →
    ∃ x1' x2' x3' bA' bB' bAg' bMi', fX4_findTrack_L7 zn (zFt t2 L E kn T U G gR g Fa y1 y2 y3 y4 y5 y6 y7) (q : Int) (i : Int) x1 x2 x3 bA bB bAg bMi = some (x1', x2', x3', bA', bB', bAg', bMi') ∧ zRB (zgs lp ls fA q) (setting 3) 16 (-3) bA' bB' bAg' bMi' := by
  intro k
  induction k with
  | zero =>
    intro i zn x1 x2 x3 bA bB bAg bMi hik hz h
    obtain ⟨zn, rfl⟩ : ∃ q, zn = q + 1 := ⟨zn - 1, by omega⟩
    rw [fX4_findTrack_L7_s]
    have : i = 16 := by omega
    subst this
    exact ⟨x1, x2, x3, bA, bB, bAg, bMi, zyes (zLt_t (by omega) (by omega) (by omega)) rfl, h⟩
  | succ k ih =>
    intro i zn x1 x2 x3 bA bB bAg bMi hik hz h
    obtain ⟨zn, rfl⟩ : ∃ q, zn = q + 1 := ⟨zn - 1, by omega⟩
    rw [fX4_findTrack_L7_s]
    obtain ⟨u1, u2, u3, u4, u5, u6, u7, f1, f2⟩ := M_find_in hk hv hM hq (a := (i : Int)) (by omega) (y1 := y1) (y2 := y2) (y3 := y3) (y4 := y4) (y5 := y5) (y6 := y6) (y7 := y7) 7 (-3) zF x1 x2 x3 bA bB bAg bMi (by omega) (by omega) (by unfold zF; omega) h
    obtain ⟨v1, v2, v3, v4, v5, v6, v7, g1, g2⟩ := ih (i + 1) zn u1 u2 u3 u4 u5 u6 u7 (by omega) (by omega) f2
    exact ⟨v1, v2, v3, v4, v5, v6, v7, zno (zLt_f (by omega) (by omega) (by omega)) (zb f1 g1), g2⟩
theorem M_find (hk : zLk t t2 lag dead manner setting W P S n ov lw lp ls ml kn g fA L E T U G gR Fa) (hv : zVal lag dead manner setting W P S n ov) (hM : zCM t2 lag dead manner setting W P S n ov) {q : Nat} (hq : q < g) (y1 y2 y3 y4 y5 y6 y7 : Int) :
    ∃ r x1 x2 x3 bA bB bAg bMi, fX4_findTrack (zFt t2 L E kn T U G gR g Fa y1 y2 y3 y4 y5 y6 y7) (q : Int) = some (r, x1, x2, x3, bA, bB, bAg, bMi) ∧ ((r = 0 ∧ ∀ p, p < 112 → zqC (zgs lp ls fA q) (setting 3) p < setting 2) ∨ (r = 1 ∧ ∃ p, p < 112 ∧ setting 2 ≤ zqC (zgs lp ls fA q) (setting 3) p ∧ bA = zqA p ∧ bB = zqB p ∧ ∀ x, x < 112 → zqK (zgs lp ls fA q) (setting 3) p ≤ zqK (zgs lp ls fA q) (setting 3) x)) := by
  have hstr := zgs_str hk hq
  have hc4 := hv.1.2.2.2.2
  have hc3 := hv.1.2.2.2.1
  obtain ⟨u1, u2, u3, u4, u5, u6, u7, f1, f2⟩ := M_find_out hk hv hM hq (y1 := y1) (y2 := y2) (y3 := y3) (y4 := y4) (y5 := y5) (y6 := y6) (y7 := y7) 16 0 zF y1 y2 y3 y4 y5 (-1) y7 (by omega) (by unfold zF; omega) (Or.inl ⟨rfl, fun x hx z => by
    have ha := zqA_b x
    have hb := zS0_b (x / 16)
    rcases z with z | ⟨_, z⟩
    · have z' : zqA x < 0 := z
      omega
    · unfold zqB at z; omega⟩)
  have hall : ∀ x, zsn 16 (-3) x := fun x => Or.inl (by have := zqA_b x; omega)
  rcases f2 with ⟨_, h0⟩ | ⟨p, hp, _, rfl, rfl, rfl, rfl, hmin⟩
  · exact absurd (hall 0) (h0 0 (by omega))
  · have hbp := zqM_b hstr hc4 p
    by_cases c : setting 2 ≤ zqC (zgs lp ls fA q) (setting 3) p
    · refine ⟨1, u1, u2, u3, zqA p, zqB p, zqC (zgs lp ls fA q) (setting 3) p, zqM (zgs lp ls fA q) (setting 3) p, ?_, Or.inr ⟨rfl, p, hp, c, rfl, rfl, fun x hx => hmin x hx (hall x)⟩⟩
      unfold fX4_findTrack
      refine zb f1 (zok ⟨by omega, by omega⟩ ?_)
      refine zno (zLt_f ?_ ?_ ?_) rfl
      · show zm_setting t2 2 ≤ _; rw [hM.2.2.2.1]; exact c
      · show _ ≤ zm_setting t2 2; rw [hM.2.2.2.1]; omega
      · show zqC _ _ p < _; omega
    · refine ⟨0, u1, u2, u3, zqA p, zqB p, zqC (zgs lp ls fA q) (setting 3) p, zqM (zgs lp ls fA q) (setting 3) p, ?_, Or.inl ⟨rfl, fun x hx => ?_⟩⟩
      · unfold fX4_findTrack
        refine zb f1 (zok ⟨by omega, by omega⟩ ?_)
        refine zyes (zLt_t ?_ ?_ ?_) rfl
        · show _ < zm_setting t2 2; rw [hM.2.2.2.1]; show zqC _ _ p < _; omega
        · show _ ≤ zqC _ _ p; omega
        · show zm_setting t2 2 < _; rw [hM.2.2.2.1]; omega
      · have h1 := hmin x hx (hall x)
        have hbx := zqM_b hstr hc4 x
        unfold zqK at h1
        omega
end MF
