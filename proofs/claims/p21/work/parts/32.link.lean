/-! ===== PURE: the class's groups are the reference's groups ===== -/
def zNx (g x : Nat) (fF : Nat → Nat) (q : Nat) : Nat := if q + 1 < g then fF (q + 1) else x
theorem zGI_nx {T : Nat → Int} {w ed : Int} {x g sh : Nat} {G Fa : Nat → Int} {fF : Nat → Nat} (h : zGI T w ed x g sh G Fa fF) {q : Nat} (hq : q < g) : zEnd T w x (fF q) (zNx g x fF q) := by
  have hlt := zGI_lt h
  obtain ⟨h1, h2, h3, h4, h5, h6, h7, h8, h9⟩ := h
  unfold zNx
  by_cases c : q + 1 < g
  · rw [if_pos c]
    have a := h5 q c
    have b := hlt (g - (q + 2)) (q + 1) (by omega)
    exact ⟨a.1, by omega, a.2.2, fun _ => a.2.1⟩
  · rw [if_neg c]
    have e : q = g - 1 := by omega
    have hx : 0 < x := by
      rcases Nat.eq_zero_or_pos x with z | z
      · have := h2 z; omega
      · exact z
    have a := h3 hx
    rw [e]
    exact ⟨a.2.2.1, Nat.le_refl _, a.2.2.2, fun z => by omega⟩
theorem zGI_cover {T : Nat → Int} {w ed : Int} {x g sh : Nat} {G Fa : Nat → Int} {fF : Nat → Nat} (h : zGI T w ed x g sh G Fa fF) {y : Nat} (hy : y < x) : ∀ k q, q + k + 1 = g → fF q ≤ y → ∃ p, q ≤ p ∧ p < g ∧ fF p ≤ y ∧ y < zNx g x fF p := by
  intro k
  induction k with
  | zero =>
    intro q hq hf
    refine ⟨q, Nat.le_refl _, by omega, hf, ?_⟩
    unfold zNx
    rw [if_neg (by omega)]; exact hy
  | succ k ih =>
    intro q hq hf
    by_cases c : y < fF (q + 1)
    · refine ⟨q, Nat.le_refl _, by omega, hf, ?_⟩
      unfold zNx
      rw [if_pos (by omega)]; exact c
    · obtain ⟨p, p1, p2, p3, p4⟩ := ih (q + 1) (by omega) (by omega)
      exact ⟨p, by omega, p2, p3, p4⟩
theorem zGI_mono {T : Nat → Int} {w ed : Int} {x g sh : Nat} {G Fa : Nat → Int} {fF : Nat → Nat} (h : zGI T w ed x g sh G Fa fF) : ∀ d q, q + d < g → fF q ≤ fF (q + d) := by
  intro d
  induction d with
  | zero => intro q _; exact Nat.le_refl _
  | succ d ih =>
    intro q hq
    have h1 := ih q (by omega)
    have h2 := (h.2.2.2.2.1 (q + d) (by omega)).1
    rw [show q + (d + 1) = (q + d) + 1 by omega]
    omega
/-- a group's members are those from f below e -/
def zGr (G : Nat → Int) (kn q f e : Nat) : Prop := f < e ∧ e ≤ kn ∧ ∀ y, y < kn → (G y = (q : Int) ↔ (f ≤ y ∧ y < e))
theorem zGI_gr {T : Nat → Int} {w ed : Int} {x g sh : Nat} {G Fa : Nat → Int} {fF : Nat → Nat} (h : zGI T w ed x g sh G Fa fF) {q : Nat} (hq : q < g) : zGr G x q (fF q) (zNx g x fF q) := by
  have hn := zGI_nx h hq
  have hcv := fun y (hy : y < x) => zGI_cover h (y := y) hy (g - 1) 0 (by omega)
  have hmo := zGI_mono h
  obtain ⟨h1, h2, h3, h4, h5, h6, h7, h8, h9⟩ := h
  refine ⟨hn.1, hn.2.1, fun y hy => ⟨fun hG => ?_, fun hr => h6 q y hq hr.1 hr.2⟩⟩
  obtain ⟨p, p1, p2, p3, p4⟩ := hcv y hy (by rw [(h3 (by omega)).2.1]; omega)
  have e := h6 p y p2 p3 p4
  have : p = q := by rw [hG] at e; omega
  subst this
  exact ⟨p3, p4⟩
theorem zEnd_congr {T T' : Nat → Int} {w : Int} {N f e : Nat} (hT : ∀ i, i < N → T i = T' i) (h : zEnd T w N f e) : zEnd T' w N f e := by
  obtain ⟨h1, h2, h3, h4⟩ := h
  refine ⟨h1, h2, fun i i1 i2 => ?_, fun hl => ?_⟩
  · rw [← hT i (by omega), ← hT f (by omega)]; exact h3 i i1 i2
  · rw [← hT e hl, ← hT f (by omega)]; exact h4 hl
theorem zLk_ind {lw lp ls T : Nat → Int} {kn : Nat} {w ed c fold : Int} {γ : zGrT} {g gR sh : Nat} {fA fF : Nat → Nat} {G Fa : Nat → Int} (hT : ∀ i, i < kn → T i = lw i) (hX : zXG lw lp ls kn w ed c fold γ g fA) (hG : zGI T w ed kn gR sh G Fa fF) : ∀ q, q ≤ g → (q < gR ∧ fF q = fA q) ∨ (q = gR ∧ fA q = kn) := by
  intro q
  induction q with
  | zero =>
    intro _
    by_cases c0 : kn = 0
    · right
      have := hG.2.1 c0
      have := hX.2.1
      omega
    · left
      have := hG.2.2.1 (by omega)
      exact ⟨this.1, by rw [this.2.1, hX.2.1]⟩
  | succ q ih =>
    intro hq
    have hz := (hX.2.2.2.2 q (by omega)).1
    rcases ih (by omega) with ⟨a, b⟩ | ⟨a, b⟩
    · have e1 := zGI_nx hG a
      have e2 := zEnd_congr hT e1
      rw [b] at e2
      have e3 := zEnd_uniq e2 hz
      unfold zNx at e3
      by_cases cc : q + 1 < gR
      · rw [if_pos cc] at e3; exact Or.inl ⟨cc, e3⟩
      · rw [if_neg cc] at e3; exact Or.inr ⟨by omega, e3.symm⟩
    · have := hz.1
      have := hz.2.1
      omega
theorem zLk_sh {lw lp ls T : Nat → Int} {kn : Nat} {w ed c fold : Int} {γ : zGrT} {g gR sh : Nat} {fA fF : Nat → Nat} {G Fa : Nat → Int} (hT : ∀ i, i < kn → T i = lw i) (hX : zXG lw lp ls kn w ed c fold γ g fA) (hcm : fA g = kn ∨ ed ≤ lw (fA g) + w) (hG : zGI T w ed kn gR sh G Fa fF) : sh = g ∧ ∀ q, q < g → q < gR ∧ fF q = fA q ∧ zNx gR kn fF q = fA (q + 1) := by
  have hi := zLk_ind hT hX hG
  have hr : ∀ q, q < g → q < gR ∧ fF q = fA q ∧ zNx gR kn fF q = fA (q + 1) := by
    intro q hq
    have hz := (hX.2.2.2.2 q hq).1
    rcases hi q (by omega) with ⟨a, b⟩ | ⟨a, b⟩
    · have e2 := zEnd_congr hT (zGI_nx hG a)
      rw [b] at e2
      exact ⟨a, b, zEnd_uniq e2 hz⟩
    · have := hz.1
      have := hz.2.1
      omega
  have hlt := zGI_lt hG
  obtain ⟨h1, h2, h3, h4, h5, h6, h7, h8, h9⟩ := hG
  refine ⟨?_, hr⟩
  have l1 : g ≤ sh := by
    by_cases c : g ≤ sh
    · exact c
    · exfalso
      have r := hr sh (by omega)
      have z := h9 sh (Nat.le_refl _) r.1
      have z2 := (hX.2.2.2.2 sh (by omega)).2.1
      have z3 := hlt (gR - (sh + 1)) sh (by omega)
      rw [hT _ z3, r.2.1] at z
      omega
  have l2 : sh ≤ g := by
    by_cases c : sh ≤ g
    · exact c
    · exfalso
      rcases hi g (Nat.le_refl _) with ⟨a, b⟩ | ⟨a, b⟩
      · have z := h8 g (by omega)
        have z3 := hlt (gR - (g + 1)) g (by omega)
        rw [hT _ z3, b] at z
        rcases hcm with q | q <;> omega
      · omega
  omega
/-- all that the questions need: the class's live row and groups beside what the reference finds -/
def zLk (t : zXT) (t2 : zMT) (lag dead manner setting W P S : Nat → Int) (n : Nat) (ov : Int) (lw lp ls : Nat → Int) (ml kn g : Nat) (fA : Nat → Nat) (L E T U G : Nat → Int) (gR : Nat) (Fa : Nat → Int) : Prop :=
  (zx_liveRow t = zk_R lw lp ls (ml : Int)) ∧
  (ml ≤ zst W (zhor (setting 0) W n ov) n) ∧
  (zrl lw lp ls ml = zLR lag dead manner W P S (zst W (zhor (setting 0) W n ov) n)) ∧
  (zok3 lw lp ls ml) ∧
  (zx_known t = (kn : Int)) ∧
  (kn ≤ ml) ∧
  (zx_settled t = ((zst W (zhor (setting 0) W n ov) n : Nat) : Int)) ∧
  (∀ j, j < 6 → zx_deadUntil t j = zEn W P dead manner (zst W (zhor (setting 0) W n ov) n) j) ∧
  (zXG lw lp ls kn (setting 1) (zhor (setting 0) W n ov - zml lag 6) (setting 3) (setting 2) (zx_groups t) g fA) ∧
  (fX4_findGroups t2 0 0 = some (L, E, (kn : Int), T, U, G, (gR : Int), (g : Int), Fa)) ∧
  (gR ≤ kn) ∧
  (g ≤ gR) ∧
  (∀ x, x < zst W (zhor (setting 0) W n ov) n → L x = if zlv W P dead manner x = true then 1 else 0) ∧
  (∀ j, j < kn → ∃ u : Nat, u < n ∧ U j = (u : Int) ∧ T j = W u - lag (P u).toNat ∧ lw j = T j ∧ lp j = P u ∧ ls j = S u) ∧
  (∀ q, q < g → Fa q = (fA q : Int)) ∧
  (∀ q, q < g → zGr G kn q (fA q) (fA (q + 1))) ∧
  (∀ y, y < kn → 0 ≤ G y ∧ G y < (gR : Int))
theorem zk_live {t : zXT} {t2 : zMT} {lag dead manner setting W P S : Nat → Int} {n : Nat} {ov : Int} {lw lp ls : Nat → Int} {ml kn g : Nat} {fA : Nat → Nat} {L E T U G : Nat → Int} {gR : Nat} {Fa : Nat → Int} (h : zLk t t2 lag dead manner setting W P S n ov lw lp ls ml kn g fA L E T U G gR Fa) : zx_liveRow t = zk_R lw lp ls (ml : Int) := h.1
theorem zk_mle {t : zXT} {t2 : zMT} {lag dead manner setting W P S : Nat → Int} {n : Nat} {ov : Int} {lw lp ls : Nat → Int} {ml kn g : Nat} {fA : Nat → Nat} {L E T U G : Nat → Int} {gR : Nat} {Fa : Nat → Int} (h : zLk t t2 lag dead manner setting W P S n ov lw lp ls ml kn g fA L E T U G gR Fa) : ml ≤ zst W (zhor (setting 0) W n ov) n := h.2.1
theorem zk_row {t : zXT} {t2 : zMT} {lag dead manner setting W P S : Nat → Int} {n : Nat} {ov : Int} {lw lp ls : Nat → Int} {ml kn g : Nat} {fA : Nat → Nat} {L E T U G : Nat → Int} {gR : Nat} {Fa : Nat → Int} (h : zLk t t2 lag dead manner setting W P S n ov lw lp ls ml kn g fA L E T U G gR Fa) : zrl lw lp ls ml = zLR lag dead manner W P S (zst W (zhor (setting 0) W n ov) n) := h.2.2.1
theorem zk_ok {t : zXT} {t2 : zMT} {lag dead manner setting W P S : Nat → Int} {n : Nat} {ov : Int} {lw lp ls : Nat → Int} {ml kn g : Nat} {fA : Nat → Nat} {L E T U G : Nat → Int} {gR : Nat} {Fa : Nat → Int} (h : zLk t t2 lag dead manner setting W P S n ov lw lp ls ml kn g fA L E T U G gR Fa) : zok3 lw lp ls ml := h.2.2.2.1
theorem zk_knw {t : zXT} {t2 : zMT} {lag dead manner setting W P S : Nat → Int} {n : Nat} {ov : Int} {lw lp ls : Nat → Int} {ml kn g : Nat} {fA : Nat → Nat} {L E T U G : Nat → Int} {gR : Nat} {Fa : Nat → Int} (h : zLk t t2 lag dead manner setting W P S n ov lw lp ls ml kn g fA L E T U G gR Fa) : zx_known t = (kn : Int) := h.2.2.2.2.1
theorem zk_kle {t : zXT} {t2 : zMT} {lag dead manner setting W P S : Nat → Int} {n : Nat} {ov : Int} {lw lp ls : Nat → Int} {ml kn g : Nat} {fA : Nat → Nat} {L E T U G : Nat → Int} {gR : Nat} {Fa : Nat → Int} (h : zLk t t2 lag dead manner setting W P S n ov lw lp ls ml kn g fA L E T U G gR Fa) : kn ≤ ml := h.2.2.2.2.2.1
theorem zk_set {t : zXT} {t2 : zMT} {lag dead manner setting W P S : Nat → Int} {n : Nat} {ov : Int} {lw lp ls : Nat → Int} {ml kn g : Nat} {fA : Nat → Nat} {L E T U G : Nat → Int} {gR : Nat} {Fa : Nat → Int} (h : zLk t t2 lag dead manner setting W P S n ov lw lp ls ml kn g fA L E T U G gR Fa) : zx_settled t = ((zst W (zhor (setting 0) W n ov) n : Nat) : Int) := h.2.2.2.2.2.2.1
theorem zk_du {t : zXT} {t2 : zMT} {lag dead manner setting W P S : Nat → Int} {n : Nat} {ov : Int} {lw lp ls : Nat → Int} {ml kn g : Nat} {fA : Nat → Nat} {L E T U G : Nat → Int} {gR : Nat} {Fa : Nat → Int} (h : zLk t t2 lag dead manner setting W P S n ov lw lp ls ml kn g fA L E T U G gR Fa) : ∀ j, j < 6 → zx_deadUntil t j = zEn W P dead manner (zst W (zhor (setting 0) W n ov) n) j := h.2.2.2.2.2.2.2.1
theorem zk_grp {t : zXT} {t2 : zMT} {lag dead manner setting W P S : Nat → Int} {n : Nat} {ov : Int} {lw lp ls : Nat → Int} {ml kn g : Nat} {fA : Nat → Nat} {L E T U G : Nat → Int} {gR : Nat} {Fa : Nat → Int} (h : zLk t t2 lag dead manner setting W P S n ov lw lp ls ml kn g fA L E T U G gR Fa) : zXG lw lp ls kn (setting 1) (zhor (setting 0) W n ov - zml lag 6) (setting 3) (setting 2) (zx_groups t) g fA := h.2.2.2.2.2.2.2.2.1
theorem zk_fnd {t : zXT} {t2 : zMT} {lag dead manner setting W P S : Nat → Int} {n : Nat} {ov : Int} {lw lp ls : Nat → Int} {ml kn g : Nat} {fA : Nat → Nat} {L E T U G : Nat → Int} {gR : Nat} {Fa : Nat → Int} (h : zLk t t2 lag dead manner setting W P S n ov lw lp ls ml kn g fA L E T U G gR Fa) : fX4_findGroups t2 0 0 = some (L, E, (kn : Int), T, U, G, (gR : Int), (g : Int), Fa) := h.2.2.2.2.2.2.2.2.2.1
theorem zk_gle {t : zXT} {t2 : zMT} {lag dead manner setting W P S : Nat → Int} {n : Nat} {ov : Int} {lw lp ls : Nat → Int} {ml kn g : Nat} {fA : Nat → Nat} {L E T U G : Nat → Int} {gR : Nat} {Fa : Nat → Int} (h : zLk t t2 lag dead manner setting W P S n ov lw lp ls ml kn g fA L E T U G gR Fa) : gR ≤ kn := h.2.2.2.2.2.2.2.2.2.2.1
theorem zk_ggr {t : zXT} {t2 : zMT} {lag dead manner setting W P S : Nat → Int} {n : Nat} {ov : Int} {lw lp ls : Nat → Int} {ml kn g : Nat} {fA : Nat → Nat} {L E T U G : Nat → Int} {gR : Nat} {Fa : Nat → Int} (h : zLk t t2 lag dead manner setting W P S n ov lw lp ls ml kn g fA L E T U G gR Fa) : g ≤ gR := h.2.2.2.2.2.2.2.2.2.2.2.1
theorem zk_lv {t : zXT} {t2 : zMT} {lag dead manner setting W P S : Nat → Int} {n : Nat} {ov : Int} {lw lp ls : Nat → Int} {ml kn g : Nat} {fA : Nat → Nat} {L E T U G : Nat → Int} {gR : Nat} {Fa : Nat → Int} (h : zLk t t2 lag dead manner setting W P S n ov lw lp ls ml kn g fA L E T U G gR Fa) : ∀ x, x < zst W (zhor (setting 0) W n ov) n → L x = if zlv W P dead manner x = true then 1 else 0 := h.2.2.2.2.2.2.2.2.2.2.2.2.1
theorem zk_tu {t : zXT} {t2 : zMT} {lag dead manner setting W P S : Nat → Int} {n : Nat} {ov : Int} {lw lp ls : Nat → Int} {ml kn g : Nat} {fA : Nat → Nat} {L E T U G : Nat → Int} {gR : Nat} {Fa : Nat → Int} (h : zLk t t2 lag dead manner setting W P S n ov lw lp ls ml kn g fA L E T U G gR Fa) : ∀ j, j < kn → ∃ u : Nat, u < n ∧ U j = (u : Int) ∧ T j = W u - lag (P u).toNat ∧ lw j = T j ∧ lp j = P u ∧ ls j = S u := h.2.2.2.2.2.2.2.2.2.2.2.2.2.1
theorem zk_fst {t : zXT} {t2 : zMT} {lag dead manner setting W P S : Nat → Int} {n : Nat} {ov : Int} {lw lp ls : Nat → Int} {ml kn g : Nat} {fA : Nat → Nat} {L E T U G : Nat → Int} {gR : Nat} {Fa : Nat → Int} (h : zLk t t2 lag dead manner setting W P S n ov lw lp ls ml kn g fA L E T U G gR Fa) : ∀ q, q < g → Fa q = (fA q : Int) := h.2.2.2.2.2.2.2.2.2.2.2.2.2.2.1
theorem zk_gr {t : zXT} {t2 : zMT} {lag dead manner setting W P S : Nat → Int} {n : Nat} {ov : Int} {lw lp ls : Nat → Int} {ml kn g : Nat} {fA : Nat → Nat} {L E T U G : Nat → Int} {gR : Nat} {Fa : Nat → Int} (h : zLk t t2 lag dead manner setting W P S n ov lw lp ls ml kn g fA L E T U G gR Fa) : ∀ q, q < g → zGr G kn q (fA q) (fA (q + 1)) := h.2.2.2.2.2.2.2.2.2.2.2.2.2.2.2.1
theorem zk_gall {t : zXT} {t2 : zMT} {lag dead manner setting W P S : Nat → Int} {n : Nat} {ov : Int} {lw lp ls : Nat → Int} {ml kn g : Nat} {fA : Nat → Nat} {L E T U G : Nat → Int} {gR : Nat} {Fa : Nat → Int} (h : zLk t t2 lag dead manner setting W P S n ov lw lp ls ml kn g fA L E T U G gR Fa) : ∀ y, y < kn → 0 ≤ G y ∧ G y < (gR : Int) := h.2.2.2.2.2.2.2.2.2.2.2.2.2.2.2.2
theorem zshf0 (p : Int) : zshf 0 0 p = 0 := by unfold zshf; split <;> rfl
theorem L_link {t : zXT} {t2 : zMT} {lag dead manner setting W P S : Nat → Int} {n : Nat} {ov : Int} (h : zRl t t2 lag dead manner setting W P S n ov) : ∃ lw lp ls ml kn g fA L E T U G gR Fa, zLk t t2 lag dead manner setting W P S n ov lw lp ls ml kn g fA L E T U G gR Fa := by
  obtain ⟨hv, hI, hM, hl, hlm⟩ := h
  obtain ⟨hc, hsd, hdu, lw, lp, ls, ml, hr, hml, hrl, hok, hkn, g, fA, hg, hcm⟩ := hI
  obtain ⟨L, E, kn, T, U, G, gR, sh, Fa, fF, m1, m2, m3, m4, m5, m6⟩ := M_findGroups hM hv (set := 0) (by' := 0) (by omega)
  have hx := zst_le W (zhor (setting 0) W n ov) n
  have f1 := zfilt hv (ed := zhor (setting 0) W n ov - zml lag 6) hx hrl
  have ez : zshf 0 0 = fun _ => 0 := funext zshf0
  rw [ez] at m4 m5
  rw [← f1] at m5
  have ek : kn = zst lw (zhor (setting 0) W n ov - zml lag 6) ml := by
    have := congrArg List.length m5
    rwa [zrl_len, zrl_len] at this
  have hkl := zst_le lw (zhor (setting 0) W n ov - zml lag 6) ml
  rw [← ek] at m5 hg hcm hkn hkl
  have hinj := zrl_inj m5
  obtain ⟨s1, s2⟩ := zLk_sh (fun i hi => (hinj i hi).1) hg hcm m6
  subst s1
  refine ⟨lw, lp, ls, ml, kn, sh, fA, L, E, T, U, G, gR, Fa, ⟨hr, hml, hrl, hok, hkn, hkl, hsd, hdu, hg, m1, m6.1, m6.2.2.2.2.2.2.1, m3, ?_, ?_, ?_, ?_⟩⟩
  · intro j hj
    obtain ⟨u, u1, u2, u3⟩ := m4 j hj
    have hi := hinj j hj
    refine ⟨u, u1, u2, by rw [u3]; exact Int.add_zero _, hi.1.symm, ?_, ?_⟩
    · rw [← hi.2.1]; show P (U j).toNat = _; rw [u2]; rfl
    · rw [← hi.2.2]; show S (U j).toNat = _; rw [u2]; rfl
  · intro q hq
    rw [m6.2.2.2.1 q (s2 q hq).1, (s2 q hq).2.1]
  · intro q hq
    have := zGI_gr m6 (s2 q hq).1
    rwa [(s2 q hq).2.1, (s2 q hq).2.2] at this
  · intro y hy
    obtain ⟨p, p1, p2, p3, p4⟩ := zGI_cover m6 hy (gR - 1) 0 (by have := (m6.2.2.1 (by omega)).1; omega) (by rw [(m6.2.2.1 (by omega)).2.1]; omega)
    have := m6.2.2.2.2.2.1 p y p2 p3 p4
    omega
