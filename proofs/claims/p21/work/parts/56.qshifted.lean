/-! ===== PURE: shifted ===== -/
theorem zI_or (a b : Int32) : zI ((a ||| b).toInt) = a ||| b := by unfold zI; exact Int32.ofInt_toInt _
theorem zor_comm3 (x a b : Int) : zor (zor x a) b = zor (zor x b) a := by
  unfold zor
  rw [zI_or, zI_or, Int32.or_assoc, Int32.or_assoc, Int32.or_comm (zI a) (zI b)]
/-- the set of the planes of a list -/
def zpl (l : List zP3) : Int := l.foldl (fun x a => zor x (zshl 1 a.2.1)) 0
theorem zpl_perm {l l' : List zP3} (h : l.Perm l') : zpl l = zpl l' := by
  unfold zpl
  exact h.foldl_eq' (fun x _ y _ z => zor_comm3 z _ _) 0
theorem zrl_drop (w p s : Nat → Int) (n f : Nat) : (zrl w p s n).drop f = zrl (fun i => w (f + i)) (fun i => p (f + i)) (fun i => s (f + i)) (n - f) := by
  apply List.ext_getElem?
  intro i
  rw [List.getElem?_drop, zrl_get, zrl_get]
  by_cases c : f + i < n
  · rw [if_pos c, if_pos (by omega)]
  · rw [if_neg c, if_neg (by omega)]
theorem zpl_po (w p s : Nat → Int) (f : Nat) : ∀ k, zpl (zrl (fun i => w (f + i)) (fun i => p (f + i)) (fun i => s (f + i)) k) = zpo p f k := by
  intro k
  induction k with
  | zero => rfl
  | succ k ih =>
    rw [zrl_succ]
    unfold zpl at ih ⊢
    rw [List.foldl_append, ih]
    rfl
theorem zpo_list (w p s : Nat → Int) {n f k : Nat} (h : f + k ≤ n) : zpo p f k = zpl (((zrl w p s n).drop f).take k) := by
  rw [zrl_drop, zrl_take _ _ _ (by omega), zpl_po]
theorem zmem_drop {w p s : Nat → Int} {n f : Nat} {x : zP3} (h : x ∈ (zrl w p s n).drop f) : ∃ i, f ≤ i ∧ i < n ∧ x = (w i, p i, s i) := by
  rw [zrl_drop] at h
  obtain ⟨i, hi, rfl⟩ := zrl_mem h
  exact ⟨f + i, by omega, by omega, rfl⟩
theorem zdrop_mem {w p s : Nat → Int} {n f : Nat} (h : f < n) : (w f, p f, s f) ∈ (zrl w p s n).drop f := by
  rw [zrl_drop]
  refine List.mem_of_getElem? (i := 0) ?_
  rw [zrl_get, if_pos (by omega)]
  rfl
/-- a group cut from the rest of a row -/
theorem zcut {w p s : Nat → Int} {n f e : Nat} {v K : Int} (hm : ∀ i j, i ≤ j → j < n → w i ≤ w j) (h : zEnd w v n f e) (hK : w f = K) :
    ((zrl w p s n).drop f).filter (fun a => decide (a.1 ≤ K + v)) = ((zrl w p s n).drop f).take (e - f) ∧ ((zrl w p s n).drop f).filter (fun a => !decide (a.1 ≤ K + v)) = (zrl w p s n).drop e := by
  obtain ⟨h1, h2, h3, h4⟩ := h
  have e1 : (zrl w p s n).drop f = ((zrl w p s n).drop f).take (e - f) ++ (zrl w p s n).drop e := by
    have := (List.take_append_drop (e - f) ((zrl w p s n).drop f)).symm
    rw [List.drop_drop, show f + (e - f) = e by omega] at this
    exact this
  have a1 : ∀ x, x ∈ ((zrl w p s n).drop f).take (e - f) → x.1 ≤ K + v := by
    intro x hx
    rw [zrl_drop, zrl_take _ _ _ (by omega)] at hx
    obtain ⟨i, hi, rfl⟩ := zrl_mem hx
    have := h3 (f + i) (by omega) (by omega)
    show w (f + i) ≤ K + v
    omega
  have a2 : ∀ x, x ∈ (zrl w p s n).drop e → ¬ x.1 ≤ K + v := by
    intro x hx
    obtain ⟨i, i1, i2, rfl⟩ := zmem_drop hx
    have b1 := h4 (by omega)
    have b2 := hm e i i1 i2
    show ¬ w i ≤ K + v
    omega
  constructor
  · conv => lhs; rw [e1]
    rw [List.filter_append, List.filter_eq_self.mpr (fun x hx => decide_eq_true (a1 x hx)), List.filter_eq_nil_iff.mpr (fun x hx z => a2 x hx (of_decide_eq_true z)), List.append_nil]
  · conv => lhs; rw [e1]
    rw [List.filter_append, List.filter_eq_nil_iff.mpr (fun x hx z => by rw [decide_eq_true (a1 x hx)] at z; exact Bool.false_ne_true z), List.filter_eq_self.mpr (fun x hx => by rw [decide_eq_false (a2 x hx)]; rfl), List.nil_append]
theorem zgrp_step {w p s w' p' s' : Nat → Int} {n f e e' : Nat} {v : Int} (hm : ∀ i j, i ≤ j → j < n → w i ≤ w j) (hm' : ∀ i j, i ≤ j → j < n → w' i ≤ w' j) (hp : ((zrl w p s n).drop f).Perm ((zrl w' p' s' n).drop f)) (h : zEnd w v n f e) (h' : zEnd w' v n f e') :
    e = e' ∧ zpo p f (e - f) = zpo p' f (e' - f) ∧ ((zrl w p s n).drop e).Perm ((zrl w' p' s' n).drop e') := by
  have hfn : f < n := by have := h.1; have := h.2.1; omega
  have hK : w f = w' f := by
    obtain ⟨i, i1, i2, i3⟩ := zmem_drop (hp.symm.subset (zdrop_mem (w := w') (p := p') (s := s') hfn))
    obtain ⟨j, j1, j2, j3⟩ := zmem_drop (hp.subset (zdrop_mem (w := w) (p := p) (s := s) hfn))
    have x1 := hm f i i1 i2
    have x2 := hm' f j j1 j2
    have x3 : w' f = w i := congrArg Prod.fst i3
    have x4 : w f = w' j := congrArg Prod.fst j3
    omega
  obtain ⟨a1, a2⟩ := zcut (p := p) (s := s) hm h hK
  obtain ⟨b1, b2⟩ := zcut (p := p') (s := s') hm' h' rfl
  have q1 := hp.filter (fun a => decide (a.1 ≤ w' f + v))
  have q2 := hp.filter (fun a => !decide (a.1 ≤ w' f + v))
  rw [a1, b1] at q1
  rw [a2, b2] at q2
  have hl := q1.length_eq
  have g1 := h.1
  have g2 := h.2.1
  have g3 := h'.1
  have g4 := h'.2.1
  rw [List.length_take, List.length_take, List.length_drop, List.length_drop, zrl_len, zrl_len] at hl
  refine ⟨by omega, ?_, q2⟩
  rw [zpo_list w p s (n := n) (by omega), zpo_list w' p' s' (n := n) (by omega)]
  exact zpl_perm q1
theorem zSR_shift (lag dead manner W P S : Nat → Int) (ed : Int) (sh : Int → Int) : ∀ x, (zSR lag dead manner W P S ed sh x).Perm ((zSR lag dead manner W P S ed (fun _ => 0) x).map (fun a => (a.1 + sh a.2.1, a.2))) := by
  intro x
  induction x with
  | zero => exact List.Perm.refl _
  | succ x ih =>
    unfold zSR
    by_cases c : zlv W P dead manner x = true ∧ W x - lag (P x).toNat < ed
    · rw [if_pos c, if_pos c]
      refine (zins_perm _ _).trans (((List.Perm.cons _ ih)).trans ?_)
      refine List.Perm.trans ?_ ((zins_perm _ _).map _).symm
      rw [List.map_cons, Int.add_zero]
    · rw [if_neg c, if_neg c]; exact ih
section QS
variable {t : zXT} {t2 : zMT} {lag dead manner setting W P S : Nat → Int} {n : Nat} {ov : Int}
theorem X_sh_loop (hst : zx_setting t = setting) (hcf : zCfg lag dead manner setting) {w p s T S' P' : Nat → Int} {N gR sh : Nat} {ed : Int} {G Fa : Nat → Int} {fF : Nat → Nat} (hN : N ≤ 240) (hw : ∀ i, i < N → (-100 ≤ w i ∧ w i ≤ 30000) ∧ (0 ≤ p i ∧ p i ≤ 5)) (hm : ∀ i j, i ≤ j → j < N → w i ≤ w j) (hm' : ∀ i j, i ≤ j → j < N → T i ≤ T j) (hG : zGI T (setting 1) ed N gR sh G Fa fF) : ∀ (k q zn f : Nat), q + k = gR → k < zn → f = (if q < gR then fF q else N) → ((zrl w p s N).drop f).Perm ((zrl T P' S' N).drop f) →
    fX3_shifted_L59 zn t (zk_R w p s (N : Int)) (zct (fun q => decide (setting 2 ≤ zbC (zpo P' (fF q) (zNx gR N fF q - fF q)))) q) (f : Int) (q : Int) = some (zct (fun q => decide (setting 2 ≤ zbC (zpo P' (fF q) (zNx gR N fF q - fF q)))) gR) := by
  have hgN := hG.1
  intro k
  induction k with
  | zero =>
    intro q zn f hqk hz hf hp
    obtain ⟨zn, rfl⟩ : ∃ q, zn = q + 1 := ⟨zn - 1, by omega⟩
    rw [fX3_shifted_L59_s]
    have e : q = gR := by omega
    subst e
    rw [if_neg (by omega)] at hf
    subst hf
    by_cases c : (240 : Int) ≤ (q : Int)
    · exact zyes (zLe_t c (by omega) (by omega)) rfl
    · exact zno (zLe_f (by omega) (by omega) (by omega)) (zb (R_hasnt (ρ := zk_R w p s (f : Int)) (n := f) rfl (by omega) (Or.inr (Int.le_refl _)) (by omega) (by omega)) (zyes z00 rfl))
  | succ k ih =>
    intro q zn f hqk hz hf hp
    obtain ⟨zn, rfl⟩ : ∃ q, zn = q + 1 := ⟨zn - 1, by omega⟩
    rw [fX3_shifted_L59_s, hst]
    rw [if_pos (show q < gR by omega)] at hf
    have hnx := zGI_nx hG (q := q) (by omega)
    rw [← hf] at hnx
    have hfN : f < N := by have := hnx.1; have := hnx.2.1; omega
    obtain ⟨e, e1, e2⟩ := R_end (ρ := zk_R w p s (N : Int)) (w := setting 1) (N := N) (f := f) (sz := N) rfl hN (Nat.le_refl _) (fun i hi => (hw i hi).1) hcf.2.2.1 hfN
    obtain ⟨g1, g2, g3⟩ := zgrp_step hm hm' hp e2 hnx
    have hef := e2.1
    have heN := e2.2.1
    have hpl : fX2_planesOf (zk_R w p s (N : Int)) (f : Int) (e : Int) = some (zpo p f (e - f)) := R_planes (ρ := zk_R w p s (N : Int)) (f := f) (e := e) (sz := N) rfl hN (by omega) (by omega)
    have hpb : 0 ≤ zpo p f (e - f) ∧ zpo p f (e - f) ≤ 63 := zpo_b _ (fun i h1 h2 => (hw i (by omega)).2)
    refine zno (zLe_f (by omega) (by omega) (by omega)) (zhas (ρ := zk_R w p s (N : Int)) (n := N) rfl hN hfN (zok ⟨by omega, by omega⟩ ?_))
    refine zb (show fX2_endOfGroup (zk_R w p s (N : Int)) (f : Int) (N : Int) (setting (Int.toNat 1)) = some (e : Int) from e1) ?_
    refine zb hpl ?_
    refine zb (X_isCoin (setting := setting) (t := zk_X (zx_lag t) (zx_dead t) (zx_manner t) setting (zx_keptRow t) (zx_liveRow t) (zk_R w p s (N : Int)) (zx_groups t) (zx_search t) (zx_deadUntil t) (zx_settled t) (zx_known t) (zx_tooLate t) (zx_ended t)) rfl hcf.2.2.2.1 hpb) ?_
    have evs : zpo p f (e - f) = zpo P' (fF q) (zNx gR N fF q - fF q) := by rw [← hf]; exact g2
    have ihh := ih (q + 1) zn e (by omega) (by omega) (by rw [g1]; rfl) (by rw [← g1] at g3; exact g3)
    refine zb (a := zct (fun q => decide (setting 2 ≤ zbC (zpo P' (fF q) (zNx gR N fF q - fF q)))) (q + 1)) ?_ (by rw [zc1]; exact ihh)
    rw [zct_s, evs]
    by_cases c : setting 2 ≤ zbC (zpo P' (fF q) (zNx gR N fF q - fF q))
    · simp only [decide_eq_true c, if_true]; exact zno z10 rfl
    · simp only [decide_eq_false c, if_false, Bool.false_eq_true]; exact zyes trivial rfl
theorem L_shifted (t : zXT) (t2 : zMT) (p1 p2 : Int) (h : zRel t t2) (r1 : zR p1) (r2 : zR p2) : ∃ a ρ r, fX3_shifted t p1 p2 = some (a, ρ) ∧ fX4_shifted t2 p1 p2 = some (a, r) := by
  obtain ⟨lag, dead, manner, setting, W, P, S, n, ov, hl⟩ := h
  obtain ⟨hv, hI, hM, -, -⟩ := hl
  have hc := hI.1
  have hn := hv.2.1.1
  have hx := zst_le W (zhor (setting 0) W n ov) n
  unfold fX3_shifted fX4_shifted
  by_cases c1 : 0 ≤ p1 ∧ p1 ≤ 63
  case neg => exact ⟨-2, zx_shiftedRow t, ((zm_isLive t2), (zm_endOf t2), (zm_known t2), (zm_timeOf t2), (zm_pulseOf t2), (zm_groupOf t2), (zm_groups t2), (zm_shut t2), (zm_firstOf t2)), zb (W3f r1 c1 (by omega) (by omega)) (zyes z00 rfl), zb (W4f r1 c1 (by omega) (by omega)) (zyes z00 rfl)⟩
  by_cases c2 : 0 ≤ p2 ∧ p2 ≤ 500
  case neg => exact ⟨-2, zx_shiftedRow t, ((zm_isLive t2), (zm_endOf t2), (zm_known t2), (zm_timeOf t2), (zm_pulseOf t2), (zm_groupOf t2), (zm_groups t2), (zm_shut t2), (zm_firstOf t2)), zb (W3t r1 c1 (by omega) (by omega)) (zno z10 (zb (W3f r2 c2 (by omega) (by omega)) (zyes z00 rfl))), zb (W4t r1 c1 (by omega) (by omega)) (zno z10 (zb (W4f r2 c2 (by omega) (by omega)) (zyes z00 rfl)))⟩
  have eo := hc.2.2.2.2.2
  have eo2 := hM.2.2.2.2.2.2.2.2
  by_cases c5 : ov = 0
  · subst c5
    exact ⟨-3, zx_shiftedRow t, ((zm_isLive t2), (zm_endOf t2), (zm_known t2), (zm_timeOf t2), (zm_pulseOf t2), (zm_groupOf t2), (zm_groups t2), (zm_shut t2), (zm_firstOf t2)), zb (W3t r1 c1 (by omega) (by omega)) (zno z10 (zb (W3t r2 c2 (by omega) (by omega)) (zno z10 (zyes (by rw [eo]) rfl)))), zb (W4t r1 c1 (by omega) (by omega)) (zno z10 (zb (W4t r2 c2 (by omega) (by omega)) (zno z10 (zyes (by rw [eo2]) rfl))))⟩
  have e1 : ov = 1 := by rcases hv.2.2 with q | q; exact absurd q c5; exact q
  have no3 : ¬ zE (zx_ended t) 0 := by rw [eo, e1]; exact z10
  have no4 : ¬ zE (zm_isOver t2) 0 := by rw [eo2, e1]; exact z10
  obtain ⟨-, hsd, hdu, lw, lp, ls, ml, hr, hml, hrl, hok, hkn, g, fA, hg, hcm⟩ := hI
  obtain ⟨L, E, kn, T, U, G, gR, sh, Fa, fF, m1, m2, m3, m4, m5, m6⟩ := M_findGroups hM hv (set := p1) (by' := p2) c2
  have f1 := zfilt hv hx (zhor (setting 0) W n ov - zml lag 6) hrl
  have hkl := zst_le lw (zhor (setting 0) W n ov - zml lag 6) ml
  have hso := zSR_sorted lag dead manner W P S (zhor (setting 0) W n ov - zml lag 6) (fun _ => 0) (zst W (zhor (setting 0) W n ov) n)
  have hso2 := zSR_sorted lag dead manner W P S (zhor (setting 0) W n ov - zml lag 6) (zshf p1 p2) (zst W (zhor (setting 0) W n ov) n)
  have hpm := zSR_shift lag dead manner W P S (zhor (setting 0) W n ov - zml lag 6) (zshf p1 p2) (zst W (zhor (setting 0) W n ov) n)
  rw [← f1] at hso hpm
  rw [← m5] at hso2 hpm
  have ek : kn = zst lw (zhor (setting 0) W n ov - zml lag 6) ml := by
    have := hpm.length_eq
    rwa [List.length_map, zrl_len, zrl_len] at this
  rw [← ek] at hso hpm hkn hkl
  have hsh : ∀ p, 0 ≤ zshf p1 p2 p ∧ zshf p1 p2 p ≤ 500 := by intro p; unfold zshf; split <;> omega
  have hTb := zTU_b hv hsh m4
  have hb : ∀ y, y < kn → 0 ≤ G y ∧ G y ≤ 240 := by
    intro y hy
    have h0 := m6.2.2.1 (by omega)
    obtain ⟨q, q1, q2, q3, q4⟩ := zGI_cover m6 hy (gR - 1) 0 (by have := h0.1; omega) (by rw [h0.2.1]; omega)
    have := m6.2.2.2.2.2.1 q y q2 q3 q4
    have := m6.1
    omega
  obtain ⟨w, p, s, x1, x2, x3⟩ := X_fill (ρ0 := zx_shiftedRow t) (lw := lw) (lp := lp) (ls := ls) (ml := ml) (e := kn) (S := p1) (by' := p2) (by omega) (by omega) c1 c2 (fun i hi => ⟨(hok i (by omega)).1, (hok i (by omega)).2.1⟩) (zrl_mono hso)
  have hAB : (zrl w p s kn).Perm (zrl T (zco P U) (zco S U) kn) := x2.trans hpm.symm
  have hwb : ∀ i, i < kn → (-100 ≤ w i ∧ w i ≤ 30000) ∧ (0 ≤ p i ∧ p i ≤ 5) := by
    intro i hi
    have h1 : (w i, p i, s i) ∈ zrl w p s kn := by
      refine List.mem_of_getElem? (i := i) ?_
      rw [zrl_get, if_pos hi]
    obtain ⟨j, j1, j2⟩ := zrl_mem (hAB.subset h1)
    have a1 : w i = T j := congrArg Prod.fst j2
    have a2 : p i = zco P U j := congrArg (fun x => x.2.1) j2
    have h2 := hTb j j1
    rw [a1, a2]
    exact ⟨h2.1, h2.2.1⟩
  have xl := X_sh_loop (t := t) (S' := zco S U) hc.2.2.2.1 hv.1 (by omega) hwb x3 (zrl_mono hso2) m6 gR 0 zF 0 (by omega) (by have := m6.1; unfold zF; omega) (by
    by_cases c : 0 < gR
    · rw [if_pos c]
      have : 0 < kn := by have := m6.1; omega
      exact (m6.2.2.1 this).2.1.symm
    · rw [if_neg c]
      by_cases c0 : kn = 0
      · exact c0.symm
      · have := (m6.2.2.1 (by omega)).1; omega) (by rw [List.drop_zero, List.drop_zero]; exact hAB)
  have hset : ∀ q : Nat, q < gR → fX4_setOf (zFd t2 L E kn T U G gR sh Fa) (q : Int) = some (zpo (zco P U) (fF q) (zNx gR kn fF q - fF q)) ∧ 0 ≤ zpo (zco P U) (fF q) (zNx gR kn fF q - fF q) ∧ zpo (zco P U) (fF q) (zNx gR kn fF q - fF q) ≤ 63 := by
    intro q hq
    have hgr := zGI_gr m6 hq
    have hg1 := hgr.1
    have hg2 := hgr.2.1
    have hgk := m6.1
    have hlp : ∀ y, y < kn → ∃ u : Nat, u < 241 ∧ U y = (u : Int) ∧ zco P U y = P u := by
      intro y hy
      obtain ⟨u, u1, u2, u3⟩ := m4 y hy
      refine ⟨u, by omega, u2, ?_⟩
      unfold zco
      rw [u2]; rfl
    exact ⟨M_setOf (t := zFd t2 L E kn T U G gR sh Fa) (kn := kn) (G := G) (U := U) (P := P) rfl rfl rfl hM.2.2.2.2.2.1 (by omega) (by omega) hgr hb hlp (fun y hy => (hTb y hy).2.1), zpo_b _ (fun i h1 h2 => (hTb i (by omega)).2.1)⟩
  have hgk := m6.1
  have ml2 := M_coin_loop (t' := zFd t2 L E kn T U G gR sh Fa) (setting := setting) (show zm_setting t2 = setting from hM.2.2.2.1) hv.1.2.2.2.1 (N := gR) (by omega) hset gR 0 zF (by omega) (by unfold zF; omega)
  have ml3 : fX4_coincidences (zFd t2 L E kn T U G gR sh Fa) (gR : Int) = some (zct (fun q => decide (setting 2 ≤ zbC (zpo (zco P U) (fF q) (zNx gR kn fF q - fF q)))) gR) := by
    unfold fX4_coincidences
    exact zb ml2 rfl
  have xl2 : fX3_shifted_L59 zF t (zk_R w p s (kn : Int)) 0 0 0 = some (zct (fun q => decide (setting 2 ≤ zbC (zpo (zco P U) (fF q) (zNx gR kn fF q - fF q)))) gR) := xl
  have x5 : fX2_fillShifted (zx_shiftedRow t) (zx_liveRow t) (zx_known t) p1 p2 = some (w, p, s, (kn : Int)) := by rw [hr, hkn]; exact x1
  generalize zct (fun q => decide (setting 2 ≤ zbC (zpo (zco P U) (fF q) (zNx gR kn fF q - fF q)))) gR = v at xl2 ml3
  refine ⟨v, zk_R w p s (kn : Int), (L, E, (kn : Int), T, U, G, (gR : Int), (sh : Int), Fa), ?_, ?_⟩
  · exact zb (W3t r1 c1 (by omega) (by omega)) (zno z10 (zb (W3t r2 c2 (by omega) (by omega)) (zno z10 (zno no3 (zb x5 (zb xl2 rfl))))))
  · exact zb (W4t r1 c1 (by omega) (by omega)) (zno z10 (zb (W4t r2 c2 (by omega) (by omega)) (zno z10 (zno no4 (zb m1 (zb ml3 rfl))))))
end QS
