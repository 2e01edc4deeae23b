/-! ===== PURE: the law's turn ===== -/
set_option maxHeartbeats 4000000 in
theorem LW_turn {L : Nat} {zsc : Nat → Int} (hL : L ≤ 260) (hz : ∀ j, zR (zsc j)) {e : Nat} (he : e ≤ 1) {o p : zXT} {a1 a2 a3 a4 : Nat → Int} {lag dead manner setting W P S : Nat → Int} {n : Nat} {ov late : Int} (h : zH o lag dead manner setting W P S n ov late) (h' : zH p lag dead manner setting W P S n ov late) (zn : Nat) :
    ∃ (o' p' : zXT) (b1 b2 b3 b4 lag' dead' manner' setting' W' P' S' : Nat → Int) (n' : Nat) (ov' late' : Int), zH o' lag' dead' manner' setting' W' P' S' n' ov' late' ∧ zH p' lag' dead' manner' setting' W' P' S' n' ov' late' ∧ ∀ R, fL_law_L42 zn L zsc o' p' b1 b2 b3 b4 ((e : Int) + 1) = R → fL_law_L42 (zn + 1) L zsc o p a1 a2 a3 a4 (e : Int) = R := by
  have hn0 := h.1.2.1.1
  obtain ⟨v0, v01, v02⟩ := Z_cell hL hz (k := 60 * e) (by omega)
  obtain ⟨b, b1, b2⟩ := Z_low v0 (m := 60) (by omega) (by omega)
  obtain ⟨r19, c1, c2, c3⟩ := H_anew h
  obtain ⟨r21, d1, d2, d3⟩ := H_anew h'
  obtain ⟨o2, p2, lag1, dead1, manner1, set1, e1, e2, e3, e4⟩ := LW_sets hL hz (a := 60 * e + 1) (by omega) (B := (b : Int)) (by omega) c3 d3
  have hmany : fX3_many o2 11 = some 1000 := by
    rw [H_many11 e3]
    have q : zhor (set1 0) W 0 0 = -1000 := by
      unfold zhor
      rw [if_neg (by omega), if_pos rfl]
    rw [q]; rfl
  obtain ⟨f1, f2, f3⟩ := H_open e3
  have e5 := H_shf e3 (-3, zx_shiftedRow o2)
  obtain ⟨v8, v81, v82⟩ := Z_cell hL hz (k := 60 * e + 8) (by omega)
  obtain ⟨m, m1, m2⟩ := Z_low v8 (m := 28) (by omega) (by omega)
  obtain ⟨o4, pl, mo, st, ke, Wo, Po, So, g1, g2, g3, g4, g5, g6, g7⟩ := LW_feed (W0 := W) (P0 := P) (S0 := S) (late := 0) hL hz (e := e) (b := b) (n := 20 + m) he (by omega) (by omega) e2 p2 (20 + m) 0 zF (zNS o2 (-3, zx_shiftedRow o2)) a1 a2 a3 a4 0 W P S (by omega) (by unfold zF; omega) (by omega) (by omega) (fun j hj => by omega) e5 (List.Perm.refl ([] : List zP3)) (fun j _ => ⟨rfl, rfl, rfl⟩)
  obtain ⟨r80, i1, i2, i3, i4, i5⟩ := H_end0 g3
  have i0 := H_settled g3
  obtain ⟨r82, j1, j2, j3⟩ := H_end1 i4
  have i6 : zH (zNE (zNE o4 r80) r82) lag1 dead1 manner1 set1 Wo Po So (20 + m) 1 0 := by rw [j3]; exact i4
  obtain ⟨r84, k1, k2, k3⟩ := H_over i6 (p1 := 0) (p2 := 9999) (p3 := 0) (by omega) (by omega) (by omega)
  have i7 : zH (zNP (zNE (zNE o4 r80) r82) r84) lag1 dead1 manner1 set1 Wo Po So (20 + m) 1 0 := by rw [k3]; exact i6
  have hsum := LW_sums i7
  have hT : zTl ke mo pl st (20 + m) = [] := by
    unfold zTl
    rw [List.filter_eq_nil_iff.mpr (fun a ha => by
      have := g2 a (List.mem_range.mp ha)
      simp only [decide_eq_true_eq]
      omega)]
    rfl
  obtain ⟨p3, ke', W', P', S', l1, l2, l3, l4, l5⟩ := LW_ploop (W0 := W) (P0 := P) (S0 := S) (L := L) (zsc := zsc) (n := 20 + m) (b := b) (M := 31 * ((20 + m : Nat) : Int)) (by omega) (by omega) e2 (by omega) g2 i7 g4 g5 (e : Int) (20 + m) 0 zF p2 ke 0 W P S (by omega) (by unfold zF; omega) (fun j hj => Or.inr rfl) (fun j k hj hk2 h1 h2 => by
      have := g2 j hj
      omega) e4 (by rw [hT]; exact List.Perm.refl ([] : List zP3)) (fun j _ => ⟨rfl, rfl, rfl⟩) (zIX_fr e4.2.1).2.2.2.2
  obtain ⟨E1, E2, E3⟩ := F_same l2.1.2.1.2.2 i7.1.2.1.2.2 l3 g4 l4 g5
  rw [E1, E2, E3] at l2
  have q11 := H_many11 l2
  have hh : zhor (set1 0) Wo (20 + m) 0 = Wo (20 + m - 1) - set1 0 := by
    unfold zhor
    rw [if_neg (by omega), if_neg (by omega)]
  have hWb := (l2.1.2.1.2.1 (20 + m - 1) (by omega)).1
  have hcc : zhor (set1 0) Wo (20 + m) 0 - 1 < zhor (set1 0) Wo (20 + m) 0 := by omega
  obtain ⟨hor, hhor⟩ : ∃ hor, hor = zhor (set1 0) Wo (20 + m) 0 := ⟨_, rfl⟩
  rw [← hhor] at q11 hh hcc
  obtain ⟨v9, v91, v92⟩ := Z_cell hL hz (k := 60 * e + 9) (by omega)
  by_cases ct : hor - 1 < 0
  · obtain ⟨r187, r, r', r195, r197, s1, s2, s3, s4, s5, s6, s7, s8, s9, s10⟩ := LW_rest i7 l2 v9
    refine ⟨_, _, pl, mo, st, ke', lag1, dead1, manner1, set1, Wo, Po, So, 20 + m, 1, 0, s9, s10, fun R hR => ?_⟩
    rw [fL_law_L42_s]
    refine zno (zLe_f (show (e : Int) < 2 by omega) (by omega) (by omega)) ?_
    refine zb (by rw [show 60 * (e : Int) = ((60 * e : Nat) : Int) by omega]; exact v01) (zb b2 (zb c1 (zno (zLt_f (by omega) (by omega) (by omega)) (zb d1 (zno (zLt_f (by omega) (by omega) (by omega)) ?_)))))
    refine zb (by rw [show 60 * (e : Int) + 1 = ((60 * e + 1 : Nat) : Int) by omega]; exact e1) (zno z10 ?_)
    refine zb hmany (zyes (zE_t rfl) ?_)
    refine zb f1 (zyes (zE_t (zlcmp_self _)) ?_)
    refine zb f2 (zyes (zE_t rfl) (zb f3 (zyes (zE_t rfl) ?_)))
    refine zb (by rw [show 60 * (e : Int) + 8 = ((60 * e + 8 : Nat) : Int) by omega]; exact v81) (zb m2 (zlet2 (show 20 + (m : Int) = ((20 + m : Nat) : Int) by omega) ?_))
    refine zb g1 ?_
    refine zb i1 (zno (zLt_f i3 (by omega) (by omega)) ?_)
    refine zb j1 (zyes (zE_t j2) (zb k1 (zyes (zE_t k2) (zb hsum (zno z10 ?_)))))
    refine zb l1 ?_
    refine zb q11 (zlet2 (show (hor + 2000 - 2000) - 1 = hor - 1 by omega) (zb N_many.1 ?_))
    refine zb (a := (zNP (zNE (zNE o4 r80) r82) r84, p3)) (zyes (zLt_t ct (by omega) (by omega)) rfl) ?_
    refine zb (a := zNP (zNE (zNE o4 r80) r82) r84) (zyes (zLt_t ct (by omega) (by omega)) rfl) ?_
    refine zb (N_many (t := p3)).2.2.2.1 (zb s1 (zyes (zE_t s2) ?_))
    refine zb (by rw [show 60 * (e : Int) + 9 = ((60 * e + 9 : Nat) : Int) by omega]; exact v91) (zb s3 (zno z10 (zb s4 (zno z10 (zb s5 (zyes (zE_t s6) (zb s7 (zyes (zE_t s8) ?_))))))))
    exact hR
  · obtain ⟨r239, t1, t2, t3, t4⟩ := H_late l2 (p1 := 0) (p2 := hor - 1) (p3 := 0) (by omega) (by omega) (by omega) (by rw [← hhor]; omega)
    obtain ⟨r247, u1, u2, u3⟩ := H_anew i7
    obtain ⟨o8, W2, P2, S2, w⟩ := LW_refeed (W0 := Wo) (P0 := Po) (S0 := So) (late := 0) (L := L) (zsc := zsc) (n := 20 + m) (ke := ke) (by omega) e2 (M := 31 * ((20 + m : Nat) : Int)) (by omega) g2 (fun j k h1 h2 => g6 j k h1 h2 (by omega)) (zNP p3 r239) (e : Int) (hor - 1) (20 + m) 0 zF (zNA (zNP (zNE (zNE o4 r80) r82) r84) r247) Wo Po So (by omega) (by unfold zF; omega) u3 (List.Perm.refl ([] : List zP3)) (fun j _ => ⟨rfl, rfl, rfl⟩)
    obtain ⟨w1, w2, w3, w4⟩ := w ke'
    obtain ⟨E4, E5, E6⟩ := F_same w2.1.2.1.2.2 l2.1.2.1.2.2 w3 g4 w4 (fun j _ => ⟨rfl, rfl, rfl⟩)
    rw [E4, E5, E6] at w2
    obtain ⟨r231, x1, x2, x3, x4⟩ := H_late w2 (p1 := 5) (p2 := hor - 1) (p3 := 15) (by omega) (by omega) (by omega) (by rw [← hhor]; omega)
    obtain ⟨r233, y1, y2, y3, y4, y5⟩ := H_end0 x3
    have y0 := H_settled x3
    obtain ⟨r187, r, r', r195, r197, s1, s2, s3, s4, s5, s6, s7, s8, s9, s10⟩ := LW_rest y4 t3 v9
    refine ⟨_, _, pl, mo, st, ke', lag1, dead1, manner1, set1, Wo, Po, So, 20 + m, 1, 0 + 1, s9, s10, fun R hR => ?_⟩
    rw [fL_law_L42_s]
    refine zno (zLe_f (show (e : Int) < 2 by omega) (by omega) (by omega)) ?_
    refine zb (by rw [show 60 * (e : Int) = ((60 * e : Nat) : Int) by omega]; exact v01) (zb b2 (zb c1 (zno (zLt_f (by omega) (by omega) (by omega)) (zb d1 (zno (zLt_f (by omega) (by omega) (by omega)) ?_)))))
    refine zb (by rw [show 60 * (e : Int) + 1 = ((60 * e + 1 : Nat) : Int) by omega]; exact e1) (zno z10 ?_)
    refine zb hmany (zyes (zE_t rfl) ?_)
    refine zb f1 (zyes (zE_t (zlcmp_self _)) ?_)
    refine zb f2 (zyes (zE_t rfl) (zb f3 (zyes (zE_t rfl) ?_)))
    refine zb (by rw [show 60 * (e : Int) + 8 = ((60 * e + 8 : Nat) : Int) by omega]; exact v81) (zb m2 (zlet2 (show 20 + (m : Int) = ((20 + m : Nat) : Int) by omega) ?_))
    refine zb g1 ?_
    refine zb i1 (zno (zLt_f i3 (by omega) (by omega)) ?_)
    refine zb j1 (zyes (zE_t j2) (zb k1 (zyes (zE_t k2) (zb hsum (zno z10 ?_)))))
    refine zb l1 ?_
    refine zb q11 (zlet2 (show (hor + 2000 - 2000) - 1 = hor - 1 by omega) (zb N_many.1 ?_))
    have nt : ¬ zLt (hor - 1) 0 := zLt_f (by omega) (by omega) (by omega)
    refine zb (a := (zNA (zNP (zNE (zNE o4 r80) r82) r84) r247, zNP p3 r239)) (zno nt (zb t1 (zyes (zE_t t2) (zb (N_many (t := zNP p3 r239)).2.1 (zyes (zE_t t3.2.2) (zb (N_many (t := zNP p3 r239)).2.2.1 (zyes (zE_t (H_kept t3)) (zb (N_many (t := zNP p3 r239)).1 (zyes (zE_t (by rw [t4])) (zb u1 (zyes (zE_t u2) rfl))))))))))) ?_
    refine zb (a := zNE (zNP o8 r231) r233) (zno nt (zb w1 (zb x1 (zyes (zE_t x2) (zb y1 (zyes (zLe_t y3 (by omega) (by omega)) rfl)))))) ?_
    refine zb (N_many (t := zNP p3 r239)).2.2.2.1 (zb s1 (zyes (zE_t s2) ?_))
    refine zb (by rw [show 60 * (e : Int) + 9 = ((60 * e + 9 : Nat) : Int) by omega]; exact v91) (zb s3 (zno z10 (zb s4 (zno z10 (zb s5 (zyes (zE_t s6) (zb s7 (zyes (zE_t s8) ?_))))))))
    exact hR
