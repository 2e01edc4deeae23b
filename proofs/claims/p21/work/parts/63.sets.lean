/-! ===== PURE: both houses alike by cells ===== -/
section Sets
variable {setting W P S : Nat → Int} {L : Nat} {zsc : Nat → Int}
theorem LW_t1 (hL : L ≤ 260) (hz : ∀ j, zR (zsc j)) {a : Nat} (ha : a + 6 ≤ 200) (B : Int) : ∀ (d i zn : Nat) (o p : zXT) (lag dead manner : Nat → Int), i + d = 6 → d < zn → zH o lag dead manner setting W P S 0 0 0 → zH p lag dead manner setting W P S 0 0 0 →
    ∃ o' p' lag' dead' manner', fL_sets_L3 zn L zsc o p (a : Int) B (i : Int) = some (o', p') ∧ zH o' lag' dead' manner' setting W P S 0 0 0 ∧ zH p' lag' dead' manner' setting W P S 0 0 0 := by
  intro d
  induction d with
  | zero =>
    intro i zn o p lag dead manner hi hzn h h'
    obtain ⟨zn, rfl⟩ : ∃ q, zn = q + 1 := ⟨zn - 1, by omega⟩
    rw [fL_sets_L3_s]
    exact ⟨o, p, lag, dead, manner, zyes (zLe_t (by omega) (by omega) (by omega)) rfl, h, h'⟩
  | succ d ih =>
    intro i zn o p lag dead manner hi hzn h h'
    obtain ⟨zn, rfl⟩ : ∃ q, zn = q + 1 := ⟨zn - 1, by omega⟩
    rw [fL_sets_L3_s]
    obtain ⟨v, v1, v2⟩ := Z_cell hL hz (k := a + i) (by omega)
    obtain ⟨x, x1, x2⟩ : ∃ x : Int, (if zE (zand v 3) 0 then some (0 : Int) else some (zand (zshr v 2) 15)) = some x ∧ 0 ≤ x ∧ x ≤ 15 := by
      by_cases c : zE (zand v 3) 0
      · exact ⟨0, zyes c rfl, by omega, by omega⟩
      · have := zand_m (zshr v 2) (m := 15) (by omega)
        exact ⟨_, zno c rfl, this.1, this.2⟩
    obtain ⟨y, y1, y2⟩ : ∃ y : Int, (if zE (zand (zshr v 6) 1) 0 then some (0 : Int) else Option.bind (fL_low (zshr v 7) 30) (fun r22 => some r22)) = some y ∧ 0 ≤ y ∧ y ≤ 29 := by
      by_cases c : zE (zand (zshr v 6) 1) 0
      · exact ⟨0, zyes c rfl, by omega, by omega⟩
      · obtain ⟨b, b1, b2⟩ := Z_low (zshr v 7) (m := 30) (by omega) (by omega)
        exact ⟨(b : Int), zno c (zb b2 rfl), by omega, by omega⟩
    have hm := zand_m (zshr v 12) (m := 1) (by omega)
    obtain ⟨r, r1, r2, r3⟩ := H_plane h (p1 := (i : Int)) (p2 := x) (p3 := y) (p4 := zand (zshr v 12) 1) (by omega) (by omega) (by omega) hm
    obtain ⟨s, s1, s2, s3⟩ := H_plane h' (p1 := (i : Int)) (p2 := x) (p3 := y) (p4 := zand (zshr v 12) 1) (by omega) (by omega) (by omega) hm
    obtain ⟨o', p', lag', dead', manner', k1, k2, k3⟩ := ih (i + 1) zn (zNL o r) (zNL p s) _ _ _ (by omega) (by omega) r3 s3
    refine ⟨o', p', lag', dead', manner', ?_, k2, k3⟩
    exact zno (zLe_f (by omega) (by omega) (by omega)) (zb v1 (zb x1 (zb y1 (zlet (zb r1 (zyes (zE_t r2) (zb s1 (zyes (zE_t s2) k1))))))))
theorem LW_sets (hL : L ≤ 260) (hz : ∀ j, zR (zsc j)) {a : Nat} (ha : a + 6 ≤ 200) {B : Int} (hB : 0 ≤ B ∧ B ≤ 100) {o p : zXT} {lag dead manner : Nat → Int} (h : zH o lag dead manner setting W P S 0 0 0) (h' : zH p lag dead manner setting W P S 0 0 0) :
    ∃ o' p' lag' dead' manner' setting', fL_sets L zsc o p (a : Int) B = some (1, o', p') ∧ setting' 0 = B ∧ zH o' lag' dead' manner' setting' W P S 0 0 0 ∧ zH p' lag' dead' manner' setting' W P S 0 0 0 := by
  obtain ⟨o1, p1, lag1, dead1, manner1, k1, k2, k3⟩ := LW_t1 hL hz ha B 6 0 zF o p lag dead manner (by omega) (by unfold zF; omega) h h'
  obtain ⟨v, v1, v2⟩ := Z_cell hL hz (k := a + 6) (by omega)
  have hw := zand_m v (m := 15) (by omega)
  obtain ⟨f, f1, f2⟩ := Z_low (zshr v 4) (m := 3) (by omega) (by omega)
  have hs := zand_m (zshr v 8) (m := 3) (by omega)
  obtain ⟨r1, a1, a2, a3⟩ := H_tune k2 (j := 0) (p2 := B) (by omega) hB
  obtain ⟨s1, b1, b2, b3⟩ := H_tune k3 (j := 0) (p2 := B) (by omega) hB
  obtain ⟨r2, c1, c2, c3⟩ := H_tune a3 (j := 1) (p2 := zand v 15) (by omega) (show (0 : Int) ≤ zand v ((15 : Nat) : Int) ∧ zand v ((15 : Nat) : Int) ≤ 40 by omega)
  obtain ⟨s2, d1, d2, d3⟩ := H_tune b3 (j := 1) (p2 := zand v 15) (by omega) (show (0 : Int) ≤ zand v ((15 : Nat) : Int) ∧ zand v ((15 : Nat) : Int) ≤ 40 by omega)
  obtain ⟨r3, e1, e2, e3⟩ := H_tune c3 (j := 2) (p2 := 2 + (f : Int)) (by omega) (show (2 : Int) ≤ 2 + (f : Int) ∧ 2 + (f : Int) ≤ 6 by omega)
  obtain ⟨s3, g1, g2, g3⟩ := H_tune d3 (j := 2) (p2 := 2 + (f : Int)) (by omega) (show (2 : Int) ≤ 2 + (f : Int) ∧ 2 + (f : Int) ≤ 6 by omega)
  obtain ⟨r4, i1, i2, i3⟩ := H_tune e3 (j := 3) (p2 := zand (zshr v 8) 3) (by omega) hs
  obtain ⟨s4, j1, j2, j3⟩ := H_tune g3 (j := 3) (p2 := zand (zshr v 8) 3) (by omega) hs
  have y1 := k2.1.1.2.1
  have y2 := a3.1.1.2.2.1
  have y3 := c3.1.1.2.2.2.1
  have y4 := e3.1.1.2.2.2.2
  refine ⟨zNT (zNT (zNT (zNT o1 r1) r2) r3) r4, zNT (zNT (zNT (zNT p1 s1) s2) s3) s4, lag1, dead1, manner1, _, ?_, rfl, i3, j3⟩
  unfold fL_sets
  refine zb k1 (zb v1 (zlet (zb f2 (zlet (zlet ?_)))))
  refine zb a1 (zno (zLt_f (by omega) (by omega) (by omega)) (zb b1 (zno (zLt_f (by omega) (by omega) (by omega)) ?_)))
  refine zb c1 (zno (zLt_f (by omega) (by omega) (by omega)) (zb d1 (zno (zLt_f (by omega) (by omega) (by omega)) ?_)))
  refine zb e1 (zno (zLt_f (by omega) (by omega) (by omega)) (zb g1 (zno (zLt_f (by omega) (by omega) (by omega)) ?_)))
  exact zb i1 (zno (zLt_f (by omega) (by omega) (by omega)) (zb j1 (zno (zLt_f (by omega) (by omega) (by omega)) rfl)))
end Sets
