/-! ===== PURE: the law's loop, from the questions' theorems ===== -/
theorem zRel_scr {t : zXT} {t2 : zMT} (h : zRel t t2) (L E : Nat → Int) (kn : Int) (T U G : Nat → Int) (gR g : Int) (Fa : Nat → Int) (a b c d e f i : Int) : zRel t (zk_M (zm_lag t2) (zm_dead t2) (zm_manner t2) (zm_setting t2) (zm_leastOf t2) (zm_mostOf t2) (zm_kept t2) (zm_planeOf t2) (zm_momentOf t2) (zm_stripOf t2) (zm_late t2) (zm_isOver t2) L E kn T U G gR g Fa a b c d e f i) := by
  obtain ⟨lag, dead, manner, setting, W, P, S, n, ov, h1, h2, h3, h4, h5⟩ := h
  exact ⟨lag, dead, manner, setting, W, P, S, n, ov, h1, h2, h3, h4, h5⟩
theorem zRel_shf {t : zXT} {t2 : zMT} (h : zRel t t2) (ρ : zRowT) : zRel (zk_X (zx_lag t) (zx_dead t) (zx_manner t) (zx_setting t) (zx_keptRow t) (zx_liveRow t) ρ (zx_groups t) (zx_search t) (zx_deadUntil t) (zx_settled t) (zx_known t) (zx_tooLate t) (zx_ended t)) t2 := by
  obtain ⟨lag, dead, manner, setting, W, P, S, n, ov, h1, h2, h3, h4, h5⟩ := h
  exact ⟨lag, dead, manner, setting, W, P, S, n, ov, h1, ⟨h2.1, h2.2⟩, h3, h4, h5⟩
theorem zRel_0 : zRel zX0 zM0 := by
  refine ⟨fun _ => 0, fun _ => 0, fun _ => 0, zS3, fun _ => 0, fun _ => 0, fun _ => 0, 0, 0, ⟨⟨fun k hk => ⟨⟨(show (0 : Int) ≤ 0 by omega), (show (0 : Int) ≤ 30 by omega)⟩, ⟨(show (0 : Int) ≤ 0 by omega), (show (0 : Int) ≤ 50 by omega)⟩, ⟨(show (0 : Int) ≤ 0 by omega), (show (0 : Int) ≤ 1 by omega)⟩⟩, by decide, by decide, by decide, by decide⟩, ⟨by omega, fun i hi => by omega, List.Pairwise.nil⟩, Or.inl rfl⟩, zFr_ix ⟨rfl, rfl, rfl, rfl, rfl, rfl⟩ ⟨rfl, fun _ _ => rfl, ⟨fun _ => 0, fun _ => 0, fun _ => 0, rfl⟩, rfl, rfl⟩, ⟨rfl, rfl, rfl, ?_, rfl, rfl, rfl, rfl, rfl⟩, rfl, ?_⟩
  · funext j
    match j with
    | 0 => rfl
    | 1 => rfl
    | 2 => rfl
    | 3 => rfl
    | j + 4 => rfl
  · intro j hj
    match j, hj with
    | 0, _ => exact ⟨rfl, rfl⟩
    | 1, _ => exact ⟨rfl, rfl⟩
    | 2, _ => exact ⟨rfl, rfl⟩
    | 3, _ => exact ⟨rfl, rfl⟩
    | j + 4, hj => omega
theorem law_turns (hSh : ∀ (t : zXT) (t2 : zMT) (p1 p2 : Int), zRel t t2 → zR p1 → zR p2 → ∃ a ρ r, fX3_shifted t p1 p2 = some (a, ρ) ∧ fX4_shifted t2 p1 p2 = some (a, r))
    (hLv : ∀ (t : zXT) (t2 : zMT) (p1 : Int), zRel t t2 → zR p1 → ∃ a r, fX3_live t p1 = some a ∧ fX4_live t2 p1 = some (a, r))
    (hRt : ∀ (t : zXT) (t2 : zMT) (p1 p2 : Int), zRel t t2 → zR p1 → zR p2 → ∃ a r, fX3_rate t p1 p2 = some a ∧ fX4_rate t2 p1 p2 = some (a, r) ∧ zE (zlcmp a a) 0)
    (hEx : ∀ (t : zXT) (t2 : zMT) (p1 p2 p3 : Int), zRel t t2 → zR p1 → zR p2 → zR p3 → ∃ a r, fX3_expected t p1 p2 p3 = some a ∧ fX4_expected t2 p1 p2 p3 = some (a, r) ∧ zE (zlcmp a a) 0)
    (L : Nat) (hL : L ≤ 2560) (zsc : Nat → Int) (hz : ∀ j, zR (zsc j)) : ∀ (k i zn : Nat) (t : zXT) (t2 : zMT), L ≤ i + k → k < zn → i ≤ 2560 → zRel t t2 → fL_law zn L zsc t t2 (i : Int) = some 1 := by
  intro k
  induction k with
  | zero =>
    intro i zn t t2 hik hzn hi h
    obtain ⟨zn, rfl⟩ : ∃ q, zn = q + 1 := ⟨zn - 1, by omega⟩
    unfold fL_law
    exact zyes (zLt_t (by omega) (by omega) (by omega)) rfl
  | succ k ih =>
    intro i zn t t2 hik hzn hi h
    obtain ⟨zn, rfl⟩ : ∃ q, zn = q + 1 := ⟨zn - 1, by omega⟩
    unfold fL_law
    by_cases c0 : (L : Int) - 5 < (i : Int)
    · exact zyes (zLt_t c0 (by omega) (by omega)) rfl
    have g0 : zIn (i : Int) L := ⟨by omega, by omega⟩
    have g1 : zIn ((i : Int) + 1) L := ⟨by omega, by omega⟩
    have g2 : zIn ((i : Int) + 2) L := ⟨by omega, by omega⟩
    have g3 : zIn ((i : Int) + 3) L := ⟨by omega, by omega⟩
    have g4 : zIn ((i : Int) + 4) L := ⟨by omega, by omega⟩
    have IH : ∀ (t' : zXT) (t2' : zMT), zRel t' t2' → fL_law zn L zsc t' t2' ((i : Int) + 5) = some 1 := fun t' t2' h' => ih (i + 5) zn t' t2' (by omega) (by omega) (by omega) h'
    have z1 := hz (Int.toNat ((i : Int) + 1))
    have z2 := hz (Int.toNat ((i : Int) + 2))
    have z3 := hz (Int.toNat ((i : Int) + 3))
    have z4 := hz (Int.toNat ((i : Int) + 4))
    refine zno (zLt_f (by omega) (by omega) (by omega)) (zok g0 ?_)
    by_cases e0 : zE (zand (zsc (Int.toNat (i : Int))) 31) 0
    · obtain ⟨a, l, d, m, l', d', m', x, y, hr⟩ := L_plane h z1 z2 z3 z4
      exact zyes e0 (zok g1 (zok g2 (zok g3 (zok g4 (zb x (zok g1 (zok g2 (zok g3 (zok g4 (zb y (zyes (zE_t rfl) (IH _ _ hr))))))))))))
    refine zno e0 ?_
    by_cases e1 : zE (zand (zsc (Int.toNat (i : Int))) 31) 1
    · obtain ⟨a, r, x, y⟩ := L_ofPlane h z1 z2
      exact zyes e1 (zok g1 (zok g2 (zb x (zok g1 (zok g2 (zb y (zyes (zE_t rfl) (IH _ _ (zRel_scr h _ _ _ _ _ _ _ _ _ _ _ _ _ _ _ _)))))))))
    refine zno e1 ?_
    by_cases e2 : zE (zand (zsc (Int.toNat (i : Int))) 31) 2
    · obtain ⟨a, s, s', x, y, hr⟩ := L_tune h z1 z2
      exact zyes e2 (zok g1 (zok g2 (zb x (zok g1 (zok g2 (zb y (zyes (zE_t rfl) (IH _ _ hr))))))))
    refine zno e2 ?_
    by_cases e3 : zE (zand (zsc (Int.toNat (i : Int))) 31) 3
    · obtain ⟨a, kr, lr, gr, se, du, sd, kd, tl, k', P', W', S', l', x, y, hr⟩ := L_pulse h z1 z2 z3
      exact zyes e3 (zok g1 (zok g2 (zok g3 (zb x (zok g1 (zok g2 (zok g3 (zb y (zyes (zE_t rfl) (IH _ _ hr))))))))))
    refine zno e3 ?_
    by_cases e4 : zE (zand (zsc (Int.toNat (i : Int))) 31) 4
    · obtain ⟨a, lr, gr, se, du, sd, kd, en, en', x, y, hr⟩ := L_end h
      exact zyes e4 (zb x (zb y (zyes (zE_t rfl) (IH _ _ hr))))
    refine zno e4 ?_
    by_cases e5 : zE (zand (zsc (Int.toNat (i : Int))) 31) 5
    · obtain ⟨a, kr, lr, gr, du, sd, kd, tl, en, k', l', en', x, y, hr⟩ := L_anew h
      exact zyes e5 (zb x (zb y (zyes (zE_t rfl) (IH _ _ hr))))
    refine zno e5 ?_
    by_cases e6 : zE (zand (zsc (Int.toNat (i : Int))) 31) 6
    · obtain ⟨a, r, x, y⟩ := L_group h z1 z2
      exact zyes e6 (zok g1 (zok g2 (zb x (zok g1 (zok g2 (zb y (zyes (zE_t rfl) (IH _ _ (zRel_scr h _ _ _ _ _ _ _ _ _ _ _ _ _ _ _ _)))))))))
    refine zno e6 ?_
    by_cases e7 : zE (zand (zsc (Int.toNat (i : Int))) 31) 7
    · obtain ⟨a, r, x, y⟩ := L_member h z1 z2 z3
      exact zyes e7 (zok g1 (zok g2 (zok g3 (zb x (zok g1 (zok g2 (zok g3 (zb y (zyes (zE_t rfl) (IH _ _ (zRel_scr h _ _ _ _ _ _ _ _ _ _ _ _ _ _ _ _)))))))))))
    refine zno e7 ?_
    by_cases e8 : zE (zand (zsc (Int.toNat (i : Int))) 31) 8
    · obtain ⟨a, r, x, y⟩ := L_having h z1 z2
      exact zyes e8 (zok g1 (zok g2 (zb x (zok g1 (zok g2 (zb y (zyes (zE_t rfl) (IH _ _ (zRel_scr h _ _ _ _ _ _ _ _ _ _ _ _ _ _ _ _)))))))))
    refine zno e8 ?_
    by_cases e9 : zE (zand (zsc (Int.toNat (i : Int))) 31) 9
    · obtain ⟨a, r, x, y⟩ := L_folds h z1
      exact zyes e9 (zok g1 (zb x (zok g1 (zb y (zyes (zE_t rfl) (IH _ _ (zRel_scr h _ _ _ _ _ _ _ _ _ _ _ _ _ _ _ _)))))))
    refine zno e9 ?_
    by_cases e10 : zE (zand (zsc (Int.toNat (i : Int))) 31) 10
    · obtain ⟨a, ρ, r, x, y⟩ := hSh t t2 _ _ h z1 z2
      exact zyes e10 (zok g1 (zok g2 (zb x (zok g1 (zok g2 (zb y (zyes (zE_t rfl) (IH _ _ (zRel_scr (zRel_shf h ρ) _ _ _ _ _ _ _ _ _ _ _ _ _ _ _ _)))))))))
    refine zno e10 ?_
    by_cases e11 : zE (zand (zsc (Int.toNat (i : Int))) 31) 11
    · obtain ⟨a, r, x, y⟩ := L_twos h z1 z2 z3
      exact zyes e11 (zok g1 (zok g2 (zok g3 (zb x (zok g1 (zok g2 (zok g3 (zb y (zyes (zE_t rfl) (IH _ _ (zRel_scr h _ _ _ _ _ _ _ _ _ _ _ _ _ _ _ _)))))))))))
    refine zno e11 ?_
    by_cases e12 : zE (zand (zsc (Int.toNat (i : Int))) 31) 12
    · obtain ⟨a, r, x, y⟩ := hLv t t2 _ h z1
      exact zyes e12 (zok g1 (zb x (zok g1 (zb y (zyes (zE_t rfl) (IH _ _ (zRel_scr h _ _ _ _ _ _ _ _ _ _ _ _ _ _ _ _)))))))
    refine zno e12 ?_
    by_cases e13 : zE (zand (zsc (Int.toNat (i : Int))) 31) 13
    · obtain ⟨a, r, x, y, w⟩ := hRt t t2 _ _ h z1 z2
      exact zyes e13 (zok g1 (zok g2 (zb x (zok g1 (zok g2 (zb y (zyes w (IH _ _ (zRel_scr h _ _ _ _ _ _ _ _ _ _ _ _ _ _ _ _)))))))))
    refine zno e13 ?_
    by_cases e14 : zE (zand (zsc (Int.toNat (i : Int))) 31) 14
    · obtain ⟨a, r, x, y, w⟩ := hEx t t2 _ _ _ h z1 z2 z3
      exact zyes e14 (zok g1 (zok g2 (zok g3 (zb x (zok g1 (zok g2 (zok g3 (zb y (zyes w (IH _ _ (zRel_scr h _ _ _ _ _ _ _ _ _ _ _ _ _ _ _ _)))))))))))
    refine zno e14 ?_
    by_cases e15 : zE (zand (zsc (Int.toNat (i : Int))) 31) 15
    · obtain ⟨a, r, x, y⟩ := L_track h z1 z2
      exact zyes e15 (zok g1 (zok g2 (zb x (zok g1 (zok g2 (zb y (zyes (zE_t rfl) (IH _ _ (zRel_scr h _ _ _ _ _ _ _ _ _ _ _ _ _ _ _ _)))))))))
    refine zno e15 ?_
    by_cases e16 : zE (zand (zsc (Int.toNat (i : Int))) 31) 16
    · obtain ⟨a, r, x, y⟩ := L_through h z1 z2
      exact zyes e16 (zok g1 (zok g2 (zb x (zok g1 (zok g2 (zb y (zyes (zE_t rfl) (IH _ _ (zRel_scr h _ _ _ _ _ _ _ _ _ _ _ _ _ _ _ _)))))))))
    refine zno e16 ?_
    by_cases e17 : zE (zand (zsc (Int.toNat (i : Int))) 31) 17
    · obtain ⟨a, r, x, y⟩ := L_many h z1
      exact zyes e17 (zok g1 (zb x (zok g1 (zb y (zyes (zE_t rfl) (IH _ _ (zRel_scr h _ _ _ _ _ _ _ _ _ _ _ _ _ _ _ _)))))))
    exact zno e17 (IH _ _ h)
