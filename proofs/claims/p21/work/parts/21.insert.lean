/-! ===== PURE: insertion, in the class's row and in the reference ===== -/
theorem zif2 {x y z a b c : Int} (hx : -100 ≤ x ∧ x ≤ 30000) (hy : 0 ≤ y ∧ y ≤ 5) (hz : 0 ≤ z ∧ z ≤ 15) (ha : -100 ≤ a ∧ a ≤ 30000) (hb : 0 ≤ b ∧ b ≤ 5) (hc : 0 ≤ c ∧ c ≤ 15) :
    (if zE x a then if zE y b then if zLe z c then some (0 : Int) else some 1 else if zLe y b then some 0 else some 1 else if zLe x a then some 0 else some 1) = some (if zle (x, y, z) (a, b, c) then 0 else 1) := by
  by_cases h1 : x = a
  · refine zyes (zE_t h1) ?_
    by_cases h2 : y = b
    · refine zyes (zE_t h2) ?_
      by_cases h3 : z ≤ c
      · refine zyes (zLe_t h3 (by omega) (by omega)) ?_
        rw [if_pos (by simp only [zle]; omega)]
      · refine zno (zLe_f (by omega) (by omega) (by omega)) ?_
        rw [if_neg (by simp only [zle]; omega)]
    · refine zno (zE_f h2 (by omega) (by omega) (by omega) (by omega)) ?_
      by_cases h3 : y ≤ b
      · refine zyes (zLe_t h3 (by omega) (by omega)) ?_
        rw [if_pos (by simp only [zle]; omega)]
      · refine zno (zLe_f (by omega) (by omega) (by omega)) ?_
        rw [if_neg (by simp only [zle]; omega)]
  · refine zno (zE_f h1 (by omega) (by omega) (by omega) (by omega)) ?_
    by_cases h3 : x ≤ a
    · refine zyes (zLe_t h3 (by omega) (by omega)) ?_
      rw [if_pos (by simp only [zle]; omega)]
    · refine zno (zLe_f (by omega) (by omega) (by omega)) ?_
      rw [if_neg (by simp only [zle]; omega)]
abbrev zb3 (x y z : Int) : Prop := (-100 ≤ x ∧ x ≤ 30000) ∧ (0 ≤ y ∧ y ≤ 5) ∧ (0 ≤ z ∧ z ≤ 15)
theorem R_behind (t : zRowT) (i : Nat) (hi : i < 240) (hr : zb3 (zr_when t i) (zr_plane t i) (zr_strip t i)) {a b c : Int} (ha : zb3 a b c) : fX2_isBehind t (i : Int) a b c = some (if zle (zr_when t i, zr_plane t i, zr_strip t i) (a, b, c) then 0 else 1) := by
  rw [← zif2 hr.1 hr.2.1 hr.2.2 ha.1 ha.2.1 ha.2.2]
  have g : zIn (i : Int) 240 := ⟨by omega, by omega⟩
  unfold fX2_isBehind
  simp only [zg_pos g, zcN]
theorem R_loop {t : zRowT} {n a b c : Int} (ha : zb3 a b c) : ∀ (i : Nat) (zn : Nat) (W P S : Nat → Int), i < zn → i < 240 → zok3 W P S i → fX2_insert_L17 zn t a b c (i : Int) W P S = some (((zpos W P S (a, b, c) i : Nat) : Int), zsf W (zpos W P S (a, b, c) i) i, zsf P (zpos W P S (a, b, c) i) i, zsf S (zpos W P S (a, b, c) i) i) := by
  intro i
  induction i with
  | zero =>
    intro zn W P S hz _ _
    obtain ⟨zn, rfl⟩ : ∃ k, zn = k + 1 := ⟨zn - 1, by omega⟩
    rw [fX2_insert_L17_s]
    refine zyes (zLe_t (by omega) (by omega) (by omega)) ?_
    simp only [zpos, zsf_self]
  | succ i ih =>
    intro zn W P S hz h240 hok
    obtain ⟨zn, rfl⟩ : ∃ k, zn = k + 1 := ⟨zn - 1, by omega⟩
    rw [fX2_insert_L17_s]
    refine zno (zLe_f (by omega) (by omega) (by omega)) ?_
    have e1 : ((i + 1 : Nat) : Int) - 1 = (i : Int) := by omega
    have e2 : ((i + 1 : Nat) : Int) + (-1) = (i : Int) := by omega
    rw [e1, e2]
    refine zb (R_behind (zk_R W P S (zr_size t)) i (by omega) (hok i (by omega)) ha) ?_
    show (if zE (if zle (W i, P i, S i) (a, b, c) then 0 else 1) 0 then _ else _) = _
    by_cases hc : zle (W i, P i, S i) (a, b, c)
    · rw [if_pos hc]
      refine zyes (zE_t rfl) ?_
      have e : zpos W P S (a, b, c) (i + 1) = i + 1 := by
        unfold zpos; rw [if_pos hc]
      rw [e]
      simp only [zsf_self]
    · rw [if_neg hc]
      refine zno (zE_f (by omega) (by omega) (by omega) (by omega) (by omega)) ?_
      have g : zIn (i : Int) 240 := ⟨by omega, by omega⟩
      have g2 : zIn ((i + 1 : Nat) : Int) 240 := ⟨by omega, by omega⟩
      refine zok g (zok g (zok g ?_))
      refine zb (a := (zu W ((i + 1 : Nat) : Int) (W i), zu P ((i + 1 : Nat) : Int) (P i), zu S ((i + 1 : Nat) : Int) (S i))) ?_ ?_
      · unfold fX2_put
        exact zok g2 (zok g2 (zok g2 rfl))
      · have ec : ∀ j, j < i → (zu W ((i + 1 : Nat) : Int) (W i)) j = W j ∧ (zu P ((i + 1 : Nat) : Int) (P i)) j = P j ∧ (zu S ((i + 1 : Nat) : Int) (S i)) j = S j := by
          intro j hj
          unfold zu
          simp only [zcN]
          rw [if_neg (by omega), if_neg (by omega), if_neg (by omega)]
          exact ⟨rfl, rfl, rfl⟩
        have h2 := ih zn (zu W ((i + 1 : Nat) : Int) (W i)) (zu P ((i + 1 : Nat) : Int) (P i)) (zu S ((i + 1 : Nat) : Int) (S i)) (by omega) (by omega) (fun j hj => by
          obtain ⟨e3, e4, e5⟩ := ec j hj
          rw [e3, e4, e5]
          exact hok j (by omega))
        refine h2.trans ?_
        have e : zpos W P S (a, b, c) (i + 1) = zpos W P S (a, b, c) i := by
          show (if zle (W i, P i, S i) (a, b, c) then _ else _) = _
          rw [if_neg hc]
        rw [e, zpos_congr ec]
        have hle := zpos_le W P S (a, b, c) i
        rw [zsf_step W hle, zsf_step P hle, zsf_step S hle]
theorem R_insert {W P S : Nat → Int} {n : Nat} {a b c : Int} (hn : n < 240) (hok : zok3 W P S n) (ha : zb3 a b c) :
    fX2_insert (zk_R W P S (n : Int)) a b c = some (zsh W (zpos W P S (a, b, c) n) n a, zsh P (zpos W P S (a, b, c) n) n b, zsh S (zpos W P S (a, b, c) n) n c, ((n + 1 : Nat) : Int)) := by
  have hle := zpos_le W P S (a, b, c) n
  unfold fX2_insert
  refine zyes (show zLt (n : Int) 240 from zLt_t (by omega) (by omega) (by omega)) ?_
  refine zb (R_loop (t := zk_R W P S (n : Int)) (n := 0) ha n zF W P S (by unfold zF; omega) (by omega) hok) ?_
  have g : zIn ((zpos W P S (a, b, c) n : Nat) : Int) 240 := ⟨by omega, by omega⟩
  refine zb (a := (zsh W (zpos W P S (a, b, c) n) n a, zsh P (zpos W P S (a, b, c) n) n b, zsh S (zpos W P S (a, b, c) n) n c)) ?_ rfl
  unfold fX2_put
  refine zok g (zok g (zok g ?_))
  show some (zu (zsf W _ n) _ a, zu (zsf P _ n) _ b, zu (zsf S _ n) _ c) = _
  rw [zsf_put W a hle, zsf_put P b hle, zsf_put S c hle]
/-! the reference: a pulse comes in its place -/
theorem M_behind (t : zMT) (i : Nat) (hi : i < 241) (hr : zb3 (zm_momentOf t i) (zm_planeOf t i) (zm_stripOf t i)) {a b c : Int} (ha : zb3 a b c) : fX4_isBehind t (i : Int) b a c = some (if zle (zm_momentOf t i, zm_planeOf t i, zm_stripOf t i) (a, b, c) then 0 else 1) := by
  rw [← zif2 hr.1 hr.2.1 hr.2.2 ha.1 ha.2.1 ha.2.2]
  have g : zIn (i : Int) 241 := ⟨by omega, by omega⟩
  unfold fX4_isBehind
  simp only [zg_pos g, zcN]
theorem M_loop {t : zMT} {a b c : Int} (ha : zb3 a b c) : ∀ (i : Nat) (zn : Nat) (W P S : Nat → Int), i < zn → i < 241 → zok3 W P S i → fX4_pulse_L82 zn t b a c (i : Int) P W S = some (((zpos W P S (a, b, c) i : Nat) : Int), zsf P (zpos W P S (a, b, c) i) i, zsf W (zpos W P S (a, b, c) i) i, zsf S (zpos W P S (a, b, c) i) i) := by
  intro i
  induction i with
  | zero =>
    intro zn W P S hz _ _
    obtain ⟨zn, rfl⟩ : ∃ k, zn = k + 1 := ⟨zn - 1, by omega⟩
    rw [fX4_pulse_L82_s]
    refine zyes (zLe_t (by omega) (by omega) (by omega)) ?_
    simp only [zpos, zsf_self]
  | succ i ih =>
    intro zn W P S hz h240 hok
    obtain ⟨zn, rfl⟩ : ∃ k, zn = k + 1 := ⟨zn - 1, by omega⟩
    rw [fX4_pulse_L82_s]
    refine zno (zLe_f (by omega) (by omega) (by omega)) ?_
    have e1 : ((i + 1 : Nat) : Int) - 1 = (i : Int) := by omega
    have e2 : ((i + 1 : Nat) : Int) + (-1) = (i : Int) := by omega
    rw [e1, e2]
    refine zb (M_behind (zk_M _ _ _ _ _ _ _ P W S _ _ _ _ _ _ _ _ _ _ _ _ _ _ _ _ _ _) i (by omega) (hok i (by omega)) ha) ?_
    show (if zE (if zle (W i, P i, S i) (a, b, c) then 0 else 1) 0 then _ else _) = _
    by_cases hc : zle (W i, P i, S i) (a, b, c)
    · rw [if_pos hc]
      refine zyes (zE_t rfl) ?_
      have e : zpos W P S (a, b, c) (i + 1) = i + 1 := by
        unfold zpos; rw [if_pos hc]
      rw [e]
      simp only [zsf_self]
    · rw [if_neg hc]
      refine zno (zE_f (by omega) (by omega) (by omega) (by omega) (by omega)) ?_
      have g : zIn (i : Int) 241 := ⟨by omega, by omega⟩
      have g2 : zIn ((i + 1 : Nat) : Int) 241 := ⟨by omega, by omega⟩
      refine zok g (zok g2 (zok g (zok g2 (zok g (zok g2 ?_)))))
      have ec : ∀ j, j < i → (zu W ((i + 1 : Nat) : Int) (W i)) j = W j ∧ (zu P ((i + 1 : Nat) : Int) (P i)) j = P j ∧ (zu S ((i + 1 : Nat) : Int) (S i)) j = S j := by
        intro j hj
        unfold zu
        simp only [zcN]
        rw [if_neg (by omega), if_neg (by omega), if_neg (by omega)]
        exact ⟨rfl, rfl, rfl⟩
      have h2 := ih zn (zu W ((i + 1 : Nat) : Int) (W i)) (zu P ((i + 1 : Nat) : Int) (P i)) (zu S ((i + 1 : Nat) : Int) (S i)) (by omega) (by omega) (fun j hj => by
        obtain ⟨e3, e4, e5⟩ := ec j hj
        rw [e3, e4, e5]
        exact hok j (by omega))
      refine h2.trans ?_
      have e : zpos W P S (a, b, c) (i + 1) = zpos W P S (a, b, c) i := by
        show (if zle (W i, P i, S i) (a, b, c) then _ else _) = _
        rw [if_neg hc]
      rw [e, zpos_congr ec]
      have hle := zpos_le W P S (a, b, c) i
      rw [zsf_step W hle, zsf_step P hle, zsf_step S hle]
