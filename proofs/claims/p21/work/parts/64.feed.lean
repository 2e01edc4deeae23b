/-! ===== PURE: pulses told to a house ===== -/
def zBy (k : Nat) (W P S W0 P0 S0 : Nat → Int) : Prop := ∀ j, k ≤ j → W j = W0 j ∧ P j = P0 j ∧ S j = S0 j
section Feed
variable {t : zXT} {lag dead manner setting W P S W0 P0 S0 : Nat → Int} {k : Nat} {late : Int}
theorem zsh_by (f : Nat → Int) {pos n : Nat} (v : Int) (h : pos ≤ n) {j : Nat} (hj : n + 1 ≤ j) : zsh f pos n v j = f j := by
  unfold zsh
  rw [if_neg (by omega), if_neg (by omega), if_neg (by omega)]
theorem F_pulse (h : zH t lag dead manner setting W P S k 0 late) (hb : zBy k W P S W0 P0 S0) {p1 p2 p3 : Int} (c1 : 0 ≤ p1 ∧ p1 ≤ 5) (c2 : 0 ≤ p2 ∧ p2 ≤ 9999) (c3 : 0 ≤ p3 ∧ p3 ≤ 15) (c5 : ∀ x ∈ zrl W P S k, x.1 ≤ p2 + setting 0) (c6 : k < 240) : ∃ r W' P' S', fX3_pulse t p1 p2 p3 = some r ∧ r.1 = 1 ∧
    zH (zNP t r) lag dead manner setting W' P' S' (k + 1) 0 late ∧ zPf t (zNP t r) ∧ (zrl W' P' S' (k + 1)).Perm ((p2, p1, p3) :: zrl W P S k) ∧ zBy (k + 1) W' P' S' W0 P0 S0 := by
  have hs0 := h.1.1.2.1
  have hh : zhor (setting 0) W k 0 ≤ p2 := by
    unfold zhor
    rw [if_neg (by omega)]
    by_cases c : k = 0
    · rw [if_pos c]; omega
    · rw [if_neg c]
      have := c5 (W (k - 1), P (k - 1), S (k - 1)) (List.mem_map.mpr ⟨k - 1, List.mem_range.mpr (by omega), rfl⟩)
      have h2 : W (k - 1) ≤ p2 + setting 0 := this
      omega
  obtain ⟨r, r1, r2, r3, r4⟩ := H_pulse h c1 c2 c3 hh c6
  have hpn := zpos_le W P S (p2, p1, p3) k
  refine ⟨r, _, _, _, r1, r2, r3, r4, ?_, ?_⟩
  · rw [zrl_ins h.1.2.1.2.2]
    exact zins_perm _ _
  · intro j hj
    rw [zsh_by W p2 hpn hj, zsh_by P p1 hpn hj, zsh_by S p3 hpn hj]
    exact hb j (by omega)
/-- two sorted rows of the same pulses are one -/
theorem F_same {W P S W' P' S' : Nat → Int} {n : Nat} {l : List zP3} (h : (zrl W P S n).Pairwise zle) (h' : (zrl W' P' S' n).Pairwise zle) (p : (zrl W P S n).Perm l) (p' : (zrl W' P' S' n).Perm l) (b : zBy n W P S W0 P0 S0) (b' : zBy n W' P' S' W0 P0 S0) : W = W' ∧ P = P' ∧ S = S' := by
  have e : zrl W P S n = zrl W' P' S' n := List.Perm.eq_of_pairwise (le := zle) (fun a b _ _ h1 h2 => zle_antisymm h1 h2) h h' (p.trans p'.symm)
  have hi := zrl_inj e
  refine ⟨funext fun j => ?_, funext fun j => ?_, funext fun j => ?_⟩
  · by_cases c : j < n
    · exact (hi j c).1
    · rw [(b j (by omega)).1, (b' j (by omega)).1]
  · by_cases c : j < n
    · exact (hi j c).2.1
    · rw [(b j (by omega)).2.1, (b' j (by omega)).2.1]
  · by_cases c : j < n
    · exact (hi j c).2.2
    · rw [(b j (by omega)).2.2, (b' j (by omega)).2.2]
theorem zu_at (f : Nat → Int) (k : Nat) (v : Int) : zu f (k : Int) v k = v := if_pos rfl
theorem zu_ne2 (f : Nat → Int) (k : Nat) (v : Int) {j : Nat} (h : j ≠ k) : zu f (k : Int) v j = f j := if_neg h
theorem zrl_zu (w p s : Nat → Int) (k : Nat) (a b c : Int) : zrl (zu w (k : Int) a) (zu p (k : Int) b) (zu s (k : Int) c) (k + 1) = zrl w p s k ++ [(a, b, c)] := by
  rw [zrl_succ, zu_at, zu_at, zu_at]
  congr 1
  exact zrl_congr (fun i hi => ⟨zu_ne2 _ _ _ (by omega), zu_ne2 _ _ _ (by omega), zu_ne2 _ _ _ (by omega)⟩)
end Feed
/-- the law's rows: planes, moments, strips, keys up to k, moments at most M -/
def zAr (B : Int) (pl mo st ke : Nat → Int) (M : Int) (k : Nat) : Prop := ∀ j, j < k → (0 ≤ pl j ∧ pl j ≤ 5) ∧ (0 ≤ st j ∧ st j ≤ 15) ∧ (0 ≤ mo j ∧ mo j ≤ M) ∧ (mo j ≤ ke j ∧ ke j ≤ mo j + B)
section FeedO
variable {lag dead manner setting W0 P0 S0 : Nat → Int} {L : Nat} {zsc : Nat → Int} {late : Int}
theorem LW_feed (hL : L ≤ 260) (hz : ∀ j, zR (zsc j)) {e b n : Nat} (he : e ≤ 1) (hb : b ≤ 59) (hn : n ≤ 47) (hB : setting 0 = (b : Int)) (q : zXT) : ∀ (d i zn : Nat) (o : zXT) (pl mo st ke : Nat → Int) (M : Int) (W P S : Nat → Int), i + d = n → d < zn → 0 ≤ M → M ≤ 31 * (i : Int) → zAr (b : Int) pl mo st ke M i → zH o lag dead manner setting W P S i 0 late → (zrl W P S i).Perm (zrl mo pl st i) → zBy i W P S W0 P0 S0 →
    ∃ o' pl' mo' st' ke' W' P' S', fL_law_L172 zn L zsc o q pl mo st ke (e : Int) (b : Int) (n : Int) M (i : Int) = some (o', pl', mo', st', ke') ∧ zAr (b : Int) pl' mo' st' ke' (31 * (n : Int)) n ∧ zH o' lag dead manner setting W' P' S' n 0 late ∧ (zrl W' P' S' n).Perm (zrl mo' pl' st' n) ∧ zBy n W' P' S' W0 P0 S0 ∧ (∀ j k, j ≤ k → k < n → i ≤ k → mo' j ≤ mo' k) ∧ ∀ j, j < i → mo' j = mo j := by
  intro d
  induction d with
  | zero =>
    intro i zn o pl mo st ke M W P S hi hzn hM0 hM hA h hp hby
    obtain ⟨zn, rfl⟩ : ∃ q, zn = q + 1 := ⟨zn - 1, by omega⟩
    have ei : i = n := by omega
    subst ei
    rw [fL_law_L172_s]
    exact ⟨o, pl, mo, st, ke, W, P, S, zyes (zLe_t (by omega) (by omega) (by omega)) rfl, fun j hj => ⟨(hA j hj).1, (hA j hj).2.1, by have := (hA j hj).2.2.1; omega, (hA j hj).2.2.2⟩, h, hp, hby, fun j k h1 h2 h3 => by omega, fun j _ => rfl⟩
  | succ d ih =>
    intro i zn o pl mo st ke M W P S hi hzn hM0 hM hA h hp hby
    obtain ⟨zn, rfl⟩ : ∃ q, zn = q + 1 := ⟨zn - 1, by omega⟩
    rw [fL_law_L172_s]
    obtain ⟨v, v1, v2⟩ := Z_cell hL hz (k := 60 * e + 10 + i) (by omega)
    have ec : ((60 * (e : Int)) + 10) + (i : Int) = ((60 * e + 10 + i : Nat) : Int) := by omega
    obtain ⟨x, x1, x2⟩ : ∃ x : Int, (if zE (zand v 3) 0 then some (zand (zshr v 2) 31) else some (zand (zshr v 2) 3)) = some x ∧ 0 ≤ x ∧ x ≤ 31 := by
      by_cases c : zE (zand v 3) 0
      · have := zand_m (zshr v 2) (m := 31) (by omega)
        exact ⟨_, zyes c rfl, this.1, this.2⟩
      · have := zand_m (zshr v 2) (m := 3) (by omega)
        exact ⟨_, zno c rfl, this.1, by have := this.2; show zand (zshr v 2) ((3 : Nat) : Int) ≤ 31; omega⟩
    obtain ⟨f, f1, f2⟩ := Z_low (zshr v 7) (m := 6) (by omega) (by omega)
    obtain ⟨g, g1, g2⟩ := Z_low (zshr v 16) (m := b + 1) (by omega) (by omega)
    have hs : 0 ≤ zand (zshr v 12) 15 ∧ zand (zshr v 12) 15 ≤ 15 := zand_m (zshr v 12) (m := 15) (by omega)
    have g0 : zIn (i : Int) 48 := ⟨by omega, by omega⟩
    obtain ⟨r, W', P', S', r1, r2, r3, r4, r5, r6⟩ := F_pulse h hby (p1 := (f : Int)) (p2 := M + x) (p3 := zand (zshr v 12) 15) (by omega) (by omega) hs (fun y hy => by
      obtain ⟨j, hj, rfl⟩ := zrl_mem (hp.mem_iff.mp hy)
      have := (hA j hj).2.2.1
      show mo j ≤ _
      rw [hB]; omega) (by omega)
    have hA' : zAr (b : Int) (zu pl (i : Int) (f : Int)) (zu mo (i : Int) (M + x)) (zu st (i : Int) (zand (zshr v 12) 15)) (zu ke (i : Int) ((M + x) + (g : Int))) (M + x) (i + 1) := by
      intro j hj
      by_cases c : j = i
      · subst c
        rw [zu_at, zu_at, zu_at, zu_at]
        exact ⟨by omega, hs, by omega, by omega⟩
      · rw [zu_ne2 _ _ _ c, zu_ne2 _ _ _ c, zu_ne2 _ _ _ c, zu_ne2 _ _ _ c]
        have := hA j (by omega)
        exact ⟨this.1, this.2.1, by omega, this.2.2.2⟩
    have hp' : (zrl W' P' S' (i + 1)).Perm (zrl (zu mo (i : Int) (M + x)) (zu pl (i : Int) (f : Int)) (zu st (i : Int) (zand (zshr v 12) 15)) (i + 1)) := by
      rw [zrl_zu]
      exact r5.trans ((List.Perm.cons _ hp).trans (List.perm_append_singleton _ _).symm)
    obtain ⟨o', pl', mo', st', ke', W2, P2, S2, k1, k2, k3, k4, k5, k6, k7⟩ := ih (i + 1) zn (zNP o r) _ _ _ _ (M + x) W' P' S' (by omega) (by omega) (by omega) (by omega) hA' r3 hp' r6
    refine ⟨o', pl', mo', st', ke', W2, P2, S2, ?_, k2, k3, k4, k5, fun j k h1 h2 h3 => ?_, fun j hj => ?_⟩
    · refine zno (zLe_f (by omega) (by omega) (by omega)) (zb (by rw [ec]; exact v1) (zb x1 (zlet (zb f2 (zok g0 (zok g0 (zok g0 ?_)))))))
      refine zb (by rw [show (b : Int) + 1 = ((b + 1 : Nat) : Int) from rfl]; exact g2) (zok g0 (zok g0 (zok g0 ?_)))
      refine zb (by rw [zcN, zu_at, zu_at]; exact r1) (zyes (zE_t r2) ?_)
      exact k1
    · by_cases c : k = i
      · subst c
        rw [k7 k (by omega), zu_at]
        by_cases c2 : j = k
        · subst c2; rw [k7 j (by omega), zu_at]; exact Int.le_refl _
        · rw [k7 j (by omega), zu_ne2 _ _ _ c2]
          have := (hA j (by omega)).2.2.1
          omega
      · exact k6 j k h1 h2 (by omega)
    · rw [k7 j (by omega), zu_ne2 _ _ _ (by omega)]
end FeedO
