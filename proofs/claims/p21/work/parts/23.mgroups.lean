/-! ===== PURE: the reference's rows by time, and its groups ===== -/
def zSR (lag dead manner W P S : Nat → Int) (ed : Int) (sh : Int → Int) : Nat → List zP3
  | 0 => []
  | x + 1 => if zlv W P dead manner x = true ∧ W x - lag (P x).toNat < ed then zins (W x - lag (P x).toNat + sh (P x), P x, S x) (zSR lag dead manner W P S ed sh x) else zSR lag dead manner W P S ed sh x
theorem zSR_sorted (lag dead manner W P S : Nat → Int) (ed : Int) (sh : Int → Int) (x : Nat) : (zSR lag dead manner W P S ed sh x).Pairwise zle := by
  induction x with
  | zero => exact List.Pairwise.nil
  | succ x ih => unfold zSR; split; exact zins_sorted ih; exact ih
theorem zSR_len (lag dead manner W P S : Nat → Int) (ed : Int) (sh : Int → Int) (x : Nat) : (zSR lag dead manner W P S ed sh x).length ≤ x := by
  induction x with
  | zero => exact Nat.le_refl _
  | succ x ih =>
    unfold zSR
    split
    · rw [zins_len]; omega
    · omega
def zco (P U : Nat → Int) : Nat → Int := fun j => P (U j).toNat
theorem zco_sh (P U : Nat → Int) {pos n : Nat} (x : Nat) : zco P (zsh U pos n (x : Int)) = zsh (zco P U) pos n (P x) := by
  funext j
  unfold zco zsh
  split
  · rfl
  · split
    · rfl
    · split <;> rfl
def zTU (lag W P : Nat → Int) (sh : Int → Int) (n : Nat) (T U : Nat → Int) (kn : Nat) : Prop := ∀ j, j < kn → ∃ u : Nat, u < n ∧ U j = (u : Int) ∧ T j = W u - lag (P u).toNat + sh (P u)
section CoreG
variable {lag dead manner setting W P S : Nat → Int} {n : Nat} {ov : Int} {t : zMT}
theorem zTU_b {sh : Int → Int} {T U : Nat → Int} {kn : Nat} (hv : zVal lag dead manner setting W P S n ov) (hsh : ∀ p, 0 ≤ sh p ∧ sh p ≤ 500) (h : zTU lag W P sh n T U kn) : zok3 T (zco P U) (zco S U) kn := by
  intro j hj
  obtain ⟨u, h1, h2, h3⟩ := h j hj
  obtain ⟨a, b, c⟩ := hv.2.1.2.1 u h1
  have h4 := (hv.1.1 (P u).toNat (by omega)).1
  have h5 := hsh (P u)
  unfold zco
  rw [h2, zcN, h3]
  exact ⟨by omega, b, c⟩
theorem M_tbehind (h : zCM t lag dead manner setting W P S n ov) (hv : zVal lag dead manner setting W P S n ov) (i x : Nat) (hi : i < 240) (hx : x < n) (hU : ∃ u : Nat, u < n ∧ zm_pulseOf t i = (u : Int)) (hT : -100 ≤ zm_timeOf t i ∧ zm_timeOf t i ≤ 30000) {a : Int} (ha : -100 ≤ a ∧ a ≤ 30000) :
    fX4_isTimeBehind t (i : Int) a (x : Int) = some (if zle (zm_timeOf t i, zco P (zm_pulseOf t) i, zco S (zm_pulseOf t) i) (a, P x, S x) then 0 else 1) := by
  obtain ⟨u, hu, hUi⟩ := hU
  have hn := hv.2.1.1
  obtain ⟨a1, b1, c1⟩ := hv.2.1.2.1 u hu
  obtain ⟨a2, b2, c2⟩ := hv.2.1.2.1 x hx
  have eP : zco P (zm_pulseOf t) i = P u := by unfold zco; rw [hUi]; rfl
  have eS : zco S (zm_pulseOf t) i = S u := by unfold zco; rw [hUi]; rfl
  rw [eP, eS, ← zif2 hT b1 c1 ha b2 c2]
  have g1 : zIn (i : Int) 240 := ⟨by omega, by omega⟩
  have g2 : zIn (u : Int) 241 := ⟨by omega, by omega⟩
  have g3 : zIn (x : Int) 241 := ⟨by omega, by omega⟩
  unfold fX4_isTimeBehind
  rw [h.2.2.2.2.2.1, h.2.2.2.2.2.2.2.1]
  simp only [zg_pos g1, zcN, zl, hUi, zg_pos g2, zg_pos g3]
theorem M_comes_loop (h : zCM t lag dead manner setting W P S n ov) (hv : zVal lag dead manner setting W P S n ov) {sh : Int → Int} (hsh : ∀ p, 0 ≤ sh p ∧ sh p ≤ 500) {x : Nat} (hx : x < n) {a : Int} (ha : -100 ≤ a ∧ a ≤ 30000) : ∀ (i zn : Nat) (T U : Nat → Int), i < zn → i < 240 → zTU lag W P sh n T U i → fX4_comesByTime_L5 zn t a (x : Int) (i : Int) T U = some (((zpos T (zco P U) (zco S U) (a, P x, S x) i : Nat) : Int), zsf T (zpos T (zco P U) (zco S U) (a, P x, S x) i) i, zsf U (zpos T (zco P U) (zco S U) (a, P x, S x) i) i) := by
  intro i
  induction i with
  | zero =>
    intro zn T U hz _ _
    obtain ⟨zn, rfl⟩ : ∃ k, zn = k + 1 := ⟨zn - 1, by omega⟩
    rw [fX4_comesByTime_L5_s]
    refine zyes (zLe_t (by omega) (by omega) (by omega)) ?_
    simp only [zpos, zsf_self]
  | succ i ih =>
    intro zn T U hz h240 hTU
    obtain ⟨zn, rfl⟩ : ∃ k, zn = k + 1 := ⟨zn - 1, by omega⟩
    rw [fX4_comesByTime_L5_s]
    refine zno (zLe_f (by omega) (by omega) (by omega)) ?_
    have e1 : ((i + 1 : Nat) : Int) - 1 = (i : Int) := by omega
    have e2 : ((i + 1 : Nat) : Int) + (-1) = (i : Int) := by omega
    rw [e1, e2]
    have hok := zTU_b hv hsh hTU
    obtain ⟨u, hu, hUi, -⟩ := hTU i (by omega)
    refine zb (M_tbehind (t := zk_M _ _ _ _ _ _ _ _ _ _ _ _ _ _ _ T U _ _ _ _ _ _ _ _ _ _ _) (show zCM _ lag dead manner setting W P S n ov from h) hv i x (by omega) hx ⟨u, hu, hUi⟩ (hok i (by omega)).1 ha) ?_
    show (if zE (if zle (T i, zco P U i, zco S U i) (a, P x, S x) then 0 else 1) 0 then _ else _) = _
    by_cases hc : zle (T i, zco P U i, zco S U i) (a, P x, S x)
    · rw [if_pos hc]
      refine zyes (zE_t rfl) ?_
      have e : zpos T (zco P U) (zco S U) (a, P x, S x) (i + 1) = i + 1 := by
        unfold zpos; rw [if_pos hc]
      rw [e]
      simp only [zsf_self]
    · rw [if_neg hc]
      refine zno (zE_f (by omega) (by omega) (by omega) (by omega) (by omega)) ?_
      have g : zIn (i : Int) 240 := ⟨by omega, by omega⟩
      have g2 : zIn ((i + 1 : Nat) : Int) 240 := ⟨by omega, by omega⟩
      refine zok g (zok g2 (zok g (zok g2 ?_)))
      have ec : ∀ j, j < i → (zu T ((i + 1 : Nat) : Int) (T i)) j = T j ∧ (zu U ((i + 1 : Nat) : Int) (U i)) j = U j := by
        intro j hj
        unfold zu
        simp only [zcN]
        rw [if_neg (by omega), if_neg (by omega)]
        exact ⟨rfl, rfl⟩
      have h2 := ih zn (zu T ((i + 1 : Nat) : Int) (T i)) (zu U ((i + 1 : Nat) : Int) (U i)) (by omega) (by omega) (fun j hj => by
        obtain ⟨e3, e4⟩ := ec j hj
        rw [e3, e4]
        exact hTU j (by omega))
      refine h2.trans ?_
      have e : zpos T (zco P U) (zco S U) (a, P x, S x) (i + 1) = zpos T (zco P U) (zco S U) (a, P x, S x) i := by
        show (if zle (T i, zco P U i, zco S U i) (a, P x, S x) then _ else _) = _
        rw [if_neg hc]
      have e3 : zpos (zu T ((i + 1 : Nat) : Int) (T i)) (zco P (zu U ((i + 1 : Nat) : Int) (U i))) (zco S (zu U ((i + 1 : Nat) : Int) (U i))) (a, P x, S x) i = zpos T (zco P U) (zco S U) (a, P x, S x) i :=
        zpos_congr (fun j hj => by
          obtain ⟨e3, e4⟩ := ec j hj
          unfold zco
          rw [e3, e4]
          exact ⟨rfl, rfl, rfl⟩)
      rw [e, e3]
      have hle := zpos_le T (zco P U) (zco S U) (a, P x, S x) i
      rw [zsf_step T hle, zsf_step U hle]
theorem M_comes (h : zCM t lag dead manner setting W P S n ov) (hv : zVal lag dead manner setting W P S n ov) {sh : Int → Int} (hsh : ∀ p, 0 ≤ sh p ∧ sh p ≤ 500) {x kn : Nat} (hx : x < n) {a : Int} (ha : -100 ≤ a ∧ a ≤ 30000) (hkn : kn < 240) (hk : zm_known t = (kn : Int)) (hTU : zTU lag W P sh n (zm_timeOf t) (zm_pulseOf t) kn) :
    fX4_comesByTime t a (x : Int) = some (((kn + 1 : Nat) : Int), zsh (zm_timeOf t) (zpos (zm_timeOf t) (zco P (zm_pulseOf t)) (zco S (zm_pulseOf t)) (a, P x, S x) kn) kn a, zsh (zm_pulseOf t) (zpos (zm_timeOf t) (zco P (zm_pulseOf t)) (zco S (zm_pulseOf t)) (a, P x, S x) kn) kn (x : Int)) := by
  unfold fX4_comesByTime
  rw [hk]
  have hle := zpos_le (zm_timeOf t) (zco P (zm_pulseOf t)) (zco S (zm_pulseOf t)) (a, P x, S x) kn
  refine zb (M_comes_loop h hv hsh hx ha kn zF _ _ (by unfold zF; omega) (by omega) hTU) ?_
  have g : zIn ((zpos (zm_timeOf t) (zco P (zm_pulseOf t)) (zco S (zm_pulseOf t)) (a, P x, S x) kn : Nat) : Int) 240 := ⟨by omega, by omega⟩
  refine zok g (zok g ?_)
  show some ((kn : Int) + 1, zu (zsf _ _ _) _ a, zu (zsf _ _ _) _ (x : Int)) = _
  rw [zsf_put _ a hle, zsf_put _ (x : Int) hle]
  rfl
def zshf (set by' p : Int) : Int := if zE (zand (zshr set p) 1) 1 then by' else 0
theorem zTU_sh {sh : Int → Int} {T U : Nat → Int} {kn pos : Nat} {x : Nat} {a : Int} (hx : x < n) (ha : a = W x - lag (P x).toNat + sh (P x)) (hpos : pos ≤ kn) (h : zTU lag W P sh n T U kn) : zTU lag W P sh n (zsh T pos kn a) (zsh U pos kn (x : Int)) (kn + 1) := by
  intro j hj
  unfold zsh
  by_cases h1 : j < pos
  · rw [if_pos h1, if_pos h1]; exact h j (by omega)
  · rw [if_neg h1, if_neg h1]
    by_cases h2 : j = pos
    · rw [if_pos h2, if_pos h2]; exact ⟨x, hx, rfl, ha⟩
    · rw [if_neg h2, if_neg h2, if_pos (by omega), if_pos (by omega)]; exact h (j - 1) (by omega)
theorem M_times_loop (h : zCM t lag dead manner setting W P S n ov) (hv : zVal lag dead manner setting W P S n ov) {set by' : Int} (hby : 0 ≤ by' ∧ by' ≤ 500) {m : Nat} (hm : m ≤ n) {L E : Nat → Int} (hL : ∀ x, x < m → L x = if zlv W P dead manner x = true then 1 else 0) : ∀ (k i zn kn : Nat) (T U : Nat → Int), i + k = m → k < zn → kn ≤ i →
    zTU lag W P (zshf set by') n T U kn → zrl T (zco P U) (zco S U) kn = zSR lag dead manner W P S (zhor (setting 0) W n ov - zml lag 6) (zshf set by') i →
    ∃ (kn' : Nat) (T' U' : Nat → Int), fX4_findGroups_L17 zn t set by' (m : Int) L E (i : Int) (kn : Int) T U = some ((kn' : Int), T', U') ∧ kn' ≤ m ∧ zTU lag W P (zshf set by') n T' U' kn' ∧ zrl T' (zco P U') (zco S U') kn' = zSR lag dead manner W P S (zhor (setting 0) W n ov - zml lag 6) (zshf set by') m := by
  obtain ⟨rfl, rfl, rfl, rfl, h5, rfl, rfl, rfl, rfl⟩ := h
  have h : zCM t (zm_lag t) (zm_dead t) (zm_manner t) (zm_setting t) (zm_momentOf t) (zm_planeOf t) (zm_stripOf t) n (zm_isOver t) := ⟨rfl, rfl, rfl, rfl, h5, rfl, rfl, rfl, rfl⟩
  have hn := hv.2.1.1
  have hhb := zhor_b hv
  have hmb := zml_b (fun k hk => (hv.1.1 k hk).1) 6 (by omega)
  have hsh : ∀ p, 0 ≤ zshf set by' p ∧ zshf set by' p ≤ 500 := by intro p; unfold zshf; split <;> omega
  intro k
  induction k with
  | zero =>
    intro i zn kn T U hik hz hki hTU hrl
    obtain ⟨zn, rfl⟩ : ∃ q, zn = q + 1 := ⟨zn - 1, by omega⟩
    have : i = m := by omega
    subst this
    rw [fX4_findGroups_L17_s]
    exact ⟨kn, T, U, zyes (zLe_t (by omega) (by omega) (by omega)) rfl, hki, hTU, hrl⟩
  | succ k ih =>
    intro i zn kn T U hik hz hki hTU hrl
    obtain ⟨zn, rfl⟩ : ∃ q, zn = q + 1 := ⟨zn - 1, by omega⟩
    obtain ⟨hw, hp, hs⟩ := hv.2.1.2.1 i (by omega)
    have hlg := (hv.1.1 ((zm_planeOf t) i).toNat (by omega)).1
    have g1 : zIn (i : Int) 241 := ⟨by omega, by omega⟩
    have g2 : zIn (i : Int) 240 := ⟨by omega, by omega⟩
    have g3 : zIn ((zm_planeOf t) i) 6 := ⟨by omega, by omega⟩
    rw [fX4_findGroups_L17_s]
    simp only [zcN]
    have hLi := hL i (by omega)
    by_cases hlive : zlv (zm_momentOf t) (zm_planeOf t) (zm_dead t) (zm_manner t) i = true
    · rw [if_pos hlive] at hLi
      by_cases het : (zm_momentOf t) i - (zm_lag t) ((zm_planeOf t) i).toNat < zhor ((zm_setting t) 0) (zm_momentOf t) n (zm_isOver t) - zml (zm_lag t) 6
      · have hsr : zSR (zm_lag t) (zm_dead t) (zm_manner t) (zm_momentOf t) (zm_planeOf t) (zm_stripOf t) (zhor ((zm_setting t) 0) (zm_momentOf t) n (zm_isOver t) - zml (zm_lag t) 6) (zshf set by') (i + 1) = zins ((zm_momentOf t) i - (zm_lag t) ((zm_planeOf t) i).toNat + zshf set by' ((zm_planeOf t) i), (zm_planeOf t) i, (zm_stripOf t) i) (zSR (zm_lag t) (zm_dead t) (zm_manner t) (zm_momentOf t) (zm_planeOf t) (zm_stripOf t) (zhor ((zm_setting t) 0) (zm_momentOf t) n (zm_isOver t) - zml (zm_lag t) 6) (zshf set by') i) := by
          show ite _ _ _ = _
          rw [if_pos ⟨hlive, het⟩]
        have hsd := zSR_sorted (zm_lag t) (zm_dead t) (zm_manner t) (zm_momentOf t) (zm_planeOf t) (zm_stripOf t) (zhor ((zm_setting t) 0) (zm_momentOf t) n (zm_isOver t) - zml (zm_lag t) 6) (zshf set by') i
        rw [← hrl] at hsd hsr
        rw [← zrl_ins hsd] at hsr
        have hle := zpos_le T (zco (zm_planeOf t) U) (zco (zm_stripOf t) U) ((zm_momentOf t) i - (zm_lag t) ((zm_planeOf t) i).toNat + zshf set by' ((zm_planeOf t) i), (zm_planeOf t) i, (zm_stripOf t) i) kn
        have hshi := hsh ((zm_planeOf t) i)
        obtain ⟨kn', T', U', c1, c2, c3, c4⟩ := ih (i + 1) zn (kn + 1) (zsh T (zpos T (zco (zm_planeOf t) U) (zco (zm_stripOf t) U) ((zm_momentOf t) i - (zm_lag t) ((zm_planeOf t) i).toNat + zshf set by' ((zm_planeOf t) i), (zm_planeOf t) i, (zm_stripOf t) i) kn) kn ((zm_momentOf t) i - (zm_lag t) ((zm_planeOf t) i).toNat + zshf set by' ((zm_planeOf t) i))) (zsh U (zpos T (zco (zm_planeOf t) U) (zco (zm_stripOf t) U) ((zm_momentOf t) i - (zm_lag t) ((zm_planeOf t) i).toNat + zshf set by' ((zm_planeOf t) i), (zm_planeOf t) i, (zm_stripOf t) i) kn) kn (i : Int)) (by omega) (by omega) (by omega) (zTU_sh (by omega) rfl hle hTU) (by
          rw [zco_sh, zco_sh]; exact hsr.symm)
        refine ⟨kn', T', U', ?_, c2, c3, c4⟩
        refine zno (zLe_f (by omega) (by omega) (by omega)) (zok g1 (zok g1 (zok g3 (zlet (zok g2 ?_)))))
        refine zb (a := (((kn + 1 : Nat) : Int), zsh T (zpos T (zco (zm_planeOf t) U) (zco (zm_stripOf t) U) ((zm_momentOf t) i - (zm_lag t) ((zm_planeOf t) i).toNat + zshf set by' ((zm_planeOf t) i), (zm_planeOf t) i, (zm_stripOf t) i) kn) kn ((zm_momentOf t) i - (zm_lag t) ((zm_planeOf t) i).toNat + zshf set by' ((zm_planeOf t) i)), zsh U (zpos T (zco (zm_planeOf t) U) (zco (zm_stripOf t) U) ((zm_momentOf t) i - (zm_lag t) ((zm_planeOf t) i).toNat + zshf set by' ((zm_planeOf t) i), (zm_planeOf t) i, (zm_stripOf t) i) kn) kn (i : Int))) ?_ c1
        refine zno (by rw [hLi]; exact zE_f (by omega) (by omega) (by omega) (by omega) (by omega)) ?_
        refine zb (M_edge (show zCM _ (zm_lag t) (zm_dead t) (zm_manner t) (zm_setting t) (zm_momentOf t) (zm_planeOf t) (zm_stripOf t) n (zm_isOver t) from h) hv) ?_
        refine zno (zLe_f (by omega) (by omega) (by omega)) (zok g1 ?_)
        refine zb (a := zshf set by' ((zm_planeOf t) i)) (by unfold zshf; split <;> rfl) ?_
        refine zb (M_comes (t := zk_M _ _ _ _ _ _ _ _ _ _ _ _ _ _ (kn : Int) T U _ _ _ _ _ _ _ _ _ _ _) (show zCM _ (zm_lag t) (zm_dead t) (zm_manner t) (zm_setting t) (zm_momentOf t) (zm_planeOf t) (zm_stripOf t) n (zm_isOver t) from h) hv hsh (x := i) (kn := kn) (by omega) (by omega) (by omega) rfl hTU) ?_
        rfl
      · obtain ⟨kn', T', U', c1, c2, c3, c4⟩ := ih (i + 1) zn kn T U (by omega) (by omega) (by omega) hTU (by
          rw [hrl]
          show _ = ite _ _ _
          rw [if_neg (fun z => het z.2)])
        refine ⟨kn', T', U', ?_, c2, c3, c4⟩
        refine zno (zLe_f (by omega) (by omega) (by omega)) (zok g1 (zok g1 (zok g3 (zlet (zok g2 ?_)))))
        refine zb (a := ((kn : Int), T, U)) ?_ c1
        refine zno (by rw [hLi]; exact zE_f (by omega) (by omega) (by omega) (by omega) (by omega)) ?_
        refine zb (M_edge (show zCM _ (zm_lag t) (zm_dead t) (zm_manner t) (zm_setting t) (zm_momentOf t) (zm_planeOf t) (zm_stripOf t) n (zm_isOver t) from h) hv) ?_
        exact zyes (zLe_t (by omega) (by omega) (by omega)) rfl
    · rw [if_neg hlive] at hLi
      obtain ⟨kn', T', U', c1, c2, c3, c4⟩ := ih (i + 1) zn kn T U (by omega) (by omega) (by omega) hTU (by
        rw [hrl]
        show _ = ite _ _ _
        rw [if_neg (fun z => hlive z.1)])
      refine ⟨kn', T', U', ?_, c2, c3, c4⟩
      refine zno (zLe_f (by omega) (by omega) (by omega)) (zok g1 (zok g1 (zok g3 (zlet (zok g2 ?_)))))
      refine zb (a := ((kn : Int), T, U)) ?_ c1
      exact zyes (by rw [hLi]) rfl
end CoreG
