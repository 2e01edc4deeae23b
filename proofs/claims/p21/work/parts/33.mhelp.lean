/-! ===== PURE: what the reference asks of a group ===== -/
theorem zor6 : ∀ x : Fin 64, ∀ p : Fin 6, (0 ≤ zor ((x.val : Nat) : Int) (zshl 1 ((p.val : Nat) : Int)) ∧ zor ((x.val : Nat) : Int) (zshl 1 ((p.val : Nat) : Int)) ≤ 63) ∧ zor ((x.val : Nat) : Int) 0 = ((x.val : Nat) : Int) := by decide +kernel
theorem zor_b {x p : Int} (hx : 0 ≤ x ∧ x ≤ 63) (hp : 0 ≤ p ∧ p ≤ 5) : 0 ≤ zor x (zshl 1 p) ∧ zor x (zshl 1 p) ≤ 63 := by
  obtain ⟨a, rfl⟩ := Int.eq_ofNat_of_zero_le hx.1
  obtain ⟨b, rfl⟩ := Int.eq_ofNat_of_zero_le hp.1
  exact (zor6 ⟨a, by omega⟩ ⟨b, by omega⟩).1
theorem zor_0 {x : Int} (hx : 0 ≤ x ∧ x ≤ 63) : zor x 0 = x := by
  obtain ⟨a, rfl⟩ := Int.eq_ofNat_of_zero_le hx.1
  exact (zor6 ⟨a, by omega⟩ ⟨0, by omega⟩).2
theorem zpo_b {P : Nat → Int} {f : Nat} : ∀ k, (∀ i, f ≤ i → i < f + k → 0 ≤ P i ∧ P i ≤ 5) → 0 ≤ zpo P f k ∧ zpo P f k ≤ 63 := by
  intro k
  induction k with
  | zero => intro _; exact ⟨Int.le_refl _, by show (0 : Int) ≤ 63; omega⟩
  | succ k ih =>
    intro h
    exact zor_b (ih (fun i h1 h2 => h i h1 (by omega))) (h (f + k) (by omega) (by omega))
def zcl (f e i : Nat) : Nat := if i ≤ f then 0 else if i ≤ e then i - f else e - f
theorem zcl_step {f e i : Nat} (h : f < e) : zcl f e (i + 1) = if f ≤ i ∧ i < e then zcl f e i + 1 else zcl f e i := by
  unfold zcl
  by_cases c1 : i < f
  · rw [if_pos (by omega), if_neg (by omega), if_pos (by omega)]
  · by_cases c2 : i < e
    · have e1 : (if i + 1 ≤ f then 0 else if i + 1 ≤ e then i + 1 - f else e - f) = i + 1 - f := by rw [if_neg (by omega), if_pos (by omega)]
      have e2 : (if i ≤ f then 0 else if i ≤ e then i - f else e - f) = i - f := by
        by_cases c3 : i ≤ f
        · rw [if_pos c3]; omega
        · rw [if_neg c3, if_pos (by omega)]
      rw [e1, e2, if_pos (by omega)]; omega
    · have e1 : (if i + 1 ≤ f then 0 else if i + 1 ≤ e then i + 1 - f else e - f) = e - f := by rw [if_neg (by omega), if_neg (by omega)]
      have e2 : (if i ≤ f then 0 else if i ≤ e then i - f else e - f) = e - f := by
        rw [if_neg (by omega)]
        by_cases c3 : i ≤ e
        · rw [if_pos c3]; omega
        · rw [if_neg c3]
      rw [e1, e2, if_neg (by omega)]
theorem zcl_end {f e n : Nat} (h1 : f < e) (h2 : e ≤ n) : zcl f e n = e - f := by
  unfold zcl
  rw [if_neg (by omega)]
  by_cases c : n ≤ e
  · rw [if_pos c]; omega
  · rw [if_neg c]
section MHelp
variable {t : zMT} {G U P : Nat → Int} {kn q f e : Nat}
theorem M_manyIn_loop (hk : zm_known t = (kn : Int)) (hG : zm_groupOf t = G) (hkn : kn ≤ 240) (hq : q < 240) (hgr : zGr G kn q f e) (hb : ∀ y, y < kn → 0 ≤ G y ∧ G y ≤ 240) : ∀ (k i zn : Nat), i + k = kn → k < zn → fX4_manyIn_L4 zn t (q : Int) ((zcl f e i : Nat) : Int) (i : Int) = some ((e - f : Nat) : Int) := by
  intro k
  induction k with
  | zero =>
    intro i zn hik hz
    obtain ⟨zn, rfl⟩ : ∃ q, zn = q + 1 := ⟨zn - 1, by omega⟩
    rw [fX4_manyIn_L4_s, hk]
    refine zyes (zLe_t (by omega) (by omega) (by omega)) ?_
    rw [zcl_end hgr.1 (by have := hgr.2.1; omega)]
  | succ k ih =>
    intro i zn hik hz
    obtain ⟨zn, rfl⟩ : ∃ q, zn = q + 1 := ⟨zn - 1, by omega⟩
    rw [fX4_manyIn_L4_s, hk, hG]
    have ih := ih (i + 1) zn (by omega) (by omega)
    have hst := zcl_step (i := i) hgr.1
    have hm := hgr.2.2 i (by omega)
    have hbi := hb i (by omega)
    refine zno (zLe_f (by omega) (by omega) (by omega)) (zok ⟨by omega, by omega⟩ ?_)
    rw [zcN, zc1]
    by_cases c : G i = (q : Int)
    · rw [if_pos (hm.mp c)] at hst
      refine zb (zyes (zE_t c) rfl) (zlet ?_)
      rw [zc1, ← hst]; exact ih
    · rw [if_neg (fun z => c (hm.mpr z))] at hst
      refine zb (zno (zE_f c (by omega) (by omega) (by omega) (by omega)) rfl) (zlet ?_)
      rw [Int.add_zero, ← hst]; exact ih
theorem M_manyIn (hk : zm_known t = (kn : Int)) (hG : zm_groupOf t = G) (hkn : kn ≤ 240) (hq : q < 240) (hgr : zGr G kn q f e) (hb : ∀ y, y < kn → 0 ≤ G y ∧ G y ≤ 240) : fX4_manyIn t (q : Int) = some ((e - f : Nat) : Int) := by
  unfold fX4_manyIn
  have := M_manyIn_loop hk hG hkn hq hgr hb kn 0 zF (by omega) (by unfold zF; omega)
  have e0 : zcl f e 0 = 0 := if_pos (Nat.zero_le _)
  rw [e0] at this
  exact zb this rfl
theorem M_setOf_loop (hk : zm_known t = (kn : Int)) (hG : zm_groupOf t = G) (hU : zm_pulseOf t = U) (hP : zm_planeOf t = P) (hkn : kn ≤ 240) (hq : q < 240) (hgr : zGr G kn q f e) (hb : ∀ y, y < kn → 0 ≤ G y ∧ G y ≤ 240) {lp : Nat → Int} (hlp : ∀ y, y < kn → ∃ u : Nat, u < 241 ∧ U y = (u : Int) ∧ lp y = P u) (hpb : ∀ y, y < kn → 0 ≤ lp y ∧ lp y ≤ 5) : ∀ (k i zn : Nat), i + k = kn → k < zn → fX4_setOf_L4 zn t (q : Int) (zpo lp f (zcl f e i)) (i : Int) = some (zpo lp f (e - f)) := by
  intro k
  induction k with
  | zero =>
    intro i zn hik hz
    obtain ⟨zn, rfl⟩ : ∃ q, zn = q + 1 := ⟨zn - 1, by omega⟩
    rw [fX4_setOf_L4_s, hk]
    refine zyes (zLe_t (by omega) (by omega) (by omega)) ?_
    rw [zcl_end hgr.1 (by have := hgr.2.1; omega)]
  | succ k ih =>
    intro i zn hik hz
    obtain ⟨zn, rfl⟩ : ∃ q, zn = q + 1 := ⟨zn - 1, by omega⟩
    rw [fX4_setOf_L4_s, hk, hG, hU, hP]
    have ih := ih (i + 1) zn (by omega) (by omega)
    have hst := zcl_step (i := i) hgr.1
    have hm := hgr.2.2 i (by omega)
    have hbi := hb i (by omega)
    obtain ⟨u, u1, u2, u3⟩ := hlp i (by omega)
    have he := hgr.2.1
    refine zno (zLe_f (by omega) (by omega) (by omega)) (zok ⟨by omega, by omega⟩ ?_)
    rw [zcN, zc1]
    by_cases c : G i = (q : Int)
    · have hr := hm.mp c
      rw [if_pos hr] at hst
      refine zb (zyes (zE_t c) (zok ⟨by omega, by omega⟩ (zok ⟨by omega, by omega⟩ rfl))) (zlet ?_)
      rw [u2, zcN, ← u3]
      have ec : f + zcl f e i = i := by
        unfold zcl
        by_cases c3 : i ≤ f
        · rw [if_pos c3]; omega
        · rw [if_neg c3, if_pos (by omega)]; omega
      have e2 : zor (zpo lp f (zcl f e i)) (zshl 1 (lp i)) = zpo lp f (zcl f e (i + 1)) := by
        rw [hst]
        show _ = zor _ (zshl 1 (lp (f + zcl f e i)))
        rw [ec]
      rw [e2]; exact ih
    · rw [if_neg (fun z => c (hm.mpr z))] at hst
      refine zb (zno (zE_f c (by omega) (by omega) (by omega) (by omega)) rfl) (zlet ?_)
      have hcl : zcl f e i ≤ e - f := by
        unfold zcl
        by_cases c3 : i ≤ f
        · rw [if_pos c3]; omega
        · rw [if_neg c3]
          by_cases c4 : i ≤ e
          · rw [if_pos c4]; omega
          · rw [if_neg c4]; omega
      rw [zor_0 (zpo_b _ (fun y h1 h2 => hpb y (by omega))), ← hst]; exact ih
theorem M_setOf (hk : zm_known t = (kn : Int)) (hG : zm_groupOf t = G) (hU : zm_pulseOf t = U) (hP : zm_planeOf t = P) (hkn : kn ≤ 240) (hq : q < 240) (hgr : zGr G kn q f e) (hb : ∀ y, y < kn → 0 ≤ G y ∧ G y ≤ 240) {lp : Nat → Int} (hlp : ∀ y, y < kn → ∃ u : Nat, u < 241 ∧ U y = (u : Int) ∧ lp y = P u) (hpb : ∀ y, y < kn → 0 ≤ lp y ∧ lp y ≤ 5) : fX4_setOf t (q : Int) = some (zpo lp f (e - f)) := by
  unfold fX4_setOf
  have := M_setOf_loop hk hG hU hP hkn hq hgr hb hlp hpb kn 0 zF (by omega) (by unfold zF; omega)
  have e0 : zcl f e 0 = 0 := if_pos (Nat.zero_le _)
  rw [e0] at this
  exact zb (a := zpo lp f (e - f)) this rfl
theorem M_member_loop (hk : zm_known t = (kn : Int)) (hG : zm_groupOf t = G) (hU : zm_pulseOf t = U) (hP : zm_planeOf t = P) (hkn : kn ≤ 240) (hq : q < 240) (hgr : zGr G kn q f e) (hb : ∀ y, y < kn → 0 ≤ G y ∧ G y ≤ 240) {lp : Nat → Int} (hlp : ∀ y, y < kn → ∃ u : Nat, u < 241 ∧ U y = (u : Int) ∧ lp y = P u) (hpb : ∀ y, y < kn → 0 ≤ lp y ∧ lp y ≤ 5) {j : Int} (hj : 0 ≤ j ∧ j ≤ 5) : ∀ (k i zn : Nat), i + k = e → k + 1 < zn → f ≤ i → fX4_memberIn_L7 zn t (q : Int) j (i : Int) = some (zix (-9) (zfo lp j k i)) := by
  have he := hgr.2.1
  intro k
  induction k with
  | zero =>
    intro i zn hik hz hfi
    obtain ⟨zn, rfl⟩ : ∃ q, zn = q + 1 := ⟨zn - 1, by omega⟩
    rw [fX4_memberIn_L7_s, hk, hG]
    by_cases c : kn ≤ i
    · exact zyes (zLe_t (by omega) (by omega) (by omega)) rfl
    · have hbi := hb i (by omega)
      have hm := hgr.2.2 i (by omega)
      refine zno (zLe_f (by omega) (by omega) (by omega)) (zok ⟨by omega, by omega⟩ ?_)
      refine zno (zE_f (by rw [zcN]; exact fun z => by have := hm.mp z; omega) (by rw [zcN]; omega) (by rw [zcN]; omega) (by omega) (by omega)) rfl
  | succ k ih =>
    intro i zn hik hz hfi
    obtain ⟨zn, rfl⟩ : ∃ q, zn = q + 1 := ⟨zn - 1, by omega⟩
    rw [fX4_memberIn_L7_s, hk, hG, hU, hP]
    have ih := ih (i + 1) zn (by omega) (by omega) (by omega)
    have hm := (hgr.2.2 i (by omega)).mpr ⟨hfi, by omega⟩
    obtain ⟨u, u1, u2, u3⟩ := hlp i (by omega)
    have hp := hpb i (by omega)
    refine zno (zLe_f (by omega) (by omega) (by omega)) (zok ⟨by omega, by omega⟩ ?_)
    rw [zcN]
    refine zyes (zE_t hm) (zok ⟨by omega, by omega⟩ ?_)
    rw [u2]
    refine zok ⟨by omega, by omega⟩ ?_
    rw [zcN, ← u3, zc1]
    unfold zfo
    by_cases c : lp i = j
    · rw [if_pos c]; exact zyes (zE_t c) rfl
    · rw [if_neg c]; exact zno (zE_f c (by omega) (by omega) (by omega) (by omega)) ih
theorem M_memberIn {Fa : Nat → Int} (hk : zm_known t = (kn : Int)) (hG : zm_groupOf t = G) (hU : zm_pulseOf t = U) (hP : zm_planeOf t = P) (hF : zm_firstOf t = Fa) (hFq : Fa q = (f : Int)) (hkn : kn ≤ 240) (hq : q < 240) (hgr : zGr G kn q f e) (hb : ∀ y, y < kn → 0 ≤ G y ∧ G y ≤ 240) {lp : Nat → Int} (hlp : ∀ y, y < kn → ∃ u : Nat, u < 241 ∧ U y = (u : Int) ∧ lp y = P u) (hpb : ∀ y, y < kn → 0 ≤ lp y ∧ lp y ≤ 5) {j : Int} (hj : 0 ≤ j ∧ j ≤ 5) : fX4_memberIn t (q : Int) j = some (zix (-9) (zfo lp j (e - f) f)) := by
  have h1 := hgr.1
  have h2 := hgr.2.1
  unfold fX4_memberIn
  refine zok ⟨by omega, by omega⟩ (zlet ?_)
  rw [hF, zcN, hFq]
  exact M_member_loop hk hG hU hP hkn hq hgr hb hlp hpb hj (e - f) f zF (by omega) (by unfold zF; omega) (Nat.le_refl _)
end MHelp
