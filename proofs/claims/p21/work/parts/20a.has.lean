/-! ===== PURE: an index that is looked at before it is used; within, isPlane ===== -/
theorem W3t {p a b : Int} (hp : zR p) (h : a ≤ p ∧ p ≤ b) (ha : -2147483648 ≤ a) (hb : b < 2147483648) : fX3_isWithin p a b = some 1 := by
  obtain ⟨h1, h2⟩ := hp
  unfold fX3_isWithin
  exact zno (zLt_f h.1 ha h2) (zno (zLt_f h.2 h1 hb) rfl)
theorem W3f {p a b : Int} (hp : zR p) (h : ¬ (a ≤ p ∧ p ≤ b)) (ha : -2147483648 ≤ a ∧ a < 2147483648) (hb : -2147483648 ≤ b ∧ b < 2147483648) : fX3_isWithin p a b = some 0 := by
  obtain ⟨h1, h2⟩ := hp
  unfold fX3_isWithin
  by_cases c : p < a
  · exact zyes (zLt_t c h1 ha.2) rfl
  · exact zno (zLt_f (by omega) ha.1 h2) (zyes (zLt_t (by omega) hb.1 h2) rfl)
theorem W4t {p a b : Int} (hp : zR p) (h : a ≤ p ∧ p ≤ b) (ha : -2147483648 ≤ a) (hb : b < 2147483648) : fX4_within p a b = some 1 := W3t hp h ha hb
theorem W4f {p a b : Int} (hp : zR p) (h : ¬ (a ≤ p ∧ p ≤ b)) (ha : -2147483648 ≤ a ∧ a < 2147483648) (hb : -2147483648 ≤ b ∧ b < 2147483648) : fX4_within p a b = some 0 := W3f hp h ha hb
theorem P3t {p : Int} (hp : zR p) (h : 0 ≤ p ∧ p ≤ 5) : fX3_isPlane p = some 1 := zb (W3t hp h (by omega) (by omega)) (zok (Or.inr rfl) rfl)
theorem P3f {p : Int} (hp : zR p) (h : ¬ (0 ≤ p ∧ p ≤ 5)) : fX3_isPlane p = some 0 := zb (W3f hp h (by omega) (by omega)) (zok (Or.inl rfl) rfl)
theorem S3t {p : Int} (hp : zR p) (h : 0 ≤ p ∧ p ≤ 15) : fX3_isStrip p = some 1 := zb (W3t hp h (by omega) (by omega)) (zok (Or.inr rfl) rfl)
theorem S3f {p : Int} (hp : zR p) (h : ¬ (0 ≤ p ∧ p ≤ 15)) : fX3_isStrip p = some 0 := zb (W3f hp h (by omega) (by omega)) (zok (Or.inl rfl) rfl)
theorem P4t {p : Int} (hp : zR p) (h : 0 ≤ p ∧ p ≤ 5) : fX4_isPlane p = some 1 := zb (W4t hp h (by omega) (by omega)) (zok (Or.inr rfl) rfl)
theorem P4f {p : Int} (hp : zR p) (h : ¬ (0 ≤ p ∧ p ≤ 5)) : fX4_isPlane p = some 0 := zb (W4f hp h (by omega) (by omega)) (zok (Or.inl rfl) rfl)
theorem z10 : ¬ zE 1 0 := zE_f (by omega) (by omega) (by omega) (by omega) (by omega)
theorem z00 : zE 0 0 := zE_t rfl
theorem R_has {ρ : zRowT} {n i : Nat} (hs : zr_size ρ = (n : Int)) (hn : n ≤ 240) (hi : i < n) : fX2_has ρ (i : Int) = some 1 := by
  unfold fX2_has
  rw [hs]
  exact zno (zLt_f (by omega) (by omega) (by omega)) (zno (zLe_f (by omega) (by omega) (by omega)) rfl)
theorem R_hasnt {ρ : zRowT} {n : Nat} {i : Int} (hs : zr_size ρ = (n : Int)) (hn : n ≤ 240) (hi : i < 0 ∨ (n : Int) ≤ i) (h1 : -2147483648 ≤ i) (h2 : i < 2147483648) : fX2_has ρ i = some 0 := by
  unfold fX2_has
  rw [hs]
  rcases hi with c | c
  · exact zyes (zLt_t c h1 (by omega)) rfl
  · exact zno (zLt_f (by omega) (by omega) (by omega)) (zyes (zLe_t c (by omega) h2) rfl)
theorem zhas {α : Type} {ρ : zRowT} {n i : Nat} {A B r : Option α} (hs : zr_size ρ = (n : Int)) (hn : n ≤ 240) (hi : i < n) (k : B = r) : Option.bind (fX2_has ρ (i : Int)) (fun q => if zE q 0 then A else B) = r := zb (R_has hs hn hi) (zno z10 k)
theorem R_when {ρ : zRowT} {n i : Nat} (hs : zr_size ρ = (n : Int)) (hn : n ≤ 240) (hi : i < n) : fX2_whenAt ρ (i : Int) = some (zr_when ρ i) := by
  unfold fX2_whenAt
  refine zhas hs hn hi (zok ⟨by omega, by omega⟩ ?_)
  rw [zcN]
