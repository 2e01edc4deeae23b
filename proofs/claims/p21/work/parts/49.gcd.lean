/-! ===== PURE: the greatest common divisor, both ways ===== -/
theorem gX_s {x y i zn : Nat} (hx : x < 1000000000) (hy : y < 1000000000) (h0 : 0 < y) (hi : i < 100) : fX3_greatestDivisor_L3 (zn + 1) (x : Int) (y : Int) (i : Int) = fX3_greatestDivisor_L3 zn (y : Int) ((x % y : Nat) : Int) ((i + 1 : Nat) : Int) := by
  rw [fX3_greatestDivisor_L3_s]
  refine zno (zLe_f (by omega) (by omega) (by omega)) (zno (by rw [zlcmp_pos h0 hy]; exact zLe_f (by omega) (by omega) (by omega)) (zok (fun z => by have := (zLE_0 hy).mp z; omega) (zlet ?_)))
  rw [zlrem_nat hx hy, zc1]
theorem gX_z {x i zn : Nat} (hi : i < 1000) : fX3_greatestDivisor_L3 (zn + 1) (x : Int) 0 (i : Int) = some (x : Int) := by
  rw [fX3_greatestDivisor_L3_s]
  by_cases c : 100 ≤ i
  · exact zyes (zLe_t (by omega) (by omega) (by omega)) rfl
  · exact zno (zLe_f (by omega) (by omega) (by omega)) (zyes (by rw [zlcmp_0]; exact zLe_t (by omega) (by omega) (by omega)) rfl)
theorem gM_s {x y zn : Nat} {a b c : Int} (hx : x < 1000000000) (hy : y < 1000000000) (h0 : 0 < y) : fX4_inLeastTerms_L6 (zn + 1) a b c (x : Int) (y : Int) = fX4_inLeastTerms_L6 zn a b c (y : Int) ((x % y : Nat) : Int) := by
  rw [fX4_inLeastTerms_L6_s]
  refine zno (by rw [zlcmp_pos h0 hy]; exact z10) (zok (fun z => by have := (zLE_0 hy).mp z; omega) (zlet ?_))
  rw [zlrem_nat hx hy]
theorem gM_z {x zn : Nat} {a b c : Int} : fX4_inLeastTerms_L6 (zn + 1) a b c (x : Int) 0 = some (x : Int) := by
  rw [fX4_inLeastTerms_L6_s]
  exact zyes (by rw [zlcmp_0]) rfl
theorem zgcd_step (x y : Nat) : Nat.gcd x y = Nat.gcd y (x % y) := by
  rw [Nat.gcd_comm x y, Nat.gcd_rec y x, Nat.gcd_comm]
theorem zgcd_both {a b c : Int} : ∀ (m x y i zn zn' : Nat), y < 2 ^ m → x < 1000000000 → y < 1000000000 → i + 2 * m + 1 ≤ 100 → 2 * m + 1 < zn → 2 * m + 1 < zn' → fX3_greatestDivisor_L3 zn (x : Int) (y : Int) (i : Int) = some ((Nat.gcd x y : Nat) : Int) ∧ fX4_inLeastTerms_L6 zn' a b c (x : Int) (y : Int) = some ((Nat.gcd x y : Nat) : Int) := by
  intro m
  induction m with
  | zero =>
    intro x y i zn zn' hy hx hyb hi hz hz'
    obtain ⟨zn, rfl⟩ : ∃ q, zn = q + 1 := ⟨zn - 1, by omega⟩
    obtain ⟨zn', rfl⟩ : ∃ q, zn' = q + 1 := ⟨zn' - 1, by omega⟩
    have : y = 0 := by omega
    subst this
    rw [Nat.gcd_zero_right]
    exact ⟨gX_z (by omega), gM_z⟩
  | succ m ih =>
    intro x y i zn zn' hy hx hyb hi hz hz'
    obtain ⟨zn, rfl⟩ : ∃ q, zn = q + 2 := ⟨zn - 2, by omega⟩
    obtain ⟨zn', rfl⟩ : ∃ q, zn' = q + 2 := ⟨zn' - 2, by omega⟩
    by_cases c0 : y = 0
    · subst c0
      rw [Nat.gcd_zero_right]
      exact ⟨gX_z (by omega), gM_z⟩
    · have hr := Nat.mod_lt x (show 0 < y by omega)
      rw [zgcd_step x y, gX_s (zn := zn + 1) hx hyb (by omega) (by omega), gM_s (zn := zn' + 1) hx hyb (by omega)]
      generalize hre : x % y = r at hr ⊢
      by_cases c1 : r = 0
      · subst c1
        rw [Nat.gcd_zero_right]
        exact ⟨gX_z (by omega), gM_z⟩
      · have hr2 := Nat.mod_lt y (show 0 < r by omega)
        have hd := Nat.div_add_mod y r
        have hq : 0 < y / r := Nat.div_pos (by omega) (by omega)
        have hqr : r ≤ r * (y / r) := Nat.le_mul_of_pos_right r hq
        rw [zgcd_step y r, gX_s (zn := zn) hyb (by omega) (by omega) (by omega), gM_s (zn := zn') hyb (by omega) (by omega)]
        have hp : 2 ^ (m + 1) = 2 * 2 ^ m := by rw [Nat.pow_succ]; omega
        exact ih r (y % r) (i + 1 + 1) zn zn' (by omega) (by omega) (by omega) (by omega) (by omega) (by omega)
