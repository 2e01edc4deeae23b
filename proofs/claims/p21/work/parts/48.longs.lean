/-! ===== PURE: long numbers that are small ===== -/
theorem zL_get {x : Int} (h : 0 ≤ x ∧ x < 1000000000000) : (zL x).toInt = x := by
  unfold zL
  exact Int64.toInt_ofInt_of_le (by omega) (by omega)
theorem zbm {x : Int} (h : 0 ≤ x ∧ x < 1000000000000) : Int.bmod x (2 ^ 64) = x := by
  refine Int.bmod_eq_of_le ?_ ?_ <;> omega
theorem zldiv_nat {x y : Nat} (hx : x < 1000000000) (hy : y < 1000000000) : zldiv (x : Int) (y : Int) = ((x / y : Nat) : Int) := by
  unfold zldiv
  have h1 : x / y ≤ x := Nat.div_le_self x y
  rw [Int64.toInt_div, zL_get (by omega), zL_get (by omega), ← Int.ofNat_tdiv]
  obtain ⟨w, hw⟩ : ∃ w, w = x / y := ⟨_, rfl⟩
  rw [← hw] at h1 ⊢
  exact zbm ⟨by omega, by omega⟩
theorem zlrem_nat {x y : Nat} (hx : x < 1000000000) (hy : y < 1000000000) : zlrem (x : Int) (y : Int) = ((x % y : Nat) : Int) := by
  have h1 : x / y ≤ x := Nat.div_le_self x y
  have h2 : y * (x / y) + x % y = x := Nat.div_add_mod x y
  have h3 : x / y * y ≤ x := Nat.div_mul_le_self x y
  have h4 : y * (x / y) = x / y * y := Nat.mul_comm _ _
  have hd : (zL (x : Int) / zL (y : Int)).toInt = ((x / y : Nat) : Int) := zldiv_nat hx hy
  unfold zlrem
  rw [Int64.toInt_sub, Int64.toInt_mul, hd, zL_get (by omega), zL_get (by omega), ← Int.natCast_mul, zbm (x := ((x / y * y : Nat) : Int)) (by omega), zbm (by omega)]
  omega
theorem zLE_0 {x : Nat} (hx : x < 1000000000) : zLE (x : Int) 0 ↔ x = 0 := by
  constructor
  · intro h
    have h2 : (zL (x : Int)).toInt = (zL 0).toInt := congrArg Int64.toInt h
    rw [zL_get (by omega), zL_get (by omega)] at h2
    omega
  · intro h; subst h; rfl
theorem zlcmp_self (a : Int) : zlcmp a a = 0 := by
  unfold zlcmp lg_cmp
  rw [if_neg (by simp), if_pos rfl]
  rfl
theorem zlcmp_0 : zlcmp 0 0 = 0 := zlcmp_self 0
theorem zlcmp_pos {x : Nat} (h0 : 0 < x) (hx : x < 1000000000) : zlcmp (x : Int) 0 = 1 := by
  unfold zlcmp lg_cmp
  have hgt : zL (x : Int) > zL 0 := by
    show zL 0 < zL (x : Int)
    rw [Int64.lt_iff_toInt_lt, zL_get (by omega), zL_get (by omega)]
    omega
  rw [if_pos hgt]
  rfl
