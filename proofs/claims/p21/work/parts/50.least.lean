/-! ===== PURE: in least terms, both ways ===== -/
theorem zleast {x y : Nat} {w : Int} (hx : x < 1000000000) (h0 : 0 < y) (hy : y < 16000) (hw : 0 ≤ w ∧ w ≤ 1) : ∃ r, fX3_inLeastTerms (x : Int) (y : Int) w = some r ∧ fX4_inLeastTerms (x : Int) (y : Int) w = some r := by
  obtain ⟨g1, g2⟩ := zgcd_both (a := (x : Int)) (b := (y : Int)) (c := w) 14 x y 0 zF zF (by omega) hx (by omega) (by omega) (by unfold zF; omega) (by unfold zF; omega)
  have hgp : 0 < Nat.gcd x y := Nat.gcd_pos_of_pos_right x h0
  have hgl : Nat.gcd x y ≤ y := Nat.gcd_le_right x h0
  have hne : ¬ zLE ((Nat.gcd x y : Nat) : Int) 0 := fun z => by have := (zLE_0 (x := Nat.gcd x y) (by omega)).mp z; omega
  have hc1 : ¬ zLe (zlcmp (y : Int) 0) 0 := by rw [zlcmp_pos h0 (by omega)]; exact zLe_f (by omega) (by omega) (by omega)
  have hc2 : zLt 0 (zlcmp ((Nat.gcd x y : Nat) : Int) 0) := by rw [zlcmp_pos hgp (by omega)]; exact zLt_t (by omega) (by omega) (by omega)
  have G : fX3_greatestDivisor (x : Int) (y : Int) = some ((Nat.gcd x y : Nat) : Int) := zb g1 rfl
  unfold fX3_inLeastTerms fX4_inLeastTerms
  by_cases c : w = 0
  · refine ⟨zldiv (x : Int) ((Nat.gcd x y : Nat) : Int), zb G (zno hc1 (zyes hc2 (zb (zyes (zE_t c) rfl) (zok hne rfl)))), zb g2 (zyes (zE_t c) (zok hne rfl))⟩
  · have nc : ¬ zE w 0 := zE_f c (by omega) (by omega) (by omega) (by omega)
    refine ⟨zldiv (y : Int) ((Nat.gcd x y : Nat) : Int), zb G (zno hc1 (zyes hc2 (zb (zno nc rfl) (zok hne rfl)))), zb g2 (zno nc (zok hne rfl))⟩
theorem zleast_lost {x : Nat} {w : Int} : fX3_inLeastTerms (x : Int) 0 w = some (-9223372036854775808) := by
  have G : fX3_greatestDivisor (x : Int) 0 = some (x : Int) := zb (gX_z (x := x) (i := 0) (zn := 99999) (by omega)) rfl
  unfold fX3_inLeastTerms
  exact zb G (zyes (by rw [zlcmp_0]; exact zLe_t (by omega) (by omega) (by omega)) rfl)
theorem zi2l_get {x : Int} (h : zR x) : zi2l x = x := zI_get h
theorem X_span {t : zXT} {lag dead manner setting W P S : Nat → Int} {n : Nat} {ov : Int} (h : zCX t lag dead manner setting W P S n ov) (hv : zVal lag dead manner setting W P S n ov) : fX3_span t = some (if n = 0 then 0 else W (n - 1) + 1) := by
  unfold fX3_span
  refine zb (X_latest h hv) ?_
  by_cases c : n = 0
  · rw [if_pos c, if_pos c]; rfl
  · rw [if_neg c, if_neg c]
theorem M_span {t : zMT} {lag dead manner setting W P S : Nat → Int} {n : Nat} {ov : Int} (h : zCM t lag dead manner setting W P S n ov) (hv : zVal lag dead manner setting W P S n ov) : fX4_span t = some (if n = 0 then 0 else W (n - 1) + 1) := by
  have hn := hv.2.1.1
  unfold fX4_span
  rw [h.2.2.2.2.1, h.2.2.2.2.2.2.1]
  by_cases c : n = 0
  · have e : (if n = 0 then (0 : Int) else W (n - 1) + 1) = 0 := if_pos c
    rw [e]
    exact zyes (zE_t (by omega)) rfl
  · have e : (if n = 0 then (0 : Int) else W (n - 1) + 1) = W (n - 1) + 1 := if_neg c
    rw [e]
    refine zno (zE_f (by omega) (by omega) (by omega) (by omega) (by omega)) (zok ⟨by omega, by omega⟩ ?_)
    rw [show (n : Int) - 1 = ((n - 1 : Nat) : Int) by omega, zcN]
