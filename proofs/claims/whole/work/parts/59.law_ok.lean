theorem law_ok (L : Nat) (hL : L ≤ 2560) (zsc : Nat → Int) (hz : ∀ j, zR (zsc j)) : fL_law zF L zsc zX0 zM0 0 = some 1 := by
  sorry
