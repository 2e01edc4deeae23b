/-! ===== PURE: the law answers 1 ===== -/
theorem law_ok (L : Nat) (hL : L ≤ 260) (zsc : Nat → Int) (hz : ∀ j, zR (zsc j)) : fL_law L zsc zX0 zX0 (fun _ => 0) (fun _ => 0) (fun _ => 0) (fun _ => 0) = some 1 := sorry
