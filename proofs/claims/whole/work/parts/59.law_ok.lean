/-! ===== PURE: the law answers 1 on every script of at most 2560 ints ===== -/
theorem law_ok (L : Nat) (hL : L ≤ 2560) (zsc : Nat → Int) (hz : ∀ j, zR (zsc j)) : fL_law zF L zsc zX0 zM0 0 = some 1 :=
  law_turns L_shifted L_live L_rate L_expected L hL zsc hz L 0 zF zX0 zM0 (by omega) (by unfold zF; omega) (by omega) zRel_0
