/-! ===== PURE: ofPlane ===== -/
theorem zml1_live {W P dead manner : Nat → Int} {j : Int} (hj : 0 ≤ j) (i : Nat) : zml1 W P dead manner j 1 i = (decide (P i = j) && zlv W P dead manner i) := by
  unfold zml1
  rw [decide_eq_false (show ¬ (j = -9) by omega), Bool.false_or]
  cases zlv W P dead manner i <;> simp
theorem zml1_dead {W P dead manner : Nat → Int} {j : Int} (hj : 0 ≤ j) (i : Nat) : zml1 W P dead manner j 0 i = (decide (P i = j) && !(zlv W P dead manner i)) := by
  unfold zml1
  rw [decide_eq_false (show ¬ (j = -9) by omega), Bool.false_or]
  cases zlv W P dead manner i <;> simp
theorem zml1_live9 {W P dead manner : Nat → Int} (i : Nat) : zml1 W P dead manner (-9) 1 i = zlv W P dead manner i := by
  unfold zml1
  cases zlv W P dead manner i <;> simp
theorem zml1_dead9 {W P dead manner : Nat → Int} (i : Nat) : zml1 W P dead manner (-9) 0 i = !(zlv W P dead manner i) := by
  unfold zml1
  cases zlv W P dead manner i <;> simp
section QO
variable {t : zXT} {t2 : zMT} {lag dead manner setting W P S : Nat → Int} {n : Nat} {ov : Int} {lw lp ls : Nat → Int} {ml kn g : Nat} {fA : Nat → Nat} {L E T U G : Nat → Int} {gR : Nat} {Fa : Nat → Int}
theorem X_liveOf (hk : zLk t t2 lag dead manner setting W P S n ov lw lp ls ml kn g fA L E T U G gR Fa) (hv : zVal lag dead manner setting W P S n ov) {j : Int} (hj : 0 ≤ j ∧ j ≤ 5) : fX3_liveOf t j = some (zct (fun i => decide (P i = j) && zlv W P dead manner i) (zst W (zhor (setting 0) W n ov) n)) := by
  have hb := zk_b hk hv
  have hx := zst_le W (zhor (setting 0) W n ov) n
  have e := zlive_count hv hx (zk_row hk) (fun p => decide (p = j))
  unfold fX3_liveOf
  rw [zk_live hk, ← e]
  exact zb (R_count (ρ := zk_R lw lp ls (ml : Int)) (sz := ml) rfl (by omega) (Nat.le_refl _) (fun i hi => zk_pb hk i hi) hj) rfl
theorem L_ofPlane (h : zRel t t2) {p1 p2 : Int} (r1 : zR p1) (r2 : zR p2) : ∃ a r, fX3_ofPlane t p1 p2 = some a ∧ fX4_ofPlane t2 p1 p2 = some (a, r) := by
  obtain ⟨lag, dead, manner, setting, W, P, S, n, ov, hl⟩ := h
  obtain ⟨lw, lp, ls, ml, kn, g, fA, L, E, T, U, G, gR, Fa, hk⟩ := L_link hl
  have hv := hl.1
  have hM := hl.2.2.1
  have hc := hl.2.1.1
  have hb := zk_b hk hv
  have hx := zst_le W (zhor (setting 0) W n ov) n
  unfold fX3_ofPlane fX4_ofPlane
  by_cases c1 : 0 ≤ p1 ∧ p1 ≤ 5
  case neg => exact ⟨-1, (zm_isLive t2, zm_endOf t2), zb (P3f r1 c1) (zyes z00 rfl), zb (P4f r1 c1) (zyes z00 rfl)⟩
  have g6 : zIn p1 6 := ⟨by omega, by omega⟩
  by_cases d0 : p2 = 0
  · subst d0
    exact ⟨lag p1.toNat, (zm_isLive t2, zm_endOf t2), zb (P3t r1 c1) (zno z10 (zyes z00 (zok g6 (by rw [hc.1])))), zb (P4t r1 c1) (zno z10 (zyes z00 (zok g6 (by rw [hM.1]))))⟩
  have n0 : ¬ zE p2 0 := zE_f d0 r2.1 r2.2 (by omega) (by omega)
  by_cases d1 : p2 = 1
  · subst d1
    exact ⟨dead p1.toNat, (zm_isLive t2, zm_endOf t2), zb (P3t r1 c1) (zno z10 (zno n0 (zyes (zE_t rfl) (zok g6 (by rw [hc.2.1]))))), zb (P4t r1 c1) (zno z10 (zno n0 (zyes (zE_t rfl) (zok g6 (by rw [hM.2.1])))))⟩
  have n1 : ¬ zE p2 1 := zE_f d1 r2.1 r2.2 (by omega) (by omega)
  by_cases d2 : p2 = 2
  · subst d2
    exact ⟨manner p1.toNat, (zm_isLive t2, zm_endOf t2), zb (P3t r1 c1) (zno z10 (zno n0 (zno n1 (zyes (zE_t rfl) (zok g6 (by rw [hc.2.2.1])))))), zb (P4t r1 c1) (zno z10 (zno n0 (zno n1 (zyes (zE_t rfl) (zok g6 (by rw [hM.2.2.1]))))))⟩
  have n2 : ¬ zE p2 2 := zE_f d2 r2.1 r2.2 (by omega) (by omega)
  have hkp : ∀ i, i < n → 0 ≤ P i ∧ P i ≤ 5 := fun i hi => (hv.2.1.2.1 i hi).2.1
  by_cases d3 : p2 = 3
  · subst d3
    refine ⟨zct (fun i => decide (P i = p1)) n, (zm_isLive t2, zm_endOf t2), zb (P3t r1 c1) (zno z10 (zno n0 (zno n1 (zno n2 (zyes (zE_t rfl) ?_))))), zb (P4t r1 c1) (zno z10 (zno n0 (zno n1 (zno n2 (zyes (zE_t rfl) (zb (M_kept hM hv c1) rfl))))))⟩
    rw [hc.2.2.2.2.1]
    exact zb (R_count (ρ := zk_R W P S (n : Int)) (sz := n) rfl (by omega) (Nat.le_refl _) hkp c1) rfl
  have n3 : ¬ zE p2 3 := zE_f d3 r2.1 r2.2 (by omega) (by omega)
  have xl := X_liveOf hk hv c1
  by_cases d4 : p2 = 4
  · subst d4
    obtain ⟨L', E', m⟩ := M_manyLive hM hv (j := p1) (w := 1) (Or.inr c1) (by omega)
    rw [zct_congr (b := zml1 W P dead manner p1 1) _ (fun i _ => zml1_live c1.1 i)] at m
    exact ⟨_, (L', E'), zb (P3t r1 c1) (zno z10 (zno n0 (zno n1 (zno n2 (zno n3 (zyes (zE_t rfl) (zb xl rfl))))))), zb (P4t r1 c1) (zno z10 (zno n0 (zno n1 (zno n2 (zno n3 (zyes (zE_t rfl) (zb m rfl)))))))⟩
  have n4 : ¬ zE p2 4 := zE_f d4 r2.1 r2.2 (by omega) (by omega)
  by_cases d5 : p2 = 5
  · subst d5
    obtain ⟨L', E', m⟩ := M_manyLive hM hv (j := p1) (w := 0) (Or.inr c1) (by omega)
    rw [zct_congr (b := zml1 W P dead manner p1 0) _ (fun i _ => zml1_dead c1.1 i)] at m
    have sp := zct_split (fun i => decide (P i = p1)) (fun i => zlv W P dead manner i) (zst W (zhor (setting 0) W n ov) n)
    refine ⟨zct (fun i => decide (P i = p1) && !(zlv W P dead manner i)) (zst W (zhor (setting 0) W n ov) n), (L', E'), zb (P3t r1 c1) (zno z10 (zno n0 (zno n1 (zno n2 (zno n3 (zno n4 (zyes (zE_t rfl) ?_))))))), zb (P4t r1 c1) (zno z10 (zno n0 (zno n1 (zno n2 (zno n3 (zno n4 (zyes (zE_t rfl) (zb m rfl))))))))⟩
    rw [hc.2.2.2.2.1, zk_set hk]
    refine zb (R_count (ρ := zk_R W P S (n : Int)) (sz := n) (e := zst W (zhor (setting 0) W n ov) n) rfl (by omega) (by omega) (fun i hi => hkp i (by omega)) c1) (zb xl ?_)
    congr 1
    show zct (fun i => decide (P i = p1)) _ - _ = _
    omega
  have n5 : ¬ zE p2 5 := zE_f d5 r2.1 r2.2 (by omega) (by omega)
  exact ⟨-2, (zm_isLive t2, zm_endOf t2), zb (P3t r1 c1) (zno z10 (zno n0 (zno n1 (zno n2 (zno n3 (zno n4 (zno n5 rfl))))))), zb (P4t r1 c1) (zno z10 (zno n0 (zno n1 (zno n2 (zno n3 (zno n4 (zno n5 rfl)))))))⟩
end QO
