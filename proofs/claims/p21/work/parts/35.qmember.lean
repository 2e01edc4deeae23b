/-! ===== PURE: member ===== -/
section QM
variable {t : zXT} {t2 : zMT}
theorem L_member (h : zRel t t2) {p1 p2 p3 : Int} (r1 : zR p1) (r2 : zR p2) (r3 : zR p3) : ∃ a r, fX3_member t p1 p2 p3 = some a ∧ fX4_member t2 p1 p2 p3 = some (a, r) := by
  obtain ⟨lag, dead, manner, setting, W, P, S, n, ov, hl⟩ := h
  obtain ⟨lw, lp, ls, ml, kn, g, fA, L, E, T, U, G, gR, Fa, hk⟩ := L_link hl
  have hv := hl.1
  have hM := hl.2.2.1
  have hb := zk_b hk hv
  have x1 := X_isGroup hk hv r1
  have m1 := M_isGroup hk hv r1
  unfold fX3_member fX4_member
  by_cases c : 0 ≤ p1 ∧ p1 < (g : Int)
  case neg =>
    rw [if_neg c] at x1 m1
    exact ⟨-1, zSc L E kn T U G gR g Fa, zb x1 (zyes z00 rfl), zb m1 (zyes z00 rfl)⟩
  rw [if_pos c] at x1 m1
  by_cases c2 : 0 ≤ p2 ∧ p2 ≤ 5
  case neg => exact ⟨-1, zSc L E kn T U G gR g Fa, zb x1 (zno z10 (zb (P3f r2 c2) (zyes z00 rfl))), zb m1 (zno z10 (zb (P4f r2 c2) (zyes z00 rfl)))⟩
  by_cases c3 : 0 ≤ p3 ∧ p3 ≤ 1
  case neg => exact ⟨-2, zSc L E kn T U G gR g Fa, zb x1 (zno z10 (zb (P3t r2 c2) (zno z10 (zb (W3f r3 c3 (by omega) (by omega)) (zyes z00 rfl))))), zb m1 (zno z10 (zb (P4t r2 c2) (zno z10 (zb (W4f r3 c3 (by omega) (by omega)) (zyes z00 rfl)))))⟩
  obtain ⟨q, hq⟩ := Int.eq_ofNat_of_zero_le c.1
  subst hq
  have hqg : q < g := by omega
  have hgr := zk_gr hk q hqg
  have hgx := (zk_grp hk).2.2.2
  have e1 := X_endOfP (by omega) (zk_grp hk) (q := q) (by omega)
  have e2 := X_endOf (by omega) (zk_grp hk) hqg
  have hfe := hgr.1
  have hek := hgr.2.1
  have hmem := M_mem_q hk hv hM hqg c2
  have hkm := zk_kle hk
  have gp : zIn p2 6 := ⟨by omega, by omega⟩
  have hidx := R_index (ρ := zk_R lw lp ls (ml : Int)) (sz := ml) (f := fA q) (e := fA (q + 1)) rfl (by omega) (by omega) (by omega) (fun i hi => zk_pb hk i (by omega)) c2
  rw [show zr_plane (zk_R lw lp ls (ml : Int)) = lp from rfl] at hidx
  rw [zk_live hk, hl.2.1.1.1]
  cases ho : zfo lp p2 (fA (q + 1) - fA q) (fA q) with
  | none =>
    rw [ho] at hidx hmem
    refine ⟨-9, zSc L E kn T U G gR g Fa, zb x1 (zno z10 (zb (P3t r2 c2) (zno z10 (zb (W3t r3 c3 (by omega) (by omega)) (zno z10 (zb e1 (zb e2 (zb hidx (zb (R_hasnt (ρ := zk_R lw lp ls (ml : Int)) (n := ml) (i := -1) rfl (by omega) (Or.inl (by omega)) (by omega) (by omega)) (zyes z00 rfl)))))))))), ?_⟩
    exact zb m1 (zno z10 (zb (P4t r2 c2) (zno z10 (zb (W4t r3 c3 (by omega) (by omega)) (zno z10 (zb (hmem _ _ _ _ _ _ _) (zyes (zE_t rfl) rfl)))))))
  | some i =>
    rw [ho] at hidx hmem
    obtain ⟨i1, i2, i3⟩ := zfo_some _ _ _ ho
    obtain ⟨u, u1, u2, u3, u4, u5, u6⟩ := zk_tu hk i (by omega)
    have gi : zIn (i : Int) 240 := ⟨by omega, by omega⟩
    have gu : zIn (U (Int.toNat (i : Int))) 241 := by rw [zcN, u2]; exact ⟨by omega, by omega⟩
    have ne : ¬ zE (i : Int) (-9) := zE_f (by omega) (by omega) (by omega) (by omega) (by omega)
    by_cases d : p3 = 0
    · subst d
      refine ⟨W u, zSc L E kn T U G gR g Fa, zb x1 (zno z10 (zb (P3t r2 c2) (zno z10 (zb (W3t r3 c3 (by omega) (by omega)) (zno z10 (zb e1 (zb e2 (zb hidx (zb (R_has (ρ := zk_R lw lp ls (ml : Int)) (n := ml) (i := i) rfl (by omega) (by omega)) (zno z10 (zyes z00 (zok gi (zok gp ?_)))))))))))))  , ?_⟩
      · show some (lw (Int.toNat (i : Int)) + lag p2.toNat) = _
        rw [zcN, u4, u3, ← i3, u5]
        congr 1
        omega
      · refine zb m1 (zno z10 (zb (P4t r2 c2) (zno z10 (zb (W4t r3 c3 (by omega) (by omega)) (zno z10 (zb (hmem _ _ _ _ _ _ _) (zno ne (zyes z00 (zok gi (zok gu ?_))))))))))
        show some (zm_momentOf t2 (Int.toNat (U (Int.toNat (i : Int)))), zSc L E kn T U G gR g Fa) = _
        rw [zcN, u2, zcN, hM.2.2.2.2.2.2.1]
    · have nd : ¬ zE p3 0 := zE_f d r3.1 r3.2 (by omega) (by omega)
      refine ⟨S u, zSc L E kn T U G gR g Fa, zb x1 (zno z10 (zb (P3t r2 c2) (zno z10 (zb (W3t r3 c3 (by omega) (by omega)) (zno z10 (zb e1 (zb e2 (zb hidx (zb (R_has (ρ := zk_R lw lp ls (ml : Int)) (n := ml) (i := i) rfl (by omega) (by omega)) (zno z10 (zno nd (zok gi ?_)))))))))))), ?_⟩
      · show some (ls (Int.toNat (i : Int))) = _
        rw [zcN, u6]
      · refine zb m1 (zno z10 (zb (P4t r2 c2) (zno z10 (zb (W4t r3 c3 (by omega) (by omega)) (zno z10 (zb (hmem _ _ _ _ _ _ _) (zno ne (zno nd (zok gi (zok gu ?_))))))))))
        show some (zm_stripOf t2 (Int.toNat (U (Int.toNat (i : Int)))), zSc L E kn T U G gR g Fa) = _
        rw [zcN, u2, zcN, hM.2.2.2.2.2.2.2.1]
end QM
