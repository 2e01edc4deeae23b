/-! ===== PURE: what group, member, track tell, in words of the rows ===== -/
theorem zfo_congr {P P' : Nat → Int} {j : Int} : ∀ (k f : Nat), (∀ i, f ≤ i → i < f + k → P i = P' i) → zfo P j k f = zfo P' j k f := by
  intro k
  induction k with
  | zero => intro f _; rfl
  | succ k ih =>
    intro f h
    unfold zfo
    rw [h f (Nat.le_refl _) (by omega), ih (f + 1) (fun i h1 h2 => h i (by omega) (by omega))]
def zmvv (lw lag : Nat → Int) (j : Int) : Option Nat → Int
  | none => -9
  | some i => lw i + lag j.toNat
def zmss (ls : Nat → Int) : Option Nat → Int
  | none => -9
  | some i => ls i
section V
variable {t : zXT} {t2 : zMT} {lag dead manner setting W P S : Nat → Int} {n : Nat} {ov late : Int} {lw lp ls : Nat → Int} {ml kn g : Nat} {fA : Nat → Nat} {L E T U G : Nat → Int} {gR : Nat} {Fa : Nat → Int}
theorem H_rl (h : zH t lag dead manner setting W P S n ov late) : zRl t (zMM lag dead manner setting W P S n ov late) lag dead manner setting W P S n ov :=
  ⟨h.1, h.2.1, ⟨rfl, rfl, rfl, rfl, rfl, rfl, rfl, rfl, rfl⟩, h.2.2, fun _ _ => ⟨rfl, rfl⟩⟩
theorem V_grp (hk : zLk t t2 lag dead manner setting W P S n ov lw lp ls ml kn g fA L E T U G gR Fa) (hv : zVal lag dead manner setting W P S n ov) {q : Nat} (hq : q < g) :
    fX3_group t (q : Int) 0 = some (lw (fA q) + 100) ∧ fX3_group t (q : Int) 1 = some (zg_set (zx_groups t) q) ∧ fX3_group t (q : Int) 2 = some ((fA (q + 1) : Int) - (fA q : Int)) ∧ (∃ c, fJ6_bitCount_0f7a4 (zg_set (zx_groups t) q) = some c ∧ fX3_group t (q : Int) 3 = some ((fA (q + 1) : Int) - (fA q : Int) - c)) ∧ fX3_group t (q : Int) 4 = some (lw (fA (q + 1) - 1) - lw (fA q)) := by
  have hb := zk_b hk hv
  have r1 : zR (q : Int) := ⟨by omega, by omega⟩
  have x1 := X_isGroup hk hv r1
  rw [if_pos ⟨by omega, by omega⟩] at x1
  have hgr := zk_gr hk q hq
  have hgx := (zk_grp hk).2.2.2
  have e1 := X_endOfP (by omega) (zk_grp hk) (q := q) (by omega)
  have e2 := X_endOf (by omega) (zk_grp hk) hq
  have hset := (hgx.2 q hq).2.2.1
  have hfe := hgr.1
  have hek := hgr.2.1
  have hpb := zpo_b (P := lp) (f := fA q) (fA (q + 1) - fA q) (fun i h1 h2 => zk_pb hk i (by have := zk_kle hk; omega))
  rw [← hset] at hpb
  obtain ⟨cb, b1, b2, b3, b4⟩ := zbc hpb
  have hkm := zk_kle hk
  have gm : zIn (q : Int) 240 := ⟨by omega, by omega⟩
  have ee : ((fA (q + 1) : Nat) : Int) - 1 = ((fA (q + 1) - 1 : Nat) : Int) := by omega
  have w1 := R_when (ρ := zk_R lw lp ls (ml : Int)) (n := ml) (i := fA q) rfl (by omega) (by omega)
  have w2 := R_when (ρ := zk_R lw lp ls (ml : Int)) (n := ml) (i := fA (q + 1) - 1) rfl (by omega) (by omega)
  have d : ∀ a b : Int, (0 ≤ a ∧ a ≤ 9) → (0 ≤ b ∧ b ≤ 9) → a ≠ b → ¬ zE a b := fun a b h1 h2 h3 => zE_f h3 (by omega) (by omega) (by omega) (by omega)
  unfold fX3_group
  rw [zk_live hk]
  refine ⟨zb x1 (zno z10 (zb e1 (zb e2 (zyes z00 (zb w1 rfl))))), zb x1 (zno z10 (zb e1 (zb e2 (zno (d 1 0 (by omega) (by omega) (by omega)) (zyes (zE_t rfl) (zok gm (by rw [zcN]))))))), zb x1 (zno z10 (zb e1 (zb e2 (zno (d 2 0 (by omega) (by omega) (by omega)) (zno (d 2 1 (by omega) (by omega) (by omega)) (zyes (zE_t rfl) rfl)))))), ⟨cb, b1, zb x1 (zno z10 (zb e1 (zb e2 (zno (d 3 0 (by omega) (by omega) (by omega)) (zno (d 3 1 (by omega) (by omega) (by omega)) (zno (d 3 2 (by omega) (by omega) (by omega)) (zyes (zE_t rfl) (zok gm (zb (by rw [zcN]; exact b1) rfl)))))))))⟩, zb x1 (zno z10 (zb e1 (zb e2 (zno (d 4 0 (by omega) (by omega) (by omega)) (zno (d 4 1 (by omega) (by omega) (by omega)) (zno (d 4 2 (by omega) (by omega) (by omega)) (zno (d 4 3 (by omega) (by omega) (by omega)) (zyes (zE_t rfl) (zb (by rw [ee]; exact w2) (zb w1 rfl))))))))))⟩
theorem V_mem (hk : zLk t t2 lag dead manner setting W P S n ov lw lp ls ml kn g fA L E T U G gR Fa) (hv : zVal lag dead manner setting W P S n ov) (hl : zx_lag t = lag) {q : Nat} (hq : q < g) {j : Int} (hj : 0 ≤ j ∧ j ≤ 5) :
    fX3_member t (q : Int) j 0 = some (zmvv lw lag j (zfo lp j (fA (q + 1) - fA q) (fA q))) ∧ fX3_member t (q : Int) j 1 = some (zmss ls (zfo lp j (fA (q + 1) - fA q) (fA q))) := by
  have hb := zk_b hk hv
  have r1 : zR (q : Int) := ⟨by omega, by omega⟩
  have r2 : zR j := ⟨by omega, by omega⟩
  have x1 := X_isGroup hk hv r1
  rw [if_pos ⟨by omega, by omega⟩] at x1
  have hgr := zk_gr hk q hq
  have e1 := X_endOfP (by omega) (zk_grp hk) (q := q) (by omega)
  have e2 := X_endOf (by omega) (zk_grp hk) hq
  have hfe := hgr.1
  have hek := hgr.2.1
  have hkm := zk_kle hk
  have gp : zIn j 6 := ⟨by omega, by omega⟩
  have hidx := R_index (ρ := zk_R lw lp ls (ml : Int)) (sz := ml) (f := fA q) (e := fA (q + 1)) rfl (by omega) (by omega) (by omega) (fun i hi => zk_pb hk i (by omega)) hj
  rw [show zr_plane (zk_R lw lp ls (ml : Int)) = lp from rfl] at hidx
  have n1 : ¬ zE 1 0 := z10
  unfold fX3_member
  rw [zk_live hk, hl]
  cases ho : zfo lp j (fA (q + 1) - fA q) (fA q) with
  | none =>
    rw [ho] at hidx
    have hh := R_hasnt (ρ := zk_R lw lp ls (ml : Int)) (n := ml) (i := -1) rfl (by omega) (Or.inl (by omega)) (by omega) (by omega)
    exact ⟨zb x1 (zno z10 (zb (P3t r2 hj) (zno z10 (zb (W3t ⟨by omega, by omega⟩ ⟨by omega, by omega⟩ (by omega) (by omega)) (zno z10 (zb e1 (zb e2 (zb hidx (zb hh (zyes z00 rfl)))))))))), zb x1 (zno z10 (zb (P3t r2 hj) (zno z10 (zb (W3t ⟨by omega, by omega⟩ ⟨by omega, by omega⟩ (by omega) (by omega)) (zno z10 (zb e1 (zb e2 (zb hidx (zb hh (zyes z00 rfl))))))))))⟩
  | some i =>
    rw [ho] at hidx
    obtain ⟨i1, i2, i3⟩ := zfo_some _ _ _ ho
    have gi : zIn (i : Int) 240 := ⟨by omega, by omega⟩
    have hh := R_has (ρ := zk_R lw lp ls (ml : Int)) (n := ml) (i := i) rfl (by omega) (by omega)
    exact ⟨zb x1 (zno z10 (zb (P3t r2 hj) (zno z10 (zb (W3t ⟨by omega, by omega⟩ ⟨by omega, by omega⟩ (by omega) (by omega)) (zno z10 (zb e1 (zb e2 (zb hidx (zb hh (zno z10 (zyes z00 (zok gi (zok gp rfl))))))))))))), zb x1 (zno z10 (zb (P3t r2 hj) (zno z10 (zb (W3t ⟨by omega, by omega⟩ ⟨by omega, by omega⟩ (by omega) (by omega)) (zno z10 (zb e1 (zb e2 (zb hidx (zb hh (zno z10 (zno n1 (zok gi rfl))))))))))))⟩
theorem V_trk (hk : zLk t t2 lag dead manner setting W P S n ov lw lp ls ml kn g fA L E T U G gR Fa) (hv : zVal lag dead manner setting W P S n ov) {q : Nat} (hq : q < g) (w : Int) : fX3_track t (q : Int) w = Option.bind (fX3_isWithin w 0 4) (fun r3 => if zE r3 0 then some (-2) else Option.bind (zg (zIn (q : Int) 240) (if zE (zg_trackSet (zx_groups t) q) 0 then some (0 : Int) else some 1)) (fun r5 => if zE r5 0 then some (-9) else if zE w 0 then zg (zIn (q : Int) 240) (some (zg_trackStart (zx_groups t) q)) else if zE w 1 then zg (zIn (q : Int) 240) (some (zg_trackSlope (zx_groups t) q + 10)) else if zE w 2 then zg (zIn (q : Int) 240) (Option.bind (fJ6_bitCount_0f7a4 (zg_trackSet (zx_groups t) q)) (fun r13 => some r13)) else if zE w 3 then zg (zIn (q : Int) 240) (some (zg_trackSet (zx_groups t) q)) else zg (zIn (q : Int) 240) (some (zg_trackMisses (zx_groups t) q)))) := by
  have hb := zk_b hk hv
  have r1 : zR (q : Int) := ⟨by omega, by omega⟩
  have x1 := X_isGroup hk hv r1
  rw [if_pos ⟨by omega, by omega⟩] at x1
  unfold fX3_track
  exact zb x1 (zno z10 rfl)
end V
/-! ===== PURE: a group that was told is never another one ===== -/
section K
variable {t t' : zXT} {lag dead manner setting W P S lag' dead' manner' setting' W' P' S' : Nat → Int} {n n' : Nat} {ov late ov' late' : Int}
theorem K_all (h : zH t lag dead manner setting W P S n ov late) (h' : zH t' lag' dead' manner' setting' W' P' S' n' ov' late') (hp : zPf t t') {q : Nat} (hq : (q : Int) < zg_size (zx_groups t)) :
    (∀ w : Int, 0 ≤ w → w ≤ 4 → ∃ a, fX3_group t (q : Int) w = some a ∧ fX3_group t' (q : Int) w = some a) ∧ (∀ w : Int, 0 ≤ w → w ≤ 4 → ∃ a, fX3_track t (q : Int) w = some a ∧ fX3_track t' (q : Int) w = some a) ∧ (∀ j : Int, 0 ≤ j ∧ j ≤ 5 → ∀ w : Int, 0 ≤ w → w ≤ 1 → ∃ a, fX3_member t (q : Int) j w = some a ∧ fX3_member t' (q : Int) j w = some a) ∧ ∃ a, fX3_group t (q : Int) 0 = some a ∧ 0 ≤ a ∧ a < 2147483648 := by
  have hv := h.1
  have hv' := h'.1
  obtain ⟨lw, lp, ls, ml, kn, g, fA, L, E, T, U, G, gR, Fa, hk⟩ := L_link (H_rl h)
  obtain ⟨lw', lp', ls', ml', kn', g', fA', L', E', T', U', G', gR', Fa', hk'⟩ := L_link (H_rl h')
  have hg := zk_grp hk
  have hg' := zk_grp hk'
  obtain ⟨f, f', p1, p2, p3, p4, p5, p6⟩ := hp
  have e1 : f = g := by have := hg.1; omega
  have e2 : f' = g' := by have := hg'.1; omega
  subst e1
  subst e2
  have hqf : q < f := by rw [p1] at hq; omega
  have hfA : ∀ r, r ≤ f → fA r = fA' r := by
    intro r
    cases r with
    | zero => intro _; rw [hg.2.1, hg'.2.1]
    | succ r =>
      intro hr
      have a1 := hg.2.2.2.1 r (by omega)
      have a2 := hg'.2.2.2.1 r (by omega)
      have a3 := (p4 r (by omega)).1
      omega
  have eq0 := hfA q (by omega)
  have eq1 := hfA (q + 1) (by omega)
  have hend := hg.2.2.2.1 q hqf
  have hrow : ∀ i, i < fA (q + 1) → lw i = lw' i ∧ lp i = lp' i ∧ ls i = ls' i := by
    intro i hi
    have a := p5 q i hqf (by omega)
    unfold zRq at a
    rw [zk_live hk, zk_live hk'] at a
    exact a
  have hlag : lag = lag' := by rw [← h.2.1.1.1, p6]; exact h'.2.1.1.1
  have hgq := p4 q hqf
  have hgr := zk_gr hk q hqf
  have hlt := hgr.1
  have hb := zk_b hk hv
  obtain ⟨v0, v1, v2, ⟨c, v3, v4⟩, v5⟩ := V_grp hk hv hqf
  obtain ⟨u0, u1, u2, ⟨c', u3, u4⟩, u5⟩ := V_grp hk' hv' (show q < f' by omega)
  have r0 := hrow (fA q) (by omega)
  have r1 := hrow (fA (q + 1) - 1) (by omega)
  rw [← eq0, ← r0.1] at u0
  rw [← hgq.2.1] at u1 u3
  rw [← eq0, ← eq1] at u2
  rw [v3] at u3
  cases u3
  rw [← eq0, ← eq1] at u4
  rw [← eq0, ← eq1, ← r1.1, ← r0.1] at u5
  refine ⟨fun w w0 w4 => ?_, fun w w0 w4 => ?_, fun j hj w w0 w1 => ?_, ?_⟩
  · rcases (show w = 0 ∨ w = 1 ∨ w = 2 ∨ w = 3 ∨ w = 4 by omega) with rfl | rfl | rfl | rfl | rfl
    · exact ⟨_, v0, u0⟩
    · exact ⟨_, v1, u1⟩
    · exact ⟨_, v2, u2⟩
    · exact ⟨_, v4, u4⟩
    · exact ⟨_, v5, u5⟩
  · obtain ⟨a, r, x, y⟩ := L_track (H_rel h) (p1 := (q : Int)) (p2 := w) ⟨by omega, by omega⟩ ⟨by omega, by omega⟩
    refine ⟨a, x, ?_⟩
    rw [V_trk hk' hv' (show q < f' by omega), ← hgq.2.2.1, ← hgq.2.2.2.1, ← hgq.2.2.2.2.1, ← hgq.2.2.2.2.2, ← V_trk hk hv hqf]
    exact x
  · obtain ⟨m0, m1⟩ := V_mem hk hv h.2.1.1.1 hqf hj
    obtain ⟨k0, k1⟩ := V_mem hk' hv' h'.2.1.1.1 (show q < f' by omega) hj
    have ez : zfo lp j (fA (q + 1) - fA q) (fA q) = zfo lp' j (fA' (q + 1) - fA' q) (fA' q) := by
      rw [← eq0, ← eq1]
      exact zfo_congr _ _ (fun i h1 h2 => (hrow i (by omega)).2.1)
    rw [← ez, ← hlag] at k0
    rw [← ez] at k1
    have e0 : zmvv lw lag j (zfo lp j (fA (q + 1) - fA q) (fA q)) = zmvv lw' lag j (zfo lp j (fA (q + 1) - fA q) (fA q)) := by
      cases ho : zfo lp j (fA (q + 1) - fA q) (fA q) with
      | none => rfl
      | some i =>
        have := zfo_some _ _ _ ho
        show lw i + _ = lw' i + _
        rw [(hrow i (by omega)).1]
    have e1 : zmss ls (zfo lp j (fA (q + 1) - fA q) (fA q)) = zmss ls' (zfo lp j (fA (q + 1) - fA q) (fA q)) := by
      cases ho : zfo lp j (fA (q + 1) - fA q) (fA q) with
      | none => rfl
      | some i =>
        have := zfo_some _ _ _ ho
        show ls i = ls' i
        exact (hrow i (by omega)).2.2
    rw [← e0] at k0
    rw [← e1] at k1
    rcases (show w = 0 ∨ w = 1 by omega) with rfl | rfl
    · exact ⟨_, m0, k0⟩
    · exact ⟨_, m1, k1⟩
  · refine ⟨_, v0, ?_⟩
    obtain ⟨u, w1, w2, w3, w4, w5, w6⟩ := zk_tu hk (fA q) (by have := hgr.2.1; omega)
    have a1 := (hv.2.1.2.1 u w1).1
    have a2 := zlag_b hv w1
    omega
end K
