/-! ===== PURE: the law answers 1 on every script of at most 260 ints ===== -/
theorem H_zero : zH zX0 (fun _ => 0) (fun _ => 0) (fun _ => 0) zS3 (fun _ => 0) (fun _ => 0) (fun _ => 0) 0 0 0 :=
  ⟨⟨⟨fun k hk => ⟨⟨(show (0 : Int) ≤ 0 by omega), (show (0 : Int) ≤ 30 by omega)⟩, ⟨(show (0 : Int) ≤ 0 by omega), (show (0 : Int) ≤ 50 by omega)⟩, ⟨(show (0 : Int) ≤ 0 by omega), (show (0 : Int) ≤ 1 by omega)⟩⟩, by decide, by decide, by decide, by decide⟩, ⟨by omega, fun i hi => by omega, List.Pairwise.nil⟩, Or.inl rfl⟩, zFr_ix ⟨rfl, rfl, rfl, rfl, rfl, rfl⟩ ⟨rfl, fun _ _ => rfl, ⟨fun _ => 0, fun _ => 0, fun _ => 0, rfl⟩, rfl, rfl⟩, rfl⟩
section Fin
variable {lag dead manner setting W P S : Nat → Int} {n : Nat} {ov late : Int} {t : zXT}
theorem H_out : (∃ r, fX3_tune t 4 0 = some r ∧ r.1 = -2 ∧ zNT t r = t) ∧ (∃ r, fX3_tune t 2 7 = some r ∧ r.1 = -2 ∧ zNT t r = t) ∧ (∃ r, fX3_plane t 6 0 0 0 = some r ∧ r.1 = -1 ∧ zNL t r = t) ∧ (∃ r, fX3_plane t 0 31 0 0 = some r ∧ r.1 = -2 ∧ zNL t r = t) ∧ fX3_twos t 0 0 0 = some (-3) ∧ fX3_folds t 7 = some (-2) ∧ fX3_many t 13 = some (-2) := by
  have r0 : zR 0 := ⟨by omega, by omega⟩
  have rr : ∀ x : Int, 0 ≤ x → x ≤ 100 → zR x := fun x h1 h2 => ⟨by omega, by omega⟩
  have g2 : zIn 2 4 := ⟨by omega, by omega⟩
  have d : ∀ b : Int, 0 ≤ b → b ≤ 12 → ¬ zE 13 b := fun b h1 h2 => zE_f (by omega) (by omega) (by omega) (by omega) (by omega)
  refine ⟨⟨(-2, zx_setting t), ?_, rfl, rfl⟩, ⟨(-2, zx_setting t), ?_, rfl, rfl⟩, ⟨(-1, zx_lag t, zx_dead t, zx_manner t), ?_, rfl, rfl⟩, ⟨(-2, zx_lag t, zx_dead t, zx_manner t), ?_, rfl, rfl⟩, ?_, ?_, ?_⟩
  · unfold fX3_tune
    exact zb (W3f (rr 4 (by omega) (by omega)) (by omega) (by omega) (by omega)) (zyes z00 rfl)
  · unfold fX3_tune
    refine zb (W3t (rr 2 (by omega) (by omega)) (by omega) (by omega) (by omega)) (zno z10 (zok g2 (zok g2 ?_)))
    have e1 : zS1 (Int.toNat 2) = 2 := rfl
    have e2 : zS2 (Int.toNat 2) = 6 := rfl
    rw [e1, e2]
    exact zb (W3f (rr 7 (by omega) (by omega)) (by omega) (by omega) (by omega)) (zyes z00 rfl)
  · unfold fX3_plane
    exact zb (P3f (rr 6 (by omega) (by omega)) (by omega)) (zyes z00 rfl)
  · unfold fX3_plane
    exact zb (P3t r0 (by omega)) (zno z10 (zb (W3f (rr 31 (by omega) (by omega)) (by omega) (by omega) (by omega)) (zyes z00 rfl)))
  · unfold fX3_twos
    exact zb (P3t r0 (by omega)) (zno z10 (zb (P3t r0 (by omega)) (zno z10 (zb (W3t r0 (by omega) (by omega) (by omega)) (zno z10 (zyes z00 rfl))))))
  · unfold fX3_folds
    exact zb (W3f (rr 7 (by omega) (by omega)) (by omega) (by omega) (by omega)) (zyes z00 rfl)
  · unfold fX3_many
    exact zno (d 0 (by omega) (by omega)) (zno (d 1 (by omega) (by omega)) (zno (d 2 (by omega) (by omega)) (zno (d 3 (by omega) (by omega)) (zno (d 4 (by omega) (by omega)) (zno (d 5 (by omega) (by omega)) (zno (d 6 (by omega) (by omega)) (zno (d 7 (by omega) (by omega)) (zno (d 8 (by omega) (by omega)) (zno (d 9 (by omega) (by omega)) (zno (d 10 (by omega) (by omega)) (zno (d 11 (by omega) (by omega)) (zno (d 12 (by omega) (by omega)) rfl))))))))))))
end Fin
theorem LW_end {L : Nat} {zsc : Nat → Int} (k : Nat) (o p : zXT) (a1 a2 a3 a4 : Nat → Int) : fL_law_L42 (k + 1) L zsc o p a1 a2 a3 a4 2 = some (o, p, a1, a2, a3, a4) := by
  rw [fL_law_L42_s]
  exact zyes (zLe_t (by omega) (by omega) (by omega)) rfl
theorem law_ok (L : Nat) (hL : L ≤ 260) (zsc : Nat → Int) (hz : ∀ j, zR (zsc j)) : fL_law L zsc zX0 zX0 (fun _ => 0) (fun _ => 0) (fun _ => 0) (fun _ => 0) = some 1 := by
  obtain ⟨o1, p1, b1, b2, b3, b4, lag1, dead1, manner1, set1, W1, P1, S1, n1, ov1, late1, h1, h1', k1⟩ := LW_turn hL hz (e := 0) (by omega) (a1 := fun _ => 0) (a2 := fun _ => 0) (a3 := fun _ => 0) (a4 := fun _ => 0) H_zero H_zero 99999
  obtain ⟨o2, p2, c1, c2, c3, c4, lag2, dead2, manner2, set2, W2, P2, S2, n2, ov2, late2, h2, h2', k2⟩ := LW_turn hL hz (e := 1) (by omega) (a1 := b1) (a2 := b2) (a3 := b3) (a4 := b4) h1 h1' 99998
  have e3 := k1 _ (k2 _ (LW_end 99997 o2 p2 c1 c2 c3 c4))
  obtain ⟨⟨r1, q1, q2, q3⟩, -⟩ := H_out (t := o2)
  obtain ⟨-, ⟨r2, s1, s2, s3⟩, -⟩ := H_out (t := zNT o2 r1)
  obtain ⟨-, -, ⟨r3, t1, t2, t3⟩, -⟩ := H_out (t := zNT (zNT o2 r1) r2)
  obtain ⟨-, -, -, ⟨r4, u1, u2, u3⟩, -⟩ := H_out (t := zNL (zNT (zNT o2 r1) r2) r3)
  obtain ⟨-, -, -, -, v1, v2, v3⟩ := H_out (t := zNL (zNL (zNT (zNT o2 r1) r2) r3) r4)
  unfold fL_law
  refine zb (show fL_law_L42 zF L zsc zX0 zX0 (fun _ => 0) (fun _ => 0) (fun _ => 0) (fun _ => 0) 0 = _ from e3) ?_
  refine zb q1 (zyes (zE_t q2) (zb s1 (zyes (zE_t s2) (zb t1 (zyes (zE_t t2) (zb u1 (zyes (zE_t u2) ?_)))))))
  exact zb v1 (zyes (zE_t rfl) (zb v2 (zyes (zE_t rfl) (zb v3 (zyes (zE_t rfl) rfl)))))
