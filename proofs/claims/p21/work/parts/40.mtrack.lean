/-! ===== PURE: the reference: the track of a group ===== -/
section MT
variable {t : zXT} {t2 : zMT} {lag dead manner setting W P S : Nat → Int} {n : Nat} {ov : Int} {lw lp ls : Nat → Int} {ml kn g : Nat} {fA : Nat → Nat} {L E T U G : Nat → Int} {gR : Nat} {Fa : Nat → Int}
def zFt (t : zMT) (L E : Nat → Int) (kn : Nat) (T U G : Nat → Int) (gR g : Nat) (Fa : Nat → Int) (a b c d e f i : Int) : zMT := zk_M (zm_lag t) (zm_dead t) (zm_manner t) (zm_setting t) (zm_leastOf t) (zm_mostOf t) (zm_kept t) (zm_planeOf t) (zm_momentOf t) (zm_stripOf t) (zm_late t) (zm_isOver t) L E (kn : Int) T U G (gR : Int) (g : Int) Fa a b c d e f i
def zgs (lp ls : Nat → Int) (fA : Nat → Nat) (q : Nat) : Nat → Int := fun j => zfm lp ls (j : Int) (fA (q + 1) - fA q) (fA q)
theorem zgs_str (hk : zLk t t2 lag dead manner setting W P S n ov lw lp ls ml kn g fA L E T U G gR Fa) {q : Nat} (hq : q < g) : zStr (zgs lp ls fA q) := by
  have hgr := zk_gr hk q hq
  have h1 := hgr.1
  have h2 := hgr.2.1
  exact fun j hj => zfm_b _ _ (fun i _ _ => (zk_ok hk i (by have := zk_kle hk; omega)).2.2)
theorem M_tries_loop (hk : zLk t t2 lag dead manner setting W P S n ov lw lp ls ml kn g fA L E T U G gR Fa) (hv : zVal lag dead manner setting W P S n ov) (hM : zCM t2 lag dead manner setting W P S n ov) {q : Nat} (hq : q < g) {a b : Int} (ha : 0 ≤ a ∧ a ≤ 15) (hbb : -3 ≤ b ∧ b ≤ 3) {y1 y2 y3 y4 y5 y6 y7 : Int} : ∀ (k i zn : Nat), i + k = 6 → k < zn →
    fX4_tries_L18 zn (zFt t2 L E kn T U G gR g Fa y1 y2 y3 y4 y5 y6 y7) (q : Int) a b (i : Int) (zsC (zht (zgs lp ls fA q) (setting 3) a b) i) (zsO (zht (zgs lp ls fA q) (setting 3) a b) i) (zsM (zht (zgs lp ls fA q) (setting 3) a b) (zds (zgs lp ls fA q) a b) i) = some (zsC (zht (zgs lp ls fA q) (setting 3) a b) 6, zsO (zht (zgs lp ls fA q) (setting 3) a b) 6, zsM (zht (zgs lp ls fA q) (setting 3) a b) (zds (zgs lp ls fA q) a b) 6) := by
  have hb := zk_b hk hv
  have hgr := zk_gr hk q hq
  have hc4 := hv.1.2.2.2.2
  intro k
  induction k with
  | zero =>
    intro i zn hik hz
    obtain ⟨zn, rfl⟩ : ∃ q, zn = q + 1 := ⟨zn - 1, by omega⟩
    rw [fX4_tries_L18_s]
    have : i = 6 := by omega
    subst this
    exact zyes (zLe_t (by omega) (by omega) (by omega)) rfl
  | succ k ih =>
    intro i zn hik hz
    obtain ⟨zn, rfl⟩ : ∃ q, zn = q + 1 := ⟨zn - 1, by omega⟩
    rw [fX4_tries_L18_s]
    have ih := ih (i + 1) zn (by omega) (by omega)
    have hmem := M_mem_q hk hv hM hq (j := (i : Int)) (by omega)
    have hfm := zfm_fo (P := lp) (S := ls) (j := (i : Int)) (fA (q + 1) - fA q) (fA q)
    have hd := zds_b (k := i) (zgs_str hk hq) (by omega) ha hbb
    have hmu := zmulb (k := i) hbb (by omega)
    refine zno (zLe_f (by omega) (by omega) (by omega)) (zb (hmem _ _ _ _ _ _ _) ?_)
    rw [zc1]
    cases ho : zfo lp (i : Int) (fA (q + 1) - fA q) (fA q) with
    | none =>
      rw [ho] at hfm
      have h9 : zgs lp ls fA q i = -9 := hfm
      have e : ¬ (zht (zgs lp ls fA q) (setting 3) a b i = true) := fun z => (of_decide_eq_true z).1 h9
      refine zb (zyes (zE_t rfl) rfl) (zb (zyes (zLe_t (Int.le_refl 0) (by omega) (by omega)) rfl) (zb (zyes (zE_t rfl) rfl) ?_))
      rw [zsC_s, zsO_s, zsM_s, if_neg e, if_neg e, if_neg e] at ih
      exact ih
    | some j =>
      rw [ho] at hfm
      obtain ⟨j1, j2, j3⟩ := zfo_some _ _ _ ho
      have hge := hgr.2.1
      have hgl := hgr.1
      have hsj : zgs lp ls fA q i = ls j := hfm
      have hkl := zk_kle hk
      obtain ⟨u, u1, u2, u3, u4, u5, u6⟩ := zk_tu hk j (by omega)
      have hlb := (zk_ok hk j (by omega)).2.2
      have gi : zIn (j : Int) 240 := ⟨by omega, by omega⟩
      have gu : zIn (U (Int.toNat (j : Int))) 241 := by rw [zcN, u2]; exact ⟨by omega, by omega⟩
      have ne : ¬ zE (j : Int) (-9) := zE_f (by omega) (by omega) (by omega) (by omega) (by omega)
      have ev : zm_stripOf t2 (Int.toNat (U (Int.toNat (j : Int)))) = zgs lp ls fA q i := by
        rw [zcN, u2, zcN, hM.2.2.2.2.2.2.2.1, hsj, u6]
      refine zb (a := zgs lp ls fA q i - a - b * (i : Int)) (zno ne (zok gi (zok gu ?_))) ?_
      · show some (zm_stripOf t2 (Int.toNat (U (Int.toNat (j : Int)))) - a - b * (i : Int)) = _
        rw [ev]
      have eabs : (if zLe 0 (zgs lp ls fA q i - a - b * (i : Int)) then some (zgs lp ls fA q i - a - b * (i : Int)) else some (-(zgs lp ls fA q i - a - b * (i : Int)))) = some (zds (zgs lp ls fA q) a b i) := by
        unfold zds
        by_cases c : 0 ≤ zgs lp ls fA q i - a - b * (i : Int)
        · refine zyes (zLe_t c (by omega) (by omega)) ?_
          congr 1
          by_cases c2 : 0 ≤ a + b * (i : Int) - zgs lp ls fA q i
          · rw [if_pos c2]; omega
          · rw [if_neg c2]; omega
        · refine zno (zLe_f (by omega) (by omega) (by omega)) ?_
          congr 1
          rw [if_pos (by omega)]; omega
      refine zb eabs (zb (a := (zsC (zht (zgs lp ls fA q) (setting 3) a b) (i + 1), zsO (zht (zgs lp ls fA q) (setting 3) a b) (i + 1), zsM (zht (zgs lp ls fA q) (setting 3) a b) (zds (zgs lp ls fA q) a b) (i + 1))) (zno ne (zok ⟨by omega, by omega⟩ ?_)) ih)
      rw [zsC_s, zsO_s, zsM_s]
      show (if zLt (zm_setting t2 3) _ then _ else _) = _
      rw [hM.2.2.2.1]
      by_cases hh : zds (zgs lp ls fA q) a b i ≤ setting 3
      · have e : zht (zgs lp ls fA q) (setting 3) a b i = true := decide_eq_true ⟨by rw [hsj]; omega, hh⟩
        rw [if_pos e, if_pos e, if_pos e]
        exact zno (zLt_f hh (by omega) (by omega)) rfl
      · have e : ¬ (zht (zgs lp ls fA q) (setting 3) a b i = true) := fun z => hh (of_decide_eq_true z).2
        rw [if_neg e, if_neg e, if_neg e]
        exact zyes (zLt_t (by omega) (by omega) (by omega)) rfl
theorem M_tries (hk : zLk t t2 lag dead manner setting W P S n ov lw lp ls ml kn g fA L E T U G gR Fa) (hv : zVal lag dead manner setting W P S n ov) (hM : zCM t2 lag dead manner setting W P S n ov) {q : Nat} (hq : q < g) {p : Nat} (y1 y2 y3 y4 y5 y6 y7 : Int) :
    fX4_tries (zFt t2 L E kn T U G gR g Fa y1 y2 y3 y4 y5 y6 y7) (q : Int) (zqA p) (zqB p) = some (zqC (zgs lp ls fA q) (setting 3) p, zqO (zgs lp ls fA q) (setting 3) p, zqM (zgs lp ls fA q) (setting 3) p) := by
  unfold fX4_tries
  exact zb (M_tries_loop hk hv hM hq (zqA_b p) (zS0_b (p / 16)) 6 0 zF (by omega) (by unfold zF; omega)) rfl
end MT
theorem zS0_rk : ∀ r, r < 7 → ∀ b : Int, zS0 r = b → (r : Int) = if b < 0 then -2 * b - 1 else 2 * b := by
  intro r hr b hb
  match r, hr with
  | 0, _ => subst hb; decide
  | 1, _ => subst hb; decide
  | 2, _ => subst hb; decide
  | 3, _ => subst hb; decide
  | 4, _ => subst hb; decide
  | 5, _ => subst hb; decide
  | 6, _ => subst hb; decide
  | r + 7, hr => omega
theorem zrk_of {b : Int} (hb : -3 ≤ b ∧ b ≤ 3) : ∃ r, r < 7 ∧ zS0 r = b := by
  have h : b = -3 ∨ b = -2 ∨ b = -1 ∨ b = 0 ∨ b = 1 ∨ b = 2 ∨ b = 3 := by omega
  rcases h with rfl | rfl | rfl | rfl | rfl | rfl | rfl
  · exact ⟨5, by omega, by decide⟩
  · exact ⟨3, by omega, by decide⟩
  · exact ⟨1, by omega, by decide⟩
  · exact ⟨0, by omega, by decide⟩
  · exact ⟨2, by omega, by decide⟩
  · exact ⟨4, by omega, by decide⟩
  · exact ⟨6, by omega, by decide⟩
theorem M_far {b : Int} (hb : -3 ≤ b ∧ b ≤ 3) : fX4_far b = some (if 0 ≤ b then b else -b) := by
  unfold fX4_far
  by_cases c : 0 ≤ b
  · rw [if_pos c]; exact zyes (zLe_t c (by omega) (by omega)) rfl
  · rw [if_neg c]; exact zno (zLe_f (by omega) (by omega) (by omega)) rfl
