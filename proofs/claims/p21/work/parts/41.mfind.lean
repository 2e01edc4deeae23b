/-! ===== PURE: the reference: the search of a track ===== -/
def zah (C M b bA bB bAg bMi : Int) : Bool := if C = bAg then (if M = bMi then (if (if 0 ≤ b then b else -b) = (if 0 ≤ bB then bB else -bB) then decide (b < bB) else decide ((if 0 ≤ b then b else -b) < (if 0 ≤ bB then bB else -bB))) else decide (M < bMi)) else decide (bAg < C)
theorem M_ahead {t : zMT} {C O M b bA bB bAg bMi : Int} (e1 : zm_agrees t = C) (e2 : zm_missed t = M) (e3 : zm_bestB t = bB) (e4 : zm_bestAgrees t = bAg) (e5 : zm_bestMissed t = bMi) (hC : 0 ≤ C ∧ C ≤ 6) (hM : 0 ≤ M ∧ M ≤ 18) (hb : -3 ≤ b ∧ b ≤ 3) (hA : -1 ≤ bAg ∧ bAg ≤ 6) (hx : bAg ≠ -1 → (-3 ≤ bB ∧ bB ≤ 3) ∧ (0 ≤ bMi ∧ bMi ≤ 18)) : fX4_isAhead t b = some (if zah C M b bA bB bAg bMi = true then 1 else 0) := by
  unfold fX4_isAhead zah
  rw [e1, e2, e3, e4, e5]
  by_cases c1 : C = bAg
  · obtain ⟨hB, hm⟩ := hx (by omega)
    rw [if_pos c1]
    refine zyes (zE_t c1) ?_
    by_cases c2 : M = bMi
    · rw [if_pos c2]
      refine zyes (zE_t c2) (zb (M_far hb) (zb (M_far hB) ?_))
      by_cases c3 : (if 0 ≤ b then b else -b) = (if 0 ≤ bB then bB else -bB)
      · rw [if_pos c3]
        refine zyes (zE_t c3) ?_
        by_cases c4 : b < bB
        · rw [decide_eq_true c4]; exact zno (zLe_f c4 (by omega) (by omega)) rfl
        · rw [decide_eq_false c4]; exact zyes (zLe_t (by omega) (by omega) (by omega)) rfl
      · rw [if_neg c3]
        have q1 : 0 ≤ (if 0 ≤ b then b else -b) ∧ (if 0 ≤ b then b else -b) ≤ 3 := by split <;> omega
        have q2 : 0 ≤ (if 0 ≤ bB then bB else -bB) ∧ (if 0 ≤ bB then bB else -bB) ≤ 3 := by split <;> omega
        refine zno (zE_f c3 (by omega) (by omega) (by omega) (by omega)) (zb (M_far hb) (zb (M_far hB) ?_))
        by_cases c4 : (if 0 ≤ b then b else -b) < (if 0 ≤ bB then bB else -bB)
        · rw [decide_eq_true c4]; exact zno (zLe_f c4 (by omega) (by omega)) rfl
        · rw [decide_eq_false c4]; exact zyes (zLe_t (by omega) (by omega) (by omega)) rfl
    · rw [if_neg c2]
      refine zno (zE_f c2 (by omega) (by omega) (by omega) (by omega)) ?_
      by_cases c4 : M < bMi
      · rw [decide_eq_true c4]; exact zno (zLe_f c4 (by omega) (by omega)) rfl
      · rw [decide_eq_false c4]; exact zyes (zLe_t (by omega) (by omega) (by omega)) rfl
  · rw [if_neg c1]
    refine zno (zE_f c1 (by omega) (by omega) (by omega) (by omega)) ?_
    by_cases c4 : bAg < C
    · rw [decide_eq_true c4]; exact zno (zLe_f c4 (by omega) (by omega)) rfl
    · rw [decide_eq_false c4]; exact zyes (zLe_t (by omega) (by omega) (by omega)) rfl
/-- line q comes before (a, b) in the reference's order -/
def zsn (a b : Int) (q : Nat) : Prop := zqA q < a ∨ (zqA q = a ∧ zqB q < b)
def zRB (s : Nat → Int) (c : Int) (a b bA bB bAg bMi : Int) : Prop := (bAg = -1 ∧ ∀ q, q < 112 → ¬ zsn a b q) ∨ ∃ p, p < 112 ∧ zsn a b p ∧ bA = zqA p ∧ bB = zqB p ∧ bAg = zqC s c p ∧ bMi = zqM s c p ∧ ∀ q, q < 112 → zsn a b q → zqK s c p ≤ zqK s c q
theorem zq_of {a b : Int} (ha : 0 ≤ a ∧ a ≤ 15) (hb : -3 ≤ b ∧ b ≤ 3) : ∃ p, p < 112 ∧ zqA p = a ∧ zqB p = b := by
  obtain ⟨r, r1, r2⟩ := zrk_of hb
  refine ⟨r * 16 + a.toNat, by omega, ?_, ?_⟩
  · unfold zqA; omega
  · unfold zqB; rw [show (r * 16 + a.toNat) / 16 = r by omega]; exact r2
theorem zq_uniq {p q : Nat} (hp : p < 112) (hq : q < 112) (ha : zqA p = zqA q) (hb : zqB p = zqB q) : p = q := by
  have h1 := zS0_rk (p / 16) (by omega) _ rfl
  have h2 := zS0_rk (q / 16) (by omega) _ rfl
  unfold zqA at ha
  unfold zqB at hb
  rw [hb] at h1
  omega
theorem zRB_step {s : Nat → Int} {c a b bA bB bAg bMi : Int} (hs : zStr s) (hc : 0 ≤ c ∧ c ≤ 3) (hb : -3 ≤ b ∧ b ≤ 3) {p : Nat} (hp : p < 112) (pa : zqA p = a) (pb : zqB p = b) (h : zRB s c a b bA bB bAg bMi) :
    zRB s c a (b + 1) (if zah (zqC s c p) (zqM s c p) b bA bB bAg bMi = true then a else bA) (if zah (zqC s c p) (zqM s c p) b bA bB bAg bMi = true then b else bB) (if zah (zqC s c p) (zqM s c p) b bA bB bAg bMi = true then zqC s c p else bAg) (if zah (zqC s c p) (zqM s c p) b bA bB bAg bMi = true then zqM s c p else bMi) := by
  have hbp := zqM_b hs hc p
  have hsn : ∀ q, q < 112 → (zsn a (b + 1) q ↔ (zsn a b q ∨ q = p)) := by
    intro q hq
    unfold zsn
    constructor
    · rintro (z | ⟨z1, z2⟩)
      · exact Or.inl (Or.inl z)
      · by_cases e : zqB q = b
        · exact Or.inr (zq_uniq hq hp (by omega) (by omega))
        · exact Or.inl (Or.inr ⟨z1, by omega⟩)
    · rintro ((z | ⟨z1, z2⟩) | z)
      · exact Or.inl z
      · exact Or.inr ⟨z1, by omega⟩
      · subst z; exact Or.inr ⟨pa, by omega⟩
  rcases h with ⟨rfl, h0⟩ | ⟨r, hr, hrs, rfl, rfl, rfl, rfl, hmin⟩
  · have e : zah (zqC s c p) (zqM s c p) b bA bB (-1) bMi = true := by
      unfold zah
      rw [if_neg (by omega)]
      exact decide_eq_true (by omega)
    rw [if_pos e, if_pos e, if_pos e, if_pos e]
    refine Or.inr ⟨p, hp, (hsn p hp).mpr (Or.inr rfl), pa.symm, pb.symm, rfl, rfl, fun q hq hz => ?_⟩
    rcases (hsn q hq).mp hz with z | z
    · exact absurd z (h0 q hq)
    · subst z; exact Int.le_refl _
  · have hbr := zqM_b hs hc r
    have k1 := zS0_rk (p / 16) (by omega) _ rfl
    have k2 := zS0_rk (r / 16) (by omega) _ rfl
    have pb' : zS0 (p / 16) = b := pb
    have pa' : ((p % 16 : Nat) : Int) = a := pa
    have hrb := zS0_b (r / 16)
    have key : zah (zqC s c p) (zqM s c p) b (zqA r) (zqB r) (zqC s c r) (zqM s c r) = true ↔ zqK s c p < zqK s c r := by
      unfold zah zqK
      unfold zsn at hrs
      unfold zqA zqB at *
      rw [pb'] at k1
      by_cases c1 : zqC s c p = zqC s c r
      · rw [if_pos c1]
        by_cases c2 : zqM s c p = zqM s c r
        · rw [if_pos c2, c1, c2]
          by_cases c3 : (if 0 ≤ b then b else -b) = (if 0 ≤ zS0 (r / 16) then zS0 (r / 16) else -zS0 (r / 16))
          · rw [if_pos c3, decide_eq_true_eq]
            split at c3 <;> split at c3 <;> split at k1 <;> split at k2 <;> omega
          · rw [if_neg c3, decide_eq_true_eq]
            split at c3 <;> split at c3 <;> split at k1 <;> split at k2 <;> omega
        · rw [if_neg c2, c1, decide_eq_true_eq]
          omega
      · rw [if_neg c1, decide_eq_true_eq]
        omega
    by_cases hcd : zah (zqC s c p) (zqM s c p) b (zqA r) (zqB r) (zqC s c r) (zqM s c r) = true
    · have hlt := key.mp hcd
      rw [if_pos hcd, if_pos hcd, if_pos hcd, if_pos hcd]
      refine Or.inr ⟨p, hp, (hsn p hp).mpr (Or.inr rfl), pa.symm, pb.symm, rfl, rfl, fun q hq hz => ?_⟩
      rcases (hsn q hq).mp hz with z | z
      · have := hmin q hq z; omega
      · subst z; exact Int.le_refl _
    · have hge : ¬ (zqK s c p < zqK s c r) := fun z => hcd (key.mpr z)
      rw [if_neg hcd, if_neg hcd, if_neg hcd, if_neg hcd]
      refine Or.inr ⟨r, hr, (hsn r hr).mpr (Or.inl hrs), rfl, rfl, rfl, rfl, fun q hq hz => ?_⟩
      rcases (hsn q hq).mp hz with z | z
      · exact hmin q hq z
      · subst z; omega
