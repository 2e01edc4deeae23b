/-! ===== PURE: numbers of the law ===== -/
theorem zR_32 (x : Int32) : zR x.toInt := ⟨by have := Int32.le_toInt x; omega, by have := Int32.toInt_lt x; omega⟩
theorem zR_and (x y : Int) : zR (zand x y) := zR_32 _
theorem zR_shr (x y : Int) : zR (zshr x y) := zR_32 _
theorem zR_rem (x y : Int) : zR (zirem x y) := zR_32 _
theorem zand_m (x : Int) {m : Nat} (hm : m < 2147483648) : 0 ≤ zand x (m : Int) ∧ zand x (m : Int) ≤ (m : Int) := by
  unfold zand
  rw [zI_nat]
  have e : (zI x &&& nI m).toInt = (zI x &&& nI m).toBitVec.toInt := rfl
  have h1 : (zI x &&& nI m).toBitVec.toNat ≤ m := by
    rw [Int32.toBitVec_and, BitVec.toNat_and]
    refine Nat.le_trans Nat.and_le_right ?_
    show (BitVec.ofNat 32 m).toNat ≤ m
    rw [BitVec.toNat_ofNat]
    exact Nat.mod_le _ _
  rw [e, BitVec.toInt_eq_toNat_of_lt (by omega)]
  omega
theorem zirem_n {a k : Nat} (ha : a < 2147483648) (hk : 0 < k) (hk2 : k < 2147483648) : zirem (a : Int) (k : Int) = ((a % k : Nat) : Int) := by
  have h := Nat.mod_lt a hk
  unfold zirem
  rw [zI_nat, zI_nat, pk_rem ha hk hk2, ← zI_nat]
  exact zI_get ⟨by omega, by omega⟩
theorem Z_low (x : Int) {m : Nat} (hm : 0 < m) (hm2 : m < 2147483648) : ∃ v : Nat, v < m ∧ fL_low x (m : Int) = some (v : Int) := by
  have h := zand_m x (m := 2147483647) (by omega)
  obtain ⟨a, ha⟩ := Int.eq_ofNat_of_zero_le h.1
  refine ⟨a % m, Nat.mod_lt _ hm, ?_⟩
  unfold fL_low
  refine zok (zE_f (by omega) (by omega) (by omega) (by omega) (by omega)) ?_
  have e : zand x 2147483647 = (a : Int) := ha
  rw [e, zirem_n (by omega) hm hm2]
theorem Z_cell {L : Nat} (hL : L ≤ 260) {zsc : Nat → Int} (hz : ∀ j, zR (zsc j)) {k : Nat} (hk : k ≤ 200) : ∃ v, fL_cell L zsc (k : Int) = some v ∧ zR v := by
  unfold fL_cell
  by_cases c : L ≤ k
  · exact ⟨_, zyes (zLe_t (by omega) (by omega) (by omega)) rfl, by omega, by omega⟩
  · exact ⟨_, zno (zLe_f (by omega) (by omega) (by omega)) (zok ⟨by omega, by omega⟩ rfl), hz _⟩
/-! ===== PURE: sameGroup, same ===== -/
def zSG (o p : zXT) (k : Int) : Prop := (∀ w : Int, 0 ≤ w → w ≤ 4 → ∃ a, fX3_group o k w = some a ∧ fX3_group p k w = some a) ∧ (∀ w : Int, 0 ≤ w → w ≤ 4 → ∃ a, fX3_track o k w = some a ∧ fX3_track p k w = some a) ∧ (∀ j : Int, 0 ≤ j ∧ j ≤ 5 → ∀ w : Int, 0 ≤ w → w ≤ 1 → ∃ a, fX3_member o k j w = some a ∧ fX3_member p k j w = some a) ∧ ∃ a, fX3_group o k 0 = some a ∧ 0 ≤ a ∧ a < 2147483648
theorem LW_sg1 {o p : zXT} {k : Int} (h : zSG o p k) : ∀ (d i zn : Nat), i + d = 5 → d < zn → fL_sameGroup_L2 zn o p k (i : Int) = some () := by
  intro d
  induction d with
  | zero =>
    intro i zn hi hz
    obtain ⟨zn, rfl⟩ : ∃ q, zn = q + 1 := ⟨zn - 1, by omega⟩
    rw [fL_sameGroup_L2_s]
    exact zyes (zLe_t (by omega) (by omega) (by omega)) rfl
  | succ d ih =>
    intro i zn hi hz
    obtain ⟨zn, rfl⟩ : ∃ q, zn = q + 1 := ⟨zn - 1, by omega⟩
    rw [fL_sameGroup_L2_s]
    obtain ⟨a, a1, a2⟩ := h.1 (i : Int) (by omega) (by omega)
    obtain ⟨b, b1, b2⟩ := h.2.1 (i : Int) (by omega) (by omega)
    exact zno (zLe_f (by omega) (by omega) (by omega)) (zb a1 (zb a2 (zyes (zE_t rfl) (zb b1 (zb b2 (zyes (zE_t rfl) (ih (i + 1) zn (by omega) (by omega))))))))
theorem LW_sg2 {o p : zXT} {k : Int} (h : zSG o p k) : ∀ (d i zn : Nat), i + d = 6 → d < zn → fL_sameGroup_L47 zn o p k (i : Int) = some () := by
  intro d
  induction d with
  | zero =>
    intro i zn hi hz
    obtain ⟨zn, rfl⟩ : ∃ q, zn = q + 1 := ⟨zn - 1, by omega⟩
    rw [fL_sameGroup_L47_s]
    exact zyes (zLe_t (by omega) (by omega) (by omega)) rfl
  | succ d ih =>
    intro i zn hi hz
    obtain ⟨zn, rfl⟩ : ∃ q, zn = q + 1 := ⟨zn - 1, by omega⟩
    rw [fL_sameGroup_L47_s]
    obtain ⟨a, a1, a2⟩ := h.2.2.1 (i : Int) (by omega) 0 (by omega) (by omega)
    obtain ⟨b, b1, b2⟩ := h.2.2.1 (i : Int) (by omega) 1 (by omega) (by omega)
    exact zno (zLe_f (by omega) (by omega) (by omega)) (zb a1 (zb a2 (zyes (zE_t rfl) (zb b1 (zb b2 (zyes (zE_t rfl) (ih (i + 1) zn (by omega) (by omega))))))))
theorem LW_sameGroup {o p : zXT} {k : Int} (h : zSG o p k) : fL_sameGroup o p k = some 1 := by
  obtain ⟨a, a1, a2, a3⟩ := h.2.2.2
  unfold fL_sameGroup
  exact zb (LW_sg1 h 5 0 zF (by omega) (by unfold zF; omega)) (zb (LW_sg2 h 6 0 zF (by omega) (by unfold zF; omega)) (zb a1 (zno (zLt_f a2 (by omega) a3) rfl)))
section Same
variable {o p : zXT} {lag dead manner setting W P S : Nat → Int} {n : Nat} {ov late : Int}
theorem SG_twin (h : zH o lag dead manner setting W P S n ov late) (h' : zH p lag dead manner setting W P S n ov late) {k : Nat} (hk : (k : Int) < zg_size (zx_groups o)) : zSG o p (k : Int) := by
  obtain ⟨g, g1, g2⟩ := H_size h
  have r : zR (k : Int) := ⟨by omega, by omega⟩
  exact ⟨fun w w0 w4 => E_group h h' r ⟨by omega, by omega⟩, fun w w0 w4 => E_track h h' r ⟨by omega, by omega⟩, fun j hj w w0 w1 => E_member h h' r ⟨by omega, by omega⟩ ⟨by omega, by omega⟩, (K_all h h (zPf_same g1 rfl rfl rfl) hk).2.2.2⟩
theorem SG_mid {p1 p2 : zXT} {W1 P1 S1 : Nat → Int} {n1 : Nat} {ov1 late1 : Int} (h1 : zH p1 lag dead manner setting W1 P1 S1 n1 ov1 late1) (h2 : zH p2 lag dead manner setting W P S n ov late) (h : zH o lag dead manner setting W P S n ov late) (hp : zPf p1 p2) {k : Nat} (hk : (k : Int) < zg_size (zx_groups p1)) : zSG p1 o (k : Int) := by
  obtain ⟨a, b, c, d⟩ := K_all h1 h2 hp hk
  obtain ⟨g, g1, g2⟩ := H_size h1
  have r : zR (k : Int) := ⟨by omega, by omega⟩
  refine ⟨fun w w0 w4 => ?_, fun w w0 w4 => ?_, fun j hj w w0 w1 => ?_, d⟩
  · obtain ⟨x, x1, x2⟩ := a w w0 w4
    obtain ⟨y, y1, y2⟩ := E_group h2 h r (p2 := w) ⟨by omega, by omega⟩
    rw [x2] at y1
    cases y1
    exact ⟨x, x1, y2⟩
  · obtain ⟨x, x1, x2⟩ := b w w0 w4
    obtain ⟨y, y1, y2⟩ := E_track h2 h r (p2 := w) ⟨by omega, by omega⟩
    rw [x2] at y1
    cases y1
    exact ⟨x, x1, y2⟩
  · obtain ⟨x, x1, x2⟩ := c j hj w w0 w1
    obtain ⟨y, y1, y2⟩ := E_member h2 h r (p2 := j) (p3 := w) ⟨by omega, by omega⟩ ⟨by omega, by omega⟩
    rw [x2] at y1
    cases y1
    exact ⟨x, x1, y2⟩
theorem N_many {t : zXT} : fX3_many t 7 = some (zg_size (zx_groups t)) ∧ fX3_many t 1 = some (zx_tooLate t) ∧ fX3_many t 2 = some (zr_size (zx_keptRow t)) ∧ fX3_many t 3 = some (zx_settled t) ∧ fX3_many t 0 = some (zr_size (zx_keptRow t) + zx_tooLate t) ∧ fX3_many t 4 = some (zr_size (zx_liveRow t)) ∧ fX3_many t 5 = some (zx_settled t - zr_size (zx_liveRow t)) ∧ fX3_many t 11 = Option.bind (fX3_horizon t) (fun r => some (r + 2000)) ∧ fX3_many t 9 = Option.bind (fX0_pulses (zx_groups t)) (fun r => some r) := by
  have d : ∀ a b : Int, (0 ≤ a ∧ a ≤ 20) → (0 ≤ b ∧ b ≤ 20) → a ≠ b → ¬ zE a b := fun a b h1 h2 h3 => zE_f h3 (by omega) (by omega) (by omega) (by omega)
  unfold fX3_many
  refine ⟨?_, ?_, ?_, ?_, ?_, ?_, ?_, ?_, ?_⟩
  · exact zno (d 7 0 (by omega) (by omega) (by omega)) (zno (d 7 1 (by omega) (by omega) (by omega)) (zno (d 7 2 (by omega) (by omega) (by omega)) (zno (d 7 3 (by omega) (by omega) (by omega)) (zno (d 7 4 (by omega) (by omega) (by omega)) (zno (d 7 5 (by omega) (by omega) (by omega)) (zno (d 7 6 (by omega) (by omega) (by omega)) (zyes (zE_t rfl) rfl)))))))
  · exact zno (d 1 0 (by omega) (by omega) (by omega)) (zyes (zE_t rfl) rfl)
  · exact zno (d 2 0 (by omega) (by omega) (by omega)) (zno (d 2 1 (by omega) (by omega) (by omega)) (zyes (zE_t rfl) rfl))
  · exact zno (d 3 0 (by omega) (by omega) (by omega)) (zno (d 3 1 (by omega) (by omega) (by omega)) (zno (d 3 2 (by omega) (by omega) (by omega)) (zyes (zE_t rfl) rfl)))
  · exact zyes (zE_t rfl) rfl
  · exact zno (d 4 0 (by omega) (by omega) (by omega)) (zno (d 4 1 (by omega) (by omega) (by omega)) (zno (d 4 2 (by omega) (by omega) (by omega)) (zno (d 4 3 (by omega) (by omega) (by omega)) (zyes (zE_t rfl) rfl))))
  · exact zno (d 5 0 (by omega) (by omega) (by omega)) (zno (d 5 1 (by omega) (by omega) (by omega)) (zno (d 5 2 (by omega) (by omega) (by omega)) (zno (d 5 3 (by omega) (by omega) (by omega)) (zno (d 5 4 (by omega) (by omega) (by omega)) (zyes (zE_t rfl) rfl)))))
  · exact zno (d 11 0 (by omega) (by omega) (by omega)) (zno (d 11 1 (by omega) (by omega) (by omega)) (zno (d 11 2 (by omega) (by omega) (by omega)) (zno (d 11 3 (by omega) (by omega) (by omega)) (zno (d 11 4 (by omega) (by omega) (by omega)) (zno (d 11 5 (by omega) (by omega) (by omega)) (zno (d 11 6 (by omega) (by omega) (by omega)) (zno (d 11 7 (by omega) (by omega) (by omega)) (zno (d 11 8 (by omega) (by omega) (by omega)) (zno (d 11 9 (by omega) (by omega) (by omega)) (zno (d 11 10 (by omega) (by omega) (by omega)) (zyes (zE_t rfl) rfl)))))))))))
  · exact zno (d 9 0 (by omega) (by omega) (by omega)) (zno (d 9 1 (by omega) (by omega) (by omega)) (zno (d 9 2 (by omega) (by omega) (by omega)) (zno (d 9 3 (by omega) (by omega) (by omega)) (zno (d 9 4 (by omega) (by omega) (by omega)) (zno (d 9 5 (by omega) (by omega) (by omega)) (zno (d 9 6 (by omega) (by omega) (by omega)) (zno (d 9 7 (by omega) (by omega) (by omega)) (zno (d 9 8 (by omega) (by omega) (by omega)) (zyes (zE_t rfl) rfl)))))))))
theorem H_gsame (h : zH o lag dead manner setting W P S n ov late) (h' : zH p lag dead manner setting W P S n ov late) : zg_size (zx_groups p) = zg_size (zx_groups o) := by
  obtain ⟨a, a1, a2⟩ := E_many h h' (p1 := 7) ⟨by omega, by omega⟩
  rw [N_many.1] at a1 a2
  cases a1
  exact Option.some.inj a2
theorem LW_s1 (h : zH o lag dead manner setting W P S n ov late) (h' : zH p lag dead manner setting W P S n ov late) {g : Nat} (hg : zg_size (zx_groups o) = (g : Int)) (hg2 : g ≤ 240) (c : Int) : ∀ (d i zn : Nat), i + d = g → d < zn → fL_same_L22 zn o p c (g : Int) (i : Int) = some () := by
  intro d
  induction d with
  | zero =>
    intro i zn hi hz
    obtain ⟨zn, rfl⟩ : ∃ q, zn = q + 1 := ⟨zn - 1, by omega⟩
    rw [fL_same_L22_s]
    exact zyes (zLe_t (by omega) (by omega) (by omega)) rfl
  | succ d ih =>
    intro i zn hi hz
    obtain ⟨zn, rfl⟩ : ∃ q, zn = q + 1 := ⟨zn - 1, by omega⟩
    rw [fL_same_L22_s]
    exact zno (zLe_f (by omega) (by omega) (by omega)) (zb (LW_sameGroup (SG_twin h h' (by omega))) (zno z10 (ih (i + 1) zn (by omega) (by omega))))
theorem LW_s2 (h : zH o lag dead manner setting W P S n ov late) (h' : zH p lag dead manner setting W P S n ov late) (c : Int) : ∀ (d i zn : Nat), i + d = 13 → d < zn → fL_same_L49 zn o p c (i : Int) = some () := by
  intro d
  induction d with
  | zero =>
    intro i zn hi hz
    obtain ⟨zn, rfl⟩ : ∃ q, zn = q + 1 := ⟨zn - 1, by omega⟩
    rw [fL_same_L49_s]
    exact zyes (zLe_t (by omega) (by omega) (by omega)) rfl
  | succ d ih =>
    intro i zn hi hz
    obtain ⟨zn, rfl⟩ : ∃ q, zn = q + 1 := ⟨zn - 1, by omega⟩
    rw [fL_same_L49_s]
    obtain ⟨a, a1, a2⟩ := E_many h h' (p1 := (i : Int)) ⟨by omega, by omega⟩
    exact zno (zLe_f (by omega) (by omega) (by omega)) (zb a1 (zb a2 (zyes (zE_t rfl) (ih (i + 1) zn (by omega) (by omega)))))
theorem LW_s3 (h : zH o lag dead manner setting W P S n ov late) (h' : zH p lag dead manner setting W P S n ov late) (c : Int) {k : Nat} (hk : k < 6) : ∀ (d i zn : Nat), i + d = 6 → d < zn → fL_same_L92 zn o p c (k : Int) (i : Int) = some () := by
  intro d
  induction d with
  | zero =>
    intro i zn hi hz
    obtain ⟨zn, rfl⟩ : ∃ q, zn = q + 1 := ⟨zn - 1, by omega⟩
    rw [fL_same_L92_s]
    exact zyes (zLe_t (by omega) (by omega) (by omega)) rfl
  | succ d ih =>
    intro i zn hi hz
    obtain ⟨zn, rfl⟩ : ∃ q, zn = q + 1 := ⟨zn - 1, by omega⟩
    rw [fL_same_L92_s]
    obtain ⟨a, a1, a2⟩ := E_ofPlane h h' (p1 := (k : Int)) (p2 := (i : Int)) ⟨by omega, by omega⟩ ⟨by omega, by omega⟩
    exact zno (zLe_f (by omega) (by omega) (by omega)) (zb a1 (zb a2 (zyes (zE_t rfl) (ih (i + 1) zn (by omega) (by omega)))))
theorem LW_s4 (h : zH o lag dead manner setting W P S n ov late) (h' : zH p lag dead manner setting W P S n ov late) (c : Int) : ∀ (d i zn : Nat), i + d = 6 → d < zn → fL_same_L82 zn o p c (i : Int) = some () := by
  intro d
  induction d with
  | zero =>
    intro i zn hi hz
    obtain ⟨zn, rfl⟩ : ∃ q, zn = q + 1 := ⟨zn - 1, by omega⟩
    rw [fL_same_L82_s]
    exact zyes (zLe_t (by omega) (by omega) (by omega)) rfl
  | succ d ih =>
    intro i zn hi hz
    obtain ⟨zn, rfl⟩ : ∃ q, zn = q + 1 := ⟨zn - 1, by omega⟩
    rw [fL_same_L82_s]
    have ri : zR (i : Int) := ⟨by omega, by omega⟩
    have r0 : zR 0 := ⟨by omega, by omega⟩
    have r1 : zR 1 := ⟨by omega, by omega⟩
    have l3 := LW_s3 h h' c (k := i) (by omega) 6 0 zF (by omega) (by unfold zF; omega)
    obtain ⟨v, v1, v2⟩ := Z_low c (m := 5) (by omega) (by omega)
    have hm := zand_m (zshr c 4) (m := 31) (by omega)
    have hr := zR_rem (((i : Int) + 1) + (v : Int)) 6
    obtain ⟨a, a1, a2⟩ := E_live h h' ri
    obtain ⟨b, b1, b2, b3⟩ := E_rate h h' ri r0
    obtain ⟨e, e1, e2, e3⟩ := E_rate h h' ri r1
    obtain ⟨f, f1, f2, f3⟩ := E_expected h h' ri hr r0
    obtain ⟨q, q1, q2⟩ := E_twos h h' ri hr (p3 := (zand (zshr c 4) 31) - 16) ⟨by have := hm.1; show -2147483648 ≤ zand (zshr c 4) ((31 : Nat) : Int) - 16; omega, by have := hm.2; show zand (zshr c 4) ((31 : Nat) : Int) - 16 < _; omega⟩
    refine zno (zLe_f (by omega) (by omega) (by omega)) (zb l3 (zb v2 (zok (zE_f (by omega) (by omega) (by omega) (by omega) (by omega)) (zlet ?_))))
    exact zb a1 (zb a2 (zyes (zE_t rfl) (zb b1 (zb b2 (zyes b3 (zb e1 (zb e2 (zyes e3 (zb f1 (zb f2 (zyes f3 (zb q1 (zb q2 (zyes (zE_t rfl) (ih (i + 1) zn (by omega) (by omega))))))))))))))))
theorem LW_same (h : zH o lag dead manner setting W P S n ov late) (h' : zH p lag dead manner setting W P S n ov late) (c : Int) : ∃ r r', fL_same o p c = some (1, zNS o r, zNS p r') := by
  obtain ⟨g, g1, g2⟩ := H_size h
  have hgs := H_gsame h h'
  have l1 := LW_s1 h h' g1 g2 c g 0 zF (by omega) (by unfold zF; omega)
  have l2 := LW_s2 h h' c 13 0 zF (by omega) (by unfold zF; omega)
  have l4 := LW_s4 h h' c 6 0 zF (by omega) (by unfold zF; omega)
  obtain ⟨a, ρ, ρ', a1, a2⟩ := E_shifted h h' (zR_and c 63) (zR_and (zshr c 6) 63)
  have k := H_shf h (a, ρ)
  have k' := H_shf h' (a, ρ')
  have r1 : zR 1 := ⟨by omega, by omega⟩
  obtain ⟨b, b1, b2⟩ := E_having k k' (zR_and (zshr c 12) 63) r1
  obtain ⟨v, v1, v2⟩ := Z_low c (m := 6) (by omega) (by omega)
  obtain ⟨e, e1, e2⟩ := E_through k k' (p1 := (v : Int)) ⟨by omega, by omega⟩ (zR_and (zshr c 18) 15)
  refine ⟨(a, ρ), (a, ρ'), ?_⟩
  unfold fL_same
  refine zb N_many.1 (zb N_many.1 (zyes (zE_t hgs) ?_))
  refine zb (by rw [g1]; exact l1) (zb l2 (zb l4 ?_))
  exact zb a1 (zb a2 (zyes (zE_t rfl) (zb b1 (zb b2 (zyes (zE_t rfl) (zb v2 (zb e1 (zb v2 (zb e2 (zyes (zE_t rfl) rfl))))))))))
end Same
