/-! ===== PURE: the live time ===== -/
def zmx (e : Int) : Int := if 0 < e then e else 0
def zmn (a b : Int) : Int := if a ≤ b then a else b
theorem zmax_0 {e : Int} (h1 : -2147483648 ≤ e) (h2 : e < 2147483648) : zmax 0 e = zmx e := by
  unfold zmax zmx
  by_cases c : 0 < e
  · rw [if_pos c, if_pos (zLt_t c (by omega) h2)]
  · rw [if_neg c, if_neg (zLt_f (by omega) h1 (by omega))]
theorem zmx_b (e : Int) : 0 ≤ zmx e ∧ e ≤ zmx e ∧ (zmx e = 0 ∨ zmx e = e) := by
  unfold zmx
  split <;> omega
/-- one more pulse at the moment m: what was free so far, and until when it is dead -/
def zltS (d : Int) (s : Int × Int) (m : Int) : Int × Int := (s.1 + zmx (m - s.2), m + d)
def zltm (w : Nat → Int) (b : Nat → Bool) (lg d : Int) : Nat → Int × Int
  | 0 => (0, 0)
  | i + 1 => if b i = true then zltS d (zltm w b lg d i) (w i + lg) else zltm w b lg d i
theorem zltm_yes {w : Nat → Int} {b : Nat → Bool} {lg d : Int} {i : Nat} (h : b i = true) : zltm w b lg d (i + 1) = zltS d (zltm w b lg d i) (w i + lg) := if_pos h
theorem zltm_no {w : Nat → Int} {b : Nat → Bool} {lg d : Int} {i : Nat} (h : ¬ b i = true) : zltm w b lg d (i + 1) = zltm w b lg d i := if_neg h
theorem zltm_congr {w : Nat → Int} {b b' : Nat → Bool} {lg d : Int} : ∀ x, (∀ i, i < x → b i = b' i) → zltm w b lg d x = zltm w b' lg d x := by
  intro x
  induction x with
  | zero => intro _; rfl
  | succ x ih =>
    intro h
    have e := ih (fun i hi => h i (by omega))
    have hx := h x (by omega)
    by_cases c : b x = true
    · rw [zltm_yes c, zltm_yes (by rw [← hx]; exact c), e]
    · rw [zltm_no c, zltm_no (by rw [← hx]; exact c), e]
theorem zltm_b {w : Nat → Int} {b : Nat → Bool} {lg d : Int} {n : Nat} (hd : 0 ≤ d ∧ d ≤ 50) (h : ∀ i, i < n → -200 ≤ w i + lg ∧ w i + lg ≤ 31000) : ∀ x, x ≤ n → 0 ≤ (zltm w b lg d x).1 ∧ -200 ≤ (zltm w b lg d x).2 ∧ (zltm w b lg d x).2 ≤ 31050 := by
  intro x
  induction x with
  | zero => intro _; exact ⟨Int.le_refl _, by show (-200 : Int) ≤ 0; omega, by show (0 : Int) ≤ 31050; omega⟩
  | succ x ih =>
    intro hx
    have i := ih (by omega)
    have hw := h x (by omega)
    have z := zmx_b (w x + lg - (zltm w b lg d x).2)
    by_cases c : b x = true
    · rw [zltm_yes c]
      show 0 ≤ (zltm w b lg d x).1 + zmx (w x + lg - (zltm w b lg d x).2) ∧ -200 ≤ w x + lg + d ∧ w x + lg + d ≤ 31050
      omega
    · rw [zltm_no c]; exact i
/-- the same over a row's list -/
def zltL (q lg d : Int) (l : List zP3) : Int × Int := ((l.filter (fun a => decide (a.2.1 = q))).map (fun a => a.1 + lg)).foldl (zltS d) (0, 0)
theorem zltL_app {q lg d : Int} (l : List zP3) (a : zP3) : zltL q lg d (l ++ [a]) = if a.2.1 = q then zltS d (zltL q lg d l) (a.1 + lg) else zltL q lg d l := by
  unfold zltL
  rw [List.filter_append]
  by_cases c : a.2.1 = q
  · rw [if_pos c, List.filter_cons_of_pos (by exact decide_eq_true c), List.filter_nil, List.map_append, List.foldl_append]
    rfl
  · rw [if_neg c, List.filter_cons_of_neg (by exact fun z => c (of_decide_eq_true z)), List.filter_nil, List.append_nil]
theorem zltm_row (w p s : Nat → Int) (q lg d : Int) : ∀ n, zltm w (fun i => decide (p i = q)) lg d n = zltL q lg d (zrl w p s n) := by
  intro n
  induction n with
  | zero => rfl
  | succ n ih =>
    rw [zrl_succ, zltL_app, ← ih]
    by_cases c : p n = q
    · rw [zltm_yes (decide_eq_true c), if_pos c]
    · rw [zltm_no (fun z => c (of_decide_eq_true z)), if_neg c]
theorem zltL_ins {q lg d : Int} {l : List zP3} {a : zP3} (hs : l.Pairwise zle) (h : a.2.1 = q → ∀ b, b ∈ l → b.2.1 = q → zle b a) : zltL q lg d (zins a l) = if a.2.1 = q then zltS d (zltL q lg d l) (a.1 + lg) else zltL q lg d l := by
  unfold zltL
  rw [zins_filter _ hs]
  by_cases c : a.2.1 = q
  · have e := zins_split (a := a) (l1 := l.filter (fun a => decide (a.2.1 = q))) (l2 := []) (fun b hb => h c b (List.mem_filter.mp hb).1 (of_decide_eq_true (List.mem_filter.mp hb).2)) (fun b hb => by cases hb)
    rw [List.append_nil] at e
    rw [if_pos (decide_eq_true c), if_pos c, e, List.map_append, List.foldl_append]
    rfl
  · rw [if_neg (fun z => c (of_decide_eq_true z)), if_neg c]
theorem zLR_mem {lag dead manner W P S : Nat → Int} {a : zP3} : ∀ x, a ∈ zLR lag dead manner W P S x → ∃ i, i < x ∧ a = (W i - lag (P i).toNat, P i, S i) := by
  intro x
  induction x with
  | zero => intro h; cases h
  | succ x ih =>
    intro h
    unfold zLR zSR at h
    by_cases c : zlv W P dead manner x = true ∧ W x - lag (P x).toNat < 100000
    · rw [if_pos c] at h
      rcases zins_mem.mp h with e | h
      · exact ⟨x, by omega, by rw [e, Int.add_zero]⟩
      · obtain ⟨i, i1, i2⟩ := ih h
        exact ⟨i, by omega, i2⟩
    · rw [if_neg c] at h
      obtain ⟨i, i1, i2⟩ := ih h
      exact ⟨i, by omega, i2⟩
theorem zLR_time {lag dead manner setting W P S : Nat → Int} {n : Nat} {ov : Int} (hv : zVal lag dead manner setting W P S n ov) {q d : Int} : ∀ x, x ≤ n → zltL q (lag q.toNat) d (zLR lag dead manner W P S x) = zltm W (fun i => decide (P i = q) && zlv W P dead manner i) 0 d x := by
  intro x
  induction x with
  | zero => intro _; rfl
  | succ x ih =>
    intro hx
    have ih := ih (by omega)
    have hs : (zLR lag dead manner W P S x).Pairwise zle := zSR_sorted lag dead manner W P S 100000 (fun _ => 0) x
    have hw := hv.2.1.2.1 x (by omega)
    have hlg := (hv.1.1 (P x).toNat (by omega)).1
    by_cases c : zlv W P dead manner x = true
    · have e : zLR lag dead manner W P S (x + 1) = zins (W x - lag (P x).toNat, P x, S x) (zLR lag dead manner W P S x) := by
        show ite _ _ _ = _
        rw [if_pos ⟨c, by omega⟩, Int.add_zero]
        rfl
      rw [e, zltL_ins hs]
      · show (if P x = q then zltS d _ (W x - lag (P x).toNat + lag q.toNat) else _) = _
        rw [ih]
        by_cases cp : P x = q
        · rw [if_pos cp, zltm_yes (by rw [decide_eq_true cp, c]; rfl), cp]
          congr 1
          omega
        · rw [if_neg cp, zltm_no (by rw [decide_eq_false cp]; exact Bool.false_ne_true)]
      · intro ea b hb eb
        obtain ⟨i, i1, rfl⟩ := zLR_mem x hb
        have ea : P x = q := ea
        have eb : P i = q := eb
        have h1 := zrl_sorted.mp hv.2.1.2.2 i x i1 (by omega)
        rw [ea, eb] at h1 ⊢
        have h1 : W i < W x ∨ (W i = W x ∧ (q < q ∨ (q = q ∧ S i ≤ S x))) := h1
        show W i - lag q.toNat < W x - lag q.toNat ∨ (W i - lag q.toNat = W x - lag q.toNat ∧ (q < q ∨ (q = q ∧ S i ≤ S x)))
        omega
    · have e : zLR lag dead manner W P S (x + 1) = zLR lag dead manner W P S x := by
        show ite _ _ _ = _
        rw [if_neg (fun z => c z.1)]
        rfl
      rw [e, ih, zltm_no (by rw [Bool.and_eq_true]; exact fun z => c z.2)]
section TimeX
variable {t : zXT} {lw lp ls dead : Nat → Int} {ml : Nat} {q lg : Int}
theorem X_time_live (hr : zx_liveRow t = zk_R lw lp ls (ml : Int)) (hml : ml ≤ 240) (hok : zok3 lw lp ls ml) (hdt : zx_dead t = dead) (hq : 0 ≤ q ∧ q ≤ 5) (hlg : 0 ≤ lg ∧ lg ≤ 30) (hd : 0 ≤ dead q.toNat ∧ dead q.toNat ≤ 50) : ∀ (k i zn : Nat), i + k = ml → k < zn → fX3_liveTime_L56b zn t q lg (zltm lw (fun i => decide (lp i = q)) lg (dead q.toNat) i).1 (zltm lw (fun i => decide (lp i = q)) lg (dead q.toNat) i).2 (i : Int) = some (zltm lw (fun i => decide (lp i = q)) lg (dead q.toNat) ml) := by
  intro k
  induction k with
  | zero =>
    intro i zn hik hz
    obtain ⟨zn, rfl⟩ : ∃ q, zn = q + 1 := ⟨zn - 1, by omega⟩
    have : i = ml := by omega
    subst this
    rw [fX3_liveTime_L56b_s, hr]
    exact zyes (zLe_t (show (i : Int) ≤ (i : Int) by omega) (by show _ ≤ (i : Int); omega) (by omega)) rfl
  | succ k ih =>
    intro i zn hik hz
    obtain ⟨zn, rfl⟩ : ∃ q, zn = q + 1 := ⟨zn - 1, by omega⟩
    have b := zltm_b (w := lw) (b := fun i => decide (lp i = q)) (lg := lg) (n := ml) hd (fun i hi => by have := (hok i hi).1; omega) i (by omega)
    obtain ⟨hw, hp, -⟩ := hok i (by omega)
    have gi : zIn (i : Int) 240 := ⟨by omega, by omega⟩
    have gq : zIn q 6 := ⟨by omega, by omega⟩
    rw [fX3_liveTime_L56b_s, hr, hdt]
    refine zno (zLe_f (show (i : Int) < (ml : Int) by omega) (by omega) (by show (ml : Int) < _; omega)) (zok gi ?_)
    refine zb (a := zltm lw (fun i => decide (lp i = q)) lg (dead q.toNat) (i + 1)) ?_ ?_
    · by_cases c : lp i = q
      · rw [zltm_yes (decide_eq_true c)]
        refine zyes (zE_t (show lp i = q from c)) (zok gi (zlet (zlet (zok gq (zlet ?_)))))
        show some (_ + zmax 0 (lw i + lg - _), _) = _
        rw [zmax_0 (by omega) (by omega)]
        rfl
      · rw [zltm_no (fun z => c (of_decide_eq_true z))]
        exact zno (zE_f (show lp i ≠ q from c) (by show _ ≤ lp i; omega) (by show lp i < _; omega) (by omega) (by omega)) rfl
    · rw [zc1]; exact ih (i + 1) zn (by omega) (by omega)
theorem X_time_kept (hr : zx_keptRow t = zk_R lw lp ls (ml : Int)) (hml : ml ≤ 240) (hok : zok3 lw lp ls ml) (hdt : zx_dead t = dead) (hq : 0 ≤ q ∧ q ≤ 5) (hlg : 0 ≤ lg ∧ lg ≤ 30) (hd : 0 ≤ dead q.toNat ∧ dead q.toNat ≤ 50) : ∀ (k i zn : Nat), i + k = ml → k < zn → fX3_liveTime_L56 zn t q lg (zltm lw (fun i => decide (lp i = q)) lg (dead q.toNat) i).1 (zltm lw (fun i => decide (lp i = q)) lg (dead q.toNat) i).2 (i : Int) = some (zltm lw (fun i => decide (lp i = q)) lg (dead q.toNat) ml) := by
  intro k
  induction k with
  | zero =>
    intro i zn hik hz
    obtain ⟨zn, rfl⟩ : ∃ q, zn = q + 1 := ⟨zn - 1, by omega⟩
    have : i = ml := by omega
    subst this
    rw [fX3_liveTime_L56_s, hr]
    exact zyes (zLe_t (show (i : Int) ≤ (i : Int) by omega) (by show _ ≤ (i : Int); omega) (by omega)) rfl
  | succ k ih =>
    intro i zn hik hz
    obtain ⟨zn, rfl⟩ : ∃ q, zn = q + 1 := ⟨zn - 1, by omega⟩
    have b := zltm_b (w := lw) (b := fun i => decide (lp i = q)) (lg := lg) (n := ml) hd (fun i hi => by have := (hok i hi).1; omega) i (by omega)
    obtain ⟨hw, hp, -⟩ := hok i (by omega)
    have gi : zIn (i : Int) 240 := ⟨by omega, by omega⟩
    have gq : zIn q 6 := ⟨by omega, by omega⟩
    rw [fX3_liveTime_L56_s, hr, hdt]
    refine zno (zLe_f (show (i : Int) < (ml : Int) by omega) (by omega) (by show (ml : Int) < _; omega)) (zok gi ?_)
    refine zb (a := zltm lw (fun i => decide (lp i = q)) lg (dead q.toNat) (i + 1)) ?_ ?_
    · by_cases c : lp i = q
      · rw [zltm_yes (decide_eq_true c)]
        refine zyes (zE_t (show lp i = q from c)) (zok gi (zlet (zlet (zok gq (zlet ?_)))))
        show some (_ + zmax 0 (lw i + lg - _), _) = _
        rw [zmax_0 (by omega) (by omega)]
        rfl
      · rw [zltm_no (fun z => c (of_decide_eq_true z))]
        exact zno (zE_f (show lp i ≠ q from c) (by show _ ≤ lp i; omega) (by show lp i < _; omega) (by omega) (by omega)) rfl
    · rw [zc1]; exact ih (i + 1) zn (by omega) (by omega)
end TimeX
def zsp (W : Nat → Int) (n : Nat) : Int := if n = 0 then 0 else W (n - 1) + 1
def zbs (W P dead manner : Nat → Int) (q : Int) (i : Nat) : Bool := decide (P i = q) && (decide (manner q.toNat = 1) || zlv W P dead manner i)
theorem zltm_mono {W P S : Nat → Int} {n : Nat} (hk : zKpt W P S n) {b : Nat → Bool} {d : Int} (hd : 0 ≤ d) : ∀ i j, i ≤ j → j < n → (zltm W b 0 d i).2 ≤ W j + d := by
  intro i
  induction i with
  | zero =>
    intro j _ hj
    have := (hk.2.1 j hj).1
    show (0 : Int) ≤ _
    omega
  | succ i ih =>
    intro j hij hj
    have h1 := zKpt_mono hk (show i ≤ j by omega) hj
    have h2 := ih j (by omega) hj
    by_cases c : b i = true
    · rw [zltm_yes c]
      show W i + 0 + d ≤ _
      omega
    · rw [zltm_no c]; exact h2
theorem zltm_le {W P S : Nat → Int} {n : Nat} (hk : zKpt W P S n) {b : Nat → Bool} {d : Int} (hd : 0 ≤ d) : ∀ i, i ≤ n → (zltm W b 0 d i).1 ≤ (zltm W b 0 d i).2 ∧ 0 ≤ (zltm W b 0 d i).2 ∧ (zltm W b 0 d i).2 ≤ 9999 + d := by
  intro i
  induction i with
  | zero => intro _; exact ⟨Int.le_refl _, Int.le_refl _, by show (0 : Int) ≤ _; omega⟩
  | succ i ih =>
    intro hi
    have h1 := ih (by omega)
    have h2 := zltm_mono hk (b := b) hd i i (Nat.le_refl _) (by omega)
    have h3 := (hk.2.1 i (by omega)).1
    by_cases c : b i = true
    · rw [zltm_yes c]
      show (zltm W b 0 d i).1 + zmx (W i + 0 - (zltm W b 0 d i).2) ≤ W i + 0 + d ∧ 0 ≤ W i + 0 + d ∧ W i + 0 + d ≤ 9999 + d
      have z := zmx_b (W i + 0 - (zltm W b 0 d i).2)
      omega
    · rw [zltm_no c]; exact h1
/-- what the reference has left at one pulse -/
def zfr (W : Nat → Int) (b : Nat → Bool) (d sp : Int) (i : Nat) : Int := sp + (zltm W b 0 d i).1 - zmn (zltm W b 0 d i).2 sp
theorem zfr_yes {W : Nat → Int} {b : Nat → Bool} {d sp : Int} {i : Nat} (h : b i = true) (hd : 0 ≤ d) (hu : (zltm W b 0 d i).2 ≤ W i + d) (hs : W i < sp) : zfr W b d sp (i + 1) = zfr W b d sp i - zmx (zmn (W i + d) sp - (if W i ≤ (zltm W b 0 d i).2 then (zltm W b 0 d i).2 else W i)) := by
  unfold zfr
  rw [zltm_yes h]
  show sp + ((zltm W b 0 d i).1 + zmx (W i + 0 - (zltm W b 0 d i).2)) - zmn (W i + 0 + d) sp = _
  generalize (zltm W b 0 d i).2 = u at *
  generalize (zltm W b 0 d i).1 = a at *
  rw [Int.add_zero]
  unfold zmx zmn
  by_cases c1 : W i ≤ u
  · rw [if_pos c1, if_neg (show ¬ 0 < W i - u by omega)]
    by_cases c2 : W i + d ≤ sp
    · rw [if_pos c2, if_pos (show u ≤ sp by omega)]
      split <;> omega
    · rw [if_neg c2]
      by_cases c3 : u ≤ sp
      · rw [if_pos c3]
        split <;> omega
      · rw [if_neg c3]
        split <;> omega
  · rw [if_neg c1, if_pos (show 0 < W i - u by omega), if_pos (show u ≤ sp by omega)]
    by_cases c2 : W i + d ≤ sp
    · rw [if_pos c2]
      split <;> omega
    · rw [if_neg c2]
      split <;> omega
theorem zfr_no {W : Nat → Int} {b : Nat → Bool} {d sp : Int} {i : Nat} (h : ¬ b i = true) : zfr W b d sp (i + 1) = zfr W b d sp i := by
  unfold zfr
  rw [zltm_no h]
theorem M_time_inner {st : zMT} {sp w d u f q i : Int} (hs : fX4_span st = some sp) (hw : 0 ≤ w ∧ w ≤ 9999) (hd : 0 ≤ d ∧ d ≤ 50) (hu : 0 ≤ u ∧ u ≤ w + d) (hsp : w < sp ∧ sp ≤ 10000) (g1 : zIn i 241) (g2 : zIn q 6) :
    (Option.bind (if zLe w u then some u else zg (zIn i 241) (some w)) (fun r43 => zg (zIn i 241) (zg (zIn q 6) (zl (w + d) (fun v47 => Option.bind (if zLe v47 u then some u else some v47) (fun r48 => Option.bind (fX4_span st) (fun r50 => Option.bind (if zLe v47 r50 then some v47 else Option.bind (fX4_span st) (fun r59 => some r59)) (fun r52 => Option.bind (if zLe r52 r43 then some (0 : Int) else some (r52 - r43)) (fun r54 => zl (f - r54) (fun v56 => some (v56, r48)))))))))))
      = some (f - zmx (zmn (w + d) sp - (if w ≤ u then u else w)), w + d) := by
  have hm : 0 ≤ zmn (w + d) sp ∧ zmn (w + d) sp ≤ 10049 := by unfold zmn; split <;> omega
  have hx : 0 ≤ (if w ≤ u then u else w) ∧ (if w ≤ u then u else w) ≤ 10049 := by split <;> omega
  refine zb (a := if w ≤ u then u else w) ?_ (zok g1 (zok g2 (zlet (zb (a := w + d) ?_ (zb hs (zb (a := zmn (w + d) sp) ?_ (zb (a := zmx (zmn (w + d) sp - (if w ≤ u then u else w))) ?_ (zlet rfl))))))))
  · by_cases c : w ≤ u
    · rw [if_pos c]; exact zyes (zLe_t c (by omega) (by omega)) rfl
    · rw [if_neg c]; exact zno (zLe_f (by omega) (by omega) (by omega)) (zok g1 rfl)
  · by_cases c : w + d ≤ u
    · exact zyes (zLe_t c (by omega) (by omega)) (by congr 1; omega)
    · exact zno (zLe_f (by omega) (by omega) (by omega)) rfl
  · unfold zmn
    by_cases c : w + d ≤ sp
    · rw [if_pos c]; exact zyes (zLe_t c (by omega) (by omega)) rfl
    · rw [if_neg c]; exact zno (zLe_f (by omega) (by omega) (by omega)) (zb hs rfl)
  · unfold zmx
    by_cases c : zmn (w + d) sp ≤ (if w ≤ u then u else w)
    · rw [if_neg (show ¬ 0 < zmn (w + d) sp - (if w ≤ u then u else w) by omega)]; exact zyes (zLe_t c (by omega) (by omega)) rfl
    · rw [if_pos (show 0 < zmn (w + d) sp - (if w ≤ u then u else w) by omega)]; exact zno (zLe_f (by omega) (by omega) (by omega)) rfl
section TimeM
variable {lag dead manner setting W P S : Nat → Int} {n : Nat} {ov : Int}
theorem zsp_b (hv : zVal lag dead manner setting W P S n ov) {i : Nat} (hi : i < n) : W i < zsp W n ∧ zsp W n ≤ 10000 := by
  have h1 := zKpt_mono hv.2.1 (show i ≤ n - 1 by omega) (by omega)
  have h2 := (hv.2.1.2.1 (n - 1) (by omega)).1
  unfold zsp
  rw [if_neg (by omega)]
  omega
theorem M_time_loop {t : zMT} (h : zCM t lag dead manner setting W P S n ov) (hv : zVal lag dead manner setting W P S n ov) {q : Int} (hq : 0 ≤ q ∧ q ≤ 5) {L E : Nat → Int} (hL : ∀ x, x < n → L x = if zlv W P dead manner x = true then 1 else 0) : ∀ (k i zn : Nat), i + k = n → k < zn → fX4_liveTime_L14 zn t q L E (zfr W (zbs W P dead manner q) (dead q.toNat) (zsp W n) i) (zltm W (zbs W P dead manner q) 0 (dead q.toNat) i).2 (i : Int) = some (zfr W (zbs W P dead manner q) (dead q.toNat) (zsp W n) n) := by
  obtain ⟨rfl, rfl, rfl, rfl, h5, rfl, rfl, rfl, rfl⟩ := h
  have h : zCM t (zm_lag t) (zm_dead t) (zm_manner t) (zm_setting t) (zm_momentOf t) (zm_planeOf t) (zm_stripOf t) n (zm_isOver t) := ⟨rfl, rfl, rfl, rfl, h5, rfl, rfl, rfl, rfl⟩
  have hn := hv.2.1.1
  have hcf := hv.1.1 q.toNat (by omega)
  intro k
  induction k with
  | zero =>
    intro i zn hik hz
    obtain ⟨zn, rfl⟩ : ∃ q, zn = q + 1 := ⟨zn - 1, by omega⟩
    have : i = n := by omega
    subst this
    rw [fX4_liveTime_L14_s]
    exact zyes (by rw [h5]; exact zLe_t (by omega) (by omega) (by omega)) rfl
  | succ k ih =>
    intro i zn hik hz
    obtain ⟨zn, rfl⟩ : ∃ q, zn = q + 1 := ⟨zn - 1, by omega⟩
    obtain ⟨hw, hp, -⟩ := hv.2.1.2.1 i (by omega)
    have hsp := zsp_b hv (i := i) (by omega)
    have g1 : zIn (i : Int) 241 := ⟨by omega, by omega⟩
    have g0 : zIn (i : Int) 240 := ⟨by omega, by omega⟩
    have gq : zIn q 6 := ⟨by omega, by omega⟩
    have hLi := hL i (by omega)
    have hu1 := zltm_mono hv.2.1 (b := zbs (zm_momentOf t) (zm_planeOf t) (zm_dead t) (zm_manner t) q) hcf.2.1.1 i i (Nat.le_refl _) (by omega)
    have hu2 := zltm_le hv.2.1 (b := zbs (zm_momentOf t) (zm_planeOf t) (zm_dead t) (zm_manner t) q) hcf.2.1.1 i (by omega)
    rw [fX4_liveTime_L14_s]
    refine zno (by rw [h5]; exact zLe_f (by omega) (by omega) (by omega)) (zok g1 ?_)
    refine zb (a := (zfr (zm_momentOf t) (zbs (zm_momentOf t) (zm_planeOf t) (zm_dead t) (zm_manner t) q) (zm_dead t q.toNat) (zsp (zm_momentOf t) n) (i + 1), (zltm (zm_momentOf t) (zbs (zm_momentOf t) (zm_planeOf t) (zm_dead t) (zm_manner t) q) 0 (zm_dead t q.toNat) (i + 1)).2)) ?_ (by rw [zc1]; exact ih (i + 1) zn (by omega) (by omega))
    rw [zcN]
    have fin : zbs (zm_momentOf t) (zm_planeOf t) (zm_dead t) (zm_manner t) q i = true → some (zfr (zm_momentOf t) (zbs (zm_momentOf t) (zm_planeOf t) (zm_dead t) (zm_manner t) q) (zm_dead t q.toNat) (zsp (zm_momentOf t) n) i - zmx (zmn (zm_momentOf t i + zm_dead t q.toNat) (zsp (zm_momentOf t) n) - (if zm_momentOf t i ≤ (zltm (zm_momentOf t) (zbs (zm_momentOf t) (zm_planeOf t) (zm_dead t) (zm_manner t) q) 0 (zm_dead t q.toNat) i).2 then (zltm (zm_momentOf t) (zbs (zm_momentOf t) (zm_planeOf t) (zm_dead t) (zm_manner t) q) 0 (zm_dead t q.toNat) i).2 else zm_momentOf t i)), zm_momentOf t i + zm_dead t q.toNat) = some (zfr (zm_momentOf t) (zbs (zm_momentOf t) (zm_planeOf t) (zm_dead t) (zm_manner t) q) (zm_dead t q.toNat) (zsp (zm_momentOf t) n) (i + 1), (zltm (zm_momentOf t) (zbs (zm_momentOf t) (zm_planeOf t) (zm_dead t) (zm_manner t) q) 0 (zm_dead t q.toNat) (i + 1)).2) := by
      intro hb
      rw [zfr_yes hb hcf.2.1.1 hu1 hsp.1, zltm_yes hb]
      show _ = some (_, zm_momentOf t i + 0 + zm_dead t q.toNat)
      rw [Int.add_zero]
    have same : ¬ zbs (zm_momentOf t) (zm_planeOf t) (zm_dead t) (zm_manner t) q i = true → some (zfr (zm_momentOf t) (zbs (zm_momentOf t) (zm_planeOf t) (zm_dead t) (zm_manner t) q) (zm_dead t q.toNat) (zsp (zm_momentOf t) n) i, (zltm (zm_momentOf t) (zbs (zm_momentOf t) (zm_planeOf t) (zm_dead t) (zm_manner t) q) 0 (zm_dead t q.toNat) i).2) = some (zfr (zm_momentOf t) (zbs (zm_momentOf t) (zm_planeOf t) (zm_dead t) (zm_manner t) q) (zm_dead t q.toNat) (zsp (zm_momentOf t) n) (i + 1), (zltm (zm_momentOf t) (zbs (zm_momentOf t) (zm_planeOf t) (zm_dead t) (zm_manner t) q) 0 (zm_dead t q.toNat) (i + 1)).2) := by
      intro hb
      rw [zfr_no hb, zltm_no hb]
    by_cases c : zm_planeOf t i = q
    · refine zyes (zE_t c) (zok gq ?_)
      by_cases m1 : zm_manner t q.toNat = 1
      · refine zyes (zE_t m1) (zok g1 ((M_time_inner (sp := zsp (zm_momentOf t) n) ?_ hw hcf.2.1 ⟨hu2.2.1, hu1⟩ hsp g1 gq).trans (fin ?_)))
        · exact M_span (show zCM _ (zm_lag t) (zm_dead t) (zm_manner t) (zm_setting t) (zm_momentOf t) (zm_planeOf t) (zm_stripOf t) n (zm_isOver t) from h) hv
        · unfold zbs
          rw [decide_eq_true c, decide_eq_true m1]; rfl
      · refine zno (zE_f m1 (by omega) (by omega) (by omega) (by omega)) (zok g0 ?_)
        by_cases hl : zlv (zm_momentOf t) (zm_planeOf t) (zm_dead t) (zm_manner t) i = true
        · rw [if_pos hl] at hLi
          refine zno (by rw [hLi]; exact z10) (zok g1 ((M_time_inner (sp := zsp (zm_momentOf t) n) ?_ hw hcf.2.1 ⟨hu2.2.1, hu1⟩ hsp g1 gq).trans (fin ?_)))
          · exact M_span (show zCM _ (zm_lag t) (zm_dead t) (zm_manner t) (zm_setting t) (zm_momentOf t) (zm_planeOf t) (zm_stripOf t) n (zm_isOver t) from h) hv
          · unfold zbs
            rw [decide_eq_true c, hl, Bool.or_true]; rfl
        · rw [if_neg hl] at hLi
          refine zyes (by rw [hLi]) (same ?_)
          unfold zbs
          rw [decide_eq_true c, decide_eq_false m1, Bool.true_and, Bool.false_or]
          exact hl
    · refine zno (zE_f c (by omega) (by omega) (by omega) (by omega)) (same ?_)
      unfold zbs
      rw [decide_eq_false c, Bool.false_and]
      exact Bool.false_ne_true
end TimeM
