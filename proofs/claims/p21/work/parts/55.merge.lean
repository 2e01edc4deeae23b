/-! ===== PURE: shifted: the merge of those that stay and those that are moved ===== -/
def zbit (S p : Int) : Bool := decide (zand (zshr S p) 1 = 1)
def zoth (S : Int) : Int := zand 63 (zxor S (-1))
theorem zbit6 : ∀ x : Fin 64, ∀ p : Fin 6, (zand (zshr ((x.val : Nat) : Int) ((p.val : Nat) : Int)) 1 = 0 ∨ zand (zshr ((x.val : Nat) : Int) ((p.val : Nat) : Int)) 1 = 1) ∧ (0 ≤ zoth ((x.val : Nat) : Int) ∧ zoth ((x.val : Nat) : Int) ≤ 63) ∧ zbit (zoth ((x.val : Nat) : Int)) ((p.val : Nat) : Int) = !(zbit ((x.val : Nat) : Int) ((p.val : Nat) : Int)) := by decide +kernel
theorem zbit_b {S p : Int} (hS : 0 ≤ S ∧ S ≤ 63) (hp : 0 ≤ p ∧ p ≤ 5) : (zand (zshr S p) 1 = 0 ∨ zand (zshr S p) 1 = 1) ∧ (0 ≤ zoth S ∧ zoth S ≤ 63) ∧ zbit (zoth S) p = !(zbit S p) := by
  obtain ⟨a, rfl⟩ := Int.eq_ofNat_of_zero_le hS.1
  obtain ⟨b, rfl⟩ := Int.eq_ofNat_of_zero_le hp.1
  exact zbit6 ⟨a, by omega⟩ ⟨b, by omega⟩
theorem zoth_b {S : Int} (hS : 0 ≤ S ∧ S ≤ 63) : 0 ≤ zoth S ∧ zoth S ≤ 63 := (zbit_b hS (p := 0) (by omega)).2.1
theorem zshf_bit {S by' p : Int} (hS : 0 ≤ S ∧ S ≤ 63) (hp : 0 ≤ p ∧ p ≤ 5) : zshf S by' p = if zbit S p = true then by' else 0 := by
  unfold zshf zbit
  rcases (zbit_b hS hp).1 with e | e
  · rw [e, if_neg (zE_f (by omega) (by omega) (by omega) (by omega) (by omega)), if_neg (by decide)]
  · rw [e, if_pos (zE_t rfl), if_pos (by decide)]
theorem R_next_loop {ρ : zRowT} {S : Int} {e sz : Nat} (hs : zr_size ρ = (sz : Int)) (hsz : sz ≤ 240) (he : e ≤ sz) (hS : 0 ≤ S ∧ S ≤ 63) (hp : ∀ i, i < e → 0 ≤ zr_plane ρ i ∧ zr_plane ρ i ≤ 5) : ∀ (k i zn : Nat), i + k = e → k < zn → ∃ r : Nat, fX2_nextOf_L3 zn ρ S (e : Int) (i : Int) = some (r : Int) ∧ i ≤ r ∧ r ≤ e ∧ (∀ y, i ≤ y → y < r → zbit S (zr_plane ρ y) = false) ∧ (r < e → zbit S (zr_plane ρ r) = true) := by
  intro k
  induction k with
  | zero =>
    intro i zn hik hz
    obtain ⟨zn, rfl⟩ : ∃ q, zn = q + 1 := ⟨zn - 1, by omega⟩
    rw [fX2_nextOf_L3_s]
    exact ⟨i, zyes (zLe_t (by omega) (by omega) (by omega)) rfl, Nat.le_refl _, by omega, fun y h1 h2 => by omega, fun h => by omega⟩
  | succ k ih =>
    intro i zn hik hz
    obtain ⟨zn, rfl⟩ : ∃ q, zn = q + 1 := ⟨zn - 1, by omega⟩
    rw [fX2_nextOf_L3_s]
    have hb := (zbit_b hS (hp i (by omega))).1
    by_cases c : zand (zshr S (zr_plane ρ i)) 1 = 0
    · obtain ⟨r, r1, r2, r3, r4, r5⟩ := ih (i + 1) zn (by omega) (by omega)
      refine ⟨r, zno (zLe_f (by omega) (by omega) (by omega)) (zhas hs hsz (by omega) (zok ⟨by omega, by omega⟩ (zyes (zE_t (by rw [zcN]; exact c)) (by rw [zc1]; exact r1)))), by omega, r3, fun y h1 h2 => ?_, r5⟩
      by_cases ey : y = i
      · subst ey
        unfold zbit
        rw [c]; rfl
      · exact r4 y (by omega) h2
    · have c1 : zand (zshr S (zr_plane ρ i)) 1 = 1 := by rcases hb with z | z; exact absurd z c; exact z
      refine ⟨i, zno (zLe_f (by omega) (by omega) (by omega)) (zhas hs hsz (by omega) (zok ⟨by omega, by omega⟩ (zno (by rw [zcN, c1]; exact zE_f (by omega) (by omega) (by omega) (by omega) (by omega)) rfl))), Nat.le_refl _, by omega, fun y h1 h2 => by omega, fun _ => ?_⟩
      unfold zbit
      rw [c1]; rfl
theorem R_next {ρ : zRowT} {S : Int} {i e sz : Nat} (hs : zr_size ρ = (sz : Int)) (hsz : sz ≤ 240) (hi : i ≤ e) (he : e ≤ sz) (hS : 0 ≤ S ∧ S ≤ 63) (hp : ∀ i, i < e → 0 ≤ zr_plane ρ i ∧ zr_plane ρ i ≤ 5) : ∃ r : Nat, fX2_nextOf ρ S (i : Int) (e : Int) = some (r : Int) ∧ i ≤ r ∧ r ≤ e ∧ (∀ y, i ≤ y → y < r → zbit S (zr_plane ρ y) = false) ∧ (r < e → zbit S (zr_plane ρ r) = true) := by
  obtain ⟨r, r1, r2⟩ := R_next_loop hs hsz he hS hp (e - i) i zF (by omega) (by unfold zF; omega)
  refine ⟨r, ?_, r2⟩
  unfold fX2_nextOf
  exact zb r1 rfl
/-! lists of those that stay, and of those that are moved -/
def zoL (lw lp ls : Nat → Int) (S : Int) (i : Nat) : List zP3 := (zrl lw lp ls i).filter (fun a => zbit S a.2.1)
def zmv (by' : Int) (a : zP3) : zP3 := (a.1 + by', a.2)
theorem zoL_yes {lw lp ls : Nat → Int} {S : Int} {i : Nat} (h : zbit S (lp i) = true) : zoL lw lp ls S (i + 1) = zoL lw lp ls S i ++ [(lw i, lp i, ls i)] := by
  unfold zoL
  rw [zrl_succ, List.filter_append, List.filter_cons_of_pos (by exact h), List.filter_nil]
theorem zoL_no {lw lp ls : Nat → Int} {S : Int} {i : Nat} (h : zbit S (lp i) = false) : zoL lw lp ls S (i + 1) = zoL lw lp ls S i := by
  unfold zoL
  rw [zrl_succ, List.filter_append, List.filter_cons_of_neg (by exact fun z => by rw [h] at z; exact Bool.false_ne_true z), List.filter_nil, List.append_nil]
theorem zoL_skip {lw lp ls : Nat → Int} {S : Int} {i : Nat} : ∀ k, (∀ y, i ≤ y → y < i + k → zbit S (lp y) = false) → zoL lw lp ls S (i + k) = zoL lw lp ls S i := by
  intro k
  induction k with
  | zero => intro _; rfl
  | succ k ih =>
    intro h
    rw [show i + (k + 1) = (i + k) + 1 by omega, zoL_no (h (i + k) (by omega) (by omega)), ih (fun y h1 h2 => h y h1 (by omega))]
theorem zoL_to {lw lp ls : Nat → Int} {S : Int} {i r : Nat} (hr : i ≤ r) (h : ∀ y, i ≤ y → y < r → zbit S (lp y) = false) : zoL lw lp ls S r = zoL lw lp ls S i := by
  obtain ⟨k, rfl⟩ : ∃ k, r = i + k := ⟨r - i, by omega⟩
  exact zoL_skip k h
theorem zoL_mono {lw lp ls : Nat → Int} {S : Int} {i : Nat} : ∀ k, (zoL lw lp ls S i).length ≤ (zoL lw lp ls S (i + k)).length := by
  intro k
  induction k with
  | zero => exact Nat.le_refl _
  | succ k ih =>
    rw [show i + (k + 1) = (i + k) + 1 by omega]
    by_cases c : zbit S (lp (i + k)) = true
    · rw [zoL_yes c, List.length_append]; omega
    · rw [zoL_no (Bool.eq_false_iff.mpr c)]; exact ih
theorem zoL_le {lw lp ls : Nat → Int} {S : Int} {i e : Nat} (h : i ≤ e) : (zoL lw lp ls S i).length ≤ (zoL lw lp ls S e).length := by
  obtain ⟨k, rfl⟩ : ∃ k, e = i + k := ⟨e - i, by omega⟩
  exact zoL_mono k
theorem zoL_lt {lw lp ls : Nat → Int} {S : Int} {i e : Nat} (h : i < e) (hb : zbit S (lp i) = true) : (zoL lw lp ls S i).length < (zoL lw lp ls S e).length := by
  have h1 := zoL_le (lw := lw) (lp := lp) (ls := ls) (S := S) (show i + 1 ≤ e by omega)
  rw [zoL_yes hb, List.length_append] at h1
  simp only [List.length_cons, List.length_nil] at h1
  omega
theorem zoL_all {S by' : Int} (hS : 0 ≤ S ∧ S ≤ 63) : ∀ l : List zP3, (∀ a, a ∈ l → 0 ≤ a.2.1 ∧ a.2.1 ≤ 5) → ((l.filter (fun a => zbit (zoth S) a.2.1)) ++ (l.filter (fun a => zbit S a.2.1)).map (zmv by')).Perm (l.map (fun a => (a.1 + zshf S by' a.2.1, a.2))) := by
  intro l
  induction l with
  | nil => intro _; exact List.Perm.refl _
  | cons a l ih =>
    intro h
    have ha := h a List.mem_cons_self
    have ih := ih (fun b hb => h b (List.mem_cons_of_mem _ hb))
    have hz := (zbit_b hS ha).2.2
    have hs := zshf_bit (by' := by') hS ha
    rw [List.map_cons]
    cases c : zbit S a.2.1 with
    | true =>
      rw [c] at hz
      rw [if_pos c] at hs
      rw [List.filter_cons_of_neg (by exact fun z => by rw [hz] at z; exact Bool.false_ne_true z), List.filter_cons_of_pos (by exact c), List.map_cons, hs]
      exact List.perm_middle.trans (List.Perm.cons _ ih)
    | false =>
      rw [c] at hz
      rw [if_neg (by rw [c]; exact Bool.false_ne_true)] at hs
      rw [List.filter_cons_of_pos (by exact hz), List.filter_cons_of_neg (by exact fun z => by rw [c] at z; exact Bool.false_ne_true z), hs, Int.add_zero]
      exact List.Perm.cons _ ih
/-- what the merge has written so far -/
def zMg (lw lp ls : Nat → Int) (e : Nat) (S by' : Int) (k i j : Nat) (w p s : Nat → Int) : Prop :=
  (i ≤ e ∧ j ≤ e) ∧ ((i < e → zbit (zoth S) (lp i) = true) ∧ (j < e → zbit S (lp j) = true)) ∧
  (zrl w p s k).Perm (zoL lw lp ls (zoth S) i ++ (zoL lw lp ls S j).map (zmv by')) ∧
  (∀ x y, x ≤ y → y < k → w x ≤ w y) ∧ (∀ x, x < k → (i < e → w x ≤ lw i) ∧ (j < e → w x ≤ lw j + by'))
theorem zMg_len {lw lp ls : Nat → Int} {e : Nat} {S by' : Int} {k i j : Nat} {w p s : Nat → Int} (h : zMg lw lp ls e S by' k i j w p s) : k = (zoL lw lp ls (zoth S) i).length + (zoL lw lp ls S j).length := by
  have := h.2.2.1.length_eq
  rwa [zrl_len, List.length_append, List.length_map] at this
theorem zMg_tot {lw lp ls : Nat → Int} {e : Nat} {S by' : Int} (hS : 0 ≤ S ∧ S ≤ 63) (hp : ∀ i, i < e → 0 ≤ lp i ∧ lp i ≤ 5) : e = (zoL lw lp ls (zoth S) e).length + (zoL lw lp ls S e).length := by
  have := (zoL_all (by' := by') hS (zrl lw lp ls e) (fun a ha => by
    obtain ⟨i, hi, rfl⟩ := zrl_mem ha
    exact hp i hi)).length_eq
  rw [List.length_append, List.length_map, List.length_map, zrl_len] at this
  exact this.symm
theorem zMg_lt {lw lp ls : Nat → Int} {e : Nat} {S by' : Int} {k i j : Nat} {w p s : Nat → Int} (hS : 0 ≤ S ∧ S ≤ 63) (hp : ∀ i, i < e → 0 ≤ lp i ∧ lp i ≤ 5) (h : zMg lw lp ls e S by' k i j w p s) (hij : i < e ∨ j < e) : k < e := by
  have h1 := zMg_len h
  have h2 := zMg_tot (lw := lw) (ls := ls) (by' := by') hS hp
  have h3 := zoL_le (lw := lw) (lp := lp) (ls := ls) (S := zoth S) h.1.1
  have h4 := zoL_le (lw := lw) (lp := lp) (ls := ls) (S := S) h.1.2
  rcases hij with c | c
  · have := zoL_lt (lw := lw) (ls := ls) c (h.2.1.1 c)
    omega
  · have := zoL_lt (lw := lw) (ls := ls) c (h.2.1.2 c)
    omega
theorem zrl_put (w p s : Nat → Int) (k : Nat) (a b c : Int) : zrl (zu w (k : Int) a) (zu p (k : Int) b) (zu s (k : Int) c) (k + 1) = zrl w p s k ++ [(a, b, c)] := by
  rw [zrl_succ]
  have e : zrl (zu w (k : Int) a) (zu p (k : Int) b) (zu s (k : Int) c) k = zrl w p s k := zrl_congr (fun i hi => by
    unfold zu
    rw [zcN, if_neg (by omega), if_neg (by omega), if_neg (by omega)]
    exact ⟨rfl, rfl, rfl⟩)
  rw [e]
  unfold zu
  rw [zcN, if_pos rfl, if_pos rfl, if_pos rfl]
theorem zu_eq (w : Nat → Int) (k : Nat) (a : Int) : zu w (k : Int) a k = a := by unfold zu; rw [zcN, if_pos rfl]
theorem zu_ne (w : Nat → Int) {k x : Nat} (a : Int) (h : x ≠ k) : zu w (k : Int) a x = w x := by unfold zu; rw [zcN, if_neg h]
theorem zMg_srt {w : Nat → Int} {k : Nat} {a : Int} (h : ∀ x y, x ≤ y → y < k → w x ≤ w y) (ha : ∀ x, x < k → w x ≤ a) : ∀ x y, x ≤ y → y < k + 1 → zu w (k : Int) a x ≤ zu w (k : Int) a y := by
  intro x y hxy hy
  by_cases ey : y = k
  · subst ey
    rw [zu_eq]
    by_cases ex : x = y
    · subst ex; rw [zu_eq]; exact Int.le_refl _
    · rw [zu_ne _ _ ex]; exact ha x (by omega)
  · rw [zu_ne _ _ ey, zu_ne _ _ (show x ≠ k by omega)]; exact h x y hxy (by omega)
theorem zMg_still {lw lp ls : Nat → Int} {e : Nat} {S by' : Int} {k i j i' : Nat} {w p s : Nat → Int} (hm : ∀ x y, x ≤ y → y < e → lw x ≤ lw y) (h : zMg lw lp ls e S by' k i j w p s) (hi : i < e) (hj : j < e → lw i ≤ lw j + by') (r1 : i + 1 ≤ i') (r2 : i' ≤ e) (r3 : ∀ y, i + 1 ≤ y → y < i' → zbit (zoth S) (lp y) = false) (r4 : i' < e → zbit (zoth S) (lp i') = true) :
    zMg lw lp ls e S by' (k + 1) i' j (zu w (k : Int) (lw i)) (zu p (k : Int) (lp i)) (zu s (k : Int) (ls i)) := by
  obtain ⟨⟨h1, h2⟩, ⟨h3, h4⟩, h5, h6, h7⟩ := h
  refine ⟨⟨r2, h2⟩, ⟨r4, h4⟩, ?_, zMg_srt h6 (fun x hx => (h7 x hx).1 hi), fun x hx => ?_⟩
  · rw [zrl_put, zoL_to r1 r3, zoL_yes (h3 hi)]
    refine (List.Perm.append_right _ h5).trans ?_
    rw [List.append_assoc, List.append_assoc]
    exact List.Perm.append_left _ List.perm_append_comm
  · by_cases ex : x = k
    · subst ex
      rw [zu_eq]
      exact ⟨fun hh => hm i i' (by omega) hh, hj⟩
    · rw [zu_ne _ _ ex]
      have h8 := h7 x (by omega)
      exact ⟨fun hh => by have := h8.1 hi; have := hm i i' (by omega) hh; omega, h8.2⟩
theorem zMg_moved {lw lp ls : Nat → Int} {e : Nat} {S by' : Int} {k i j j' : Nat} {w p s : Nat → Int} (hm : ∀ x y, x ≤ y → y < e → lw x ≤ lw y) (h : zMg lw lp ls e S by' k i j w p s) (hj : j < e) (hi : i < e → lw j + by' ≤ lw i) (r1 : j + 1 ≤ j') (r2 : j' ≤ e) (r3 : ∀ y, j + 1 ≤ y → y < j' → zbit S (lp y) = false) (r4 : j' < e → zbit S (lp j') = true) :
    zMg lw lp ls e S by' (k + 1) i j' (zu w (k : Int) (lw j + by')) (zu p (k : Int) (lp j)) (zu s (k : Int) (ls j)) := by
  obtain ⟨⟨h1, h2⟩, ⟨h3, h4⟩, h5, h6, h7⟩ := h
  refine ⟨⟨h1, r2⟩, ⟨h3, r4⟩, ?_, zMg_srt h6 (fun x hx => (h7 x hx).2 hj), fun x hx => ?_⟩
  · rw [zrl_put, zoL_to r1 r3, zoL_yes (h4 hj), List.map_append]
    refine (List.Perm.append_right _ h5).trans ?_
    rw [List.append_assoc]
    exact List.Perm.refl _
  · by_cases ex : x = k
    · subst ex
      rw [zu_eq]
      exact ⟨hi, fun hh => by have := hm j j' (by omega) hh; omega⟩
    · rw [zu_ne _ _ ex]
      have h8 := h7 x (by omega)
      exact ⟨h8.1, fun hh => by have := h8.2 hj; have := hm j j' (by omega) hh; omega⟩
section Merge
variable {lw lp ls : Nat → Int} {e ml : Nat} {S by' : Int}
theorem R_put {w p s : Nat → Int} {k : Nat} (hk : k < 240) (a b c : Int) : fX2_put (zk_R w p s (k : Int)) (k : Int) a b c = some (zu w (k : Int) a, zu p (k : Int) b, zu s (k : Int) c) := by
  have g : zIn (k : Int) 240 := ⟨by omega, by omega⟩
  unfold fX2_put
  exact zok g (zok g (zok g rfl))
theorem F_pick (hml : ml ≤ 240) (he : e ≤ ml) (hS : 0 ≤ S ∧ S ≤ 63) (hby : 0 ≤ by' ∧ by' ≤ 500) (hok : ∀ i, i < e → (-100 ≤ lw i ∧ lw i ≤ 30000) ∧ (0 ≤ lp i ∧ lp i ≤ 5)) (hm : ∀ x y, x ≤ y → y < e → lw x ≤ lw y) {k i j : Nat} {w p s : Nat → Int} (h : zMg lw lp ls e S by' k i j w p s) (hij : i < e ∨ j < e) :
    ∃ (i' j' : Nat) (w' p' s' : Nat → Int), (if zLe (e : Int) (j : Int) then zg (zIn (i : Int) 240) (zg (zIn (i : Int) 240) (zg (zIn (i : Int) 240) (Option.bind (fX2_put (zk_R w p s (k : Int)) (k : Int) ((zr_when (zk_R lw lp ls (ml : Int))) (Int.toNat (i : Int))) ((zr_plane (zk_R lw lp ls (ml : Int))) (Int.toNat (i : Int))) ((zr_strip (zk_R lw lp ls (ml : Int))) (Int.toNat (i : Int)))) (fun r27 => Option.bind (fX2_nextOf (zk_R lw lp ls (ml : Int)) (zoth S) ((i : Int) + 1) (e : Int)) (fun r29 => some (r29, (j : Int), r27.1, r27.2.1, r27.2.2)))))) else if zLe (e : Int) (i : Int) then zg (zIn (j : Int) 240) (zg (zIn (j : Int) 240) (zg (zIn (j : Int) 240) (Option.bind (fX2_put (zk_R w p s (k : Int)) (k : Int) (((zr_when (zk_R lw lp ls (ml : Int))) (Int.toNat (j : Int))) + by') ((zr_plane (zk_R lw lp ls (ml : Int))) (Int.toNat (j : Int))) ((zr_strip (zk_R lw lp ls (ml : Int))) (Int.toNat (j : Int)))) (fun r34 => Option.bind (fX2_nextOf (zk_R lw lp ls (ml : Int)) S ((j : Int) + 1) (e : Int)) (fun r36 => some ((i : Int), r36, r34.1, r34.2.1, r34.2.2)))))) else zg (zIn (i : Int) 240) (zg (zIn (j : Int) 240) (if zLt (((zr_when (zk_R lw lp ls (ml : Int))) (Int.toNat (j : Int))) + by') ((zr_when (zk_R lw lp ls (ml : Int))) (Int.toNat (i : Int))) then zg (zIn (j : Int) 240) (zg (zIn (j : Int) 240) (zg (zIn (j : Int) 240) (Option.bind (fX2_put (zk_R w p s (k : Int)) (k : Int) (((zr_when (zk_R lw lp ls (ml : Int))) (Int.toNat (j : Int))) + by') ((zr_plane (zk_R lw lp ls (ml : Int))) (Int.toNat (j : Int))) ((zr_strip (zk_R lw lp ls (ml : Int))) (Int.toNat (j : Int)))) (fun r43 => Option.bind (fX2_nextOf (zk_R lw lp ls (ml : Int)) S ((j : Int) + 1) (e : Int)) (fun r45 => some ((i : Int), r45, r43.1, r43.2.1, r43.2.2)))))) else zg (zIn (i : Int) 240) (zg (zIn (i : Int) 240) (zg (zIn (i : Int) 240) (Option.bind (fX2_put (zk_R w p s (k : Int)) (k : Int) ((zr_when (zk_R lw lp ls (ml : Int))) (Int.toNat (i : Int))) ((zr_plane (zk_R lw lp ls (ml : Int))) (Int.toNat (i : Int))) ((zr_strip (zk_R lw lp ls (ml : Int))) (Int.toNat (i : Int)))) (fun r50 => Option.bind (fX2_nextOf (zk_R lw lp ls (ml : Int)) (zoth S) ((i : Int) + 1) (e : Int)) (fun r52 => some (r52, (j : Int), r50.1, r50.2.1, r50.2.2))))))))) = some ((i' : Int), (j' : Int), w', p', s') ∧ zMg lw lp ls e S by' (k + 1) i' j' w' p' s' := by
  have hk := zMg_lt hS (fun i hi => (hok i hi).2) h hij
  have hso := zoth_b hS
  have hie := h.1.1
  have hje := h.1.2
  have pl : ∀ i, i < e → 0 ≤ zr_plane (zk_R lw lp ls (ml : Int)) i ∧ zr_plane (zk_R lw lp ls (ml : Int)) i ≤ 5 := fun i hi => (hok i hi).2
  have still : i < e → (j < e → lw i ≤ lw j + by') → ∃ (i' : Nat), zg (zIn (i : Int) 240) (zg (zIn (i : Int) 240) (zg (zIn (i : Int) 240) (Option.bind (fX2_put (zk_R w p s (k : Int)) (k : Int) ((zr_when (zk_R lw lp ls (ml : Int))) (Int.toNat (i : Int))) ((zr_plane (zk_R lw lp ls (ml : Int))) (Int.toNat (i : Int))) ((zr_strip (zk_R lw lp ls (ml : Int))) (Int.toNat (i : Int)))) (fun r27 => Option.bind (fX2_nextOf (zk_R lw lp ls (ml : Int)) (zoth S) ((i : Int) + 1) (e : Int)) (fun r29 => some (r29, (j : Int), r27.1, r27.2.1, r27.2.2)))))) = some ((i' : Int), (j : Int), zu w (k : Int) (lw i), zu p (k : Int) (lp i), zu s (k : Int) (ls i)) ∧ zMg lw lp ls e S by' (k + 1) i' j (zu w (k : Int) (lw i)) (zu p (k : Int) (lp i)) (zu s (k : Int) (ls i)) := by
    intro hi hc
    have g : zIn (i : Int) 240 := ⟨by omega, by omega⟩
    obtain ⟨r, r1, r2, r3, r4, r5⟩ := R_next (ρ := zk_R lw lp ls (ml : Int)) (sz := ml) (i := i + 1) rfl hml (by omega) he hso pl
    refine ⟨r, zok g (zok g (zok g (zb (R_put (by omega) _ _ _) ?_))), zMg_still hm h hi hc r2 r3 r4 r5⟩
    rw [zc1]
    exact zb r1 rfl
  have moved : j < e → (i < e → lw j + by' ≤ lw i) → ∃ (j' : Nat), zg (zIn (j : Int) 240) (zg (zIn (j : Int) 240) (zg (zIn (j : Int) 240) (Option.bind (fX2_put (zk_R w p s (k : Int)) (k : Int) (((zr_when (zk_R lw lp ls (ml : Int))) (Int.toNat (j : Int))) + by') ((zr_plane (zk_R lw lp ls (ml : Int))) (Int.toNat (j : Int))) ((zr_strip (zk_R lw lp ls (ml : Int))) (Int.toNat (j : Int)))) (fun r34 => Option.bind (fX2_nextOf (zk_R lw lp ls (ml : Int)) S ((j : Int) + 1) (e : Int)) (fun r36 => some ((i : Int), r36, r34.1, r34.2.1, r34.2.2)))))) = some ((i : Int), (j' : Int), zu w (k : Int) (lw j + by'), zu p (k : Int) (lp j), zu s (k : Int) (ls j)) ∧ zMg lw lp ls e S by' (k + 1) i j' (zu w (k : Int) (lw j + by')) (zu p (k : Int) (lp j)) (zu s (k : Int) (ls j)) := by
    intro hj hc
    have g : zIn (j : Int) 240 := ⟨by omega, by omega⟩
    obtain ⟨r, r1, r2, r3, r4, r5⟩ := R_next (ρ := zk_R lw lp ls (ml : Int)) (sz := ml) (i := j + 1) rfl hml (by omega) he hS pl
    refine ⟨r, zok g (zok g (zok g (zb (R_put (by omega) _ _ _) ?_))), zMg_moved hm h hj hc r2 r3 r4 r5⟩
    rw [zc1]
    exact zb r1 rfl
  by_cases c1 : j < e
  · have nj : ¬ zLe (e : Int) (j : Int) := zLe_f (by omega) (by omega) (by omega)
    have gj : zIn (j : Int) 240 := ⟨by omega, by omega⟩
    by_cases c2 : i < e
    · have ni : ¬ zLe (e : Int) (i : Int) := zLe_f (by omega) (by omega) (by omega)
      have gi : zIn (i : Int) 240 := ⟨by omega, by omega⟩
      have b1 := (hok i c2).1
      have b2 := (hok j c1).1
      by_cases c3 : lw j + by' < lw i
      · obtain ⟨j', m1, m2⟩ := moved c1 (fun _ => by omega)
        exact ⟨i, j', _, _, _, zno nj (zno ni (zok gi (zok gj (zyes (zLt_t (show lw j + by' < lw i from c3) (by show _ ≤ lw j + by'; omega) (by show lw i < _; omega)) m1)))), m2⟩
      · obtain ⟨i', m1, m2⟩ := still c2 (fun _ => by omega)
        exact ⟨i', j, _, _, _, zno nj (zno ni (zok gi (zok gj (zno (zLt_f (show lw i ≤ lw j + by' by omega) (by show _ ≤ lw i; omega) (by show lw j + by' < _; omega)) m1)))), m2⟩
    · obtain ⟨j', m1, m2⟩ := moved c1 (fun z => absurd z c2)
      exact ⟨i, j', _, _, _, zno nj (zyes (zLe_t (by omega) (by omega) (by omega)) m1), m2⟩
  · have c2 : i < e := hij.resolve_right c1
    obtain ⟨i', m1, m2⟩ := still c2 (fun z => absurd z c1)
    exact ⟨i', j, _, _, _, zyes (zLe_t (by omega) (by omega) (by omega)) m1, m2⟩
theorem F_loop {ρ0 : zRowT} (hml : ml ≤ 240) (he : e ≤ ml) (hS : 0 ≤ S ∧ S ≤ 63) (hby : 0 ≤ by' ∧ by' ≤ 500) (hok : ∀ i, i < e → (-100 ≤ lw i ∧ lw i ≤ 30000) ∧ (0 ≤ lp i ∧ lp i ≤ 5)) (hm : ∀ x y, x ≤ y → y < e → lw x ≤ lw y) : ∀ (m k i j zn : Nat) (w p s : Nat → Int), k + m = e → m < zn → zMg lw lp ls e S by' k i j w p s →
    ∃ w' p' s', fX2_fillShifted_L44 zn ρ0 (zk_R lw lp ls (ml : Int)) S by' (e : Int) (zoth S) (i : Int) (j : Int) w p s (k : Int) = some (w', p', s', (e : Int)) ∧ zMg lw lp ls e S by' e e e w' p' s' := by
  intro m
  induction m with
  | zero =>
    intro k i j zn w p s hkm hz h
    obtain ⟨zn, rfl⟩ : ∃ q, zn = q + 1 := ⟨zn - 1, by omega⟩
    have ek : k = e := by omega
    have hi : i = e := by
      by_cases c : i < e
      · have := zMg_lt hS (fun i hi => (hok i hi).2) h (Or.inl c); omega
      · have := h.1.1; omega
    have hj : j = e := by
      by_cases c : j < e
      · have := zMg_lt hS (fun i hi => (hok i hi).2) h (Or.inr c); omega
      · have := h.1.2; omega
    subst hi
    subst hj
    subst ek
    rw [fX2_fillShifted_L44_s]
    refine ⟨w, p, s, ?_, h⟩
    by_cases c : (240 : Int) ≤ (k : Int)
    · exact zyes (zLe_t c (by omega) (by omega)) rfl
    · exact zno (zLe_f (by omega) (by omega) (by omega)) (zno (zLt_f (by omega) (by omega) (by omega)) (zyes (zLe_t (by omega) (by omega) (by omega)) rfl))
  | succ m ih =>
    intro k i j zn w p s hkm hz h
    obtain ⟨zn, rfl⟩ : ∃ q, zn = q + 1 := ⟨zn - 1, by omega⟩
    have hie := h.1.1
    have hje := h.1.2
    have hij : i < e ∨ j < e := by
      by_cases c : i < e
      · exact Or.inl c
      · by_cases c2 : j < e
        · exact Or.inr c2
        · exfalso
          have h1 := zMg_len h
          have h2 := zMg_tot (lw := lw) (ls := ls) (by' := by') hS (fun i hi => (hok i hi).2)
          have e1 : i = e := by omega
          have e2 : j = e := by omega
          rw [e1, e2] at h1
          omega
    obtain ⟨i', j', w', p', s', x1, x2⟩ := F_pick (ml := ml) hml he hS hby hok hm h hij
    obtain ⟨w2, p2, s2, y1, y2⟩ := ih (k + 1) i' j' zn w' p' s' (by omega) (by omega) x2
    refine ⟨w2, p2, s2, ?_, y2⟩
    rw [fX2_fillShifted_L44_s]
    refine zno (zLe_f (by omega) (by omega) (by omega)) ?_
    by_cases c : i < e
    · refine zyes (zLt_t (by omega) (by omega) (by omega)) (zb x1 ?_)
      exact y1
    · refine zno (zLt_f (by omega) (by omega) (by omega)) (zno (zLe_f (by omega) (by omega) (by omega)) (zb x1 ?_))
      exact y1
theorem X_fill {ρ0 : zRowT} (hml : ml ≤ 240) (he : e ≤ ml) (hS : 0 ≤ S ∧ S ≤ 63) (hby : 0 ≤ by' ∧ by' ≤ 500) (hok : ∀ i, i < e → (-100 ≤ lw i ∧ lw i ≤ 30000) ∧ (0 ≤ lp i ∧ lp i ≤ 5)) (hm : ∀ x y, x ≤ y → y < e → lw x ≤ lw y) :
    ∃ w p s, fX2_fillShifted ρ0 (zk_R lw lp ls (ml : Int)) (e : Int) S by' = some (w, p, s, (e : Int)) ∧ (zrl w p s e).Perm ((zrl lw lp ls e).map (fun a => (a.1 + zshf S by' a.2.1, a.2))) ∧ ∀ x y, x ≤ y → y < e → w x ≤ w y := by
  have hso := zoth_b hS
  have pl : ∀ i, i < e → 0 ≤ zr_plane (zk_R lw lp ls (ml : Int)) i ∧ zr_plane (zk_R lw lp ls (ml : Int)) i ≤ 5 := fun i hi => (hok i hi).2
  obtain ⟨i, a1, a2, a3, a4, a5⟩ := R_next (ρ := zk_R lw lp ls (ml : Int)) (sz := ml) (i := 0) rfl hml (Nat.zero_le _) he hso pl
  obtain ⟨j, b1, b2, b3, b4, b5⟩ := R_next (ρ := zk_R lw lp ls (ml : Int)) (sz := ml) (i := 0) rfl hml (Nat.zero_le _) he hS pl
  have h0 : zMg lw lp ls e S by' 0 i j (zr_when ρ0) (zr_plane ρ0) (zr_strip ρ0) := by
    refine ⟨⟨a3, b3⟩, ⟨a5, b5⟩, ?_, fun x y _ hy => by omega, fun x hx => by omega⟩
    rw [zoL_to (lp := lp) a2 a4, zoL_to (lp := lp) b2 b4]
    exact List.Perm.refl _
  obtain ⟨w, p, s, c1, c2⟩ := F_loop (ρ0 := ρ0) (ml := ml) hml he hS hby hok hm e 0 i j zF _ _ _ (by omega) (by unfold zF; omega) h0
  refine ⟨w, p, s, ?_, c2.2.2.1.trans (zoL_all hS (zrl lw lp ls e) (fun a ha => by
    obtain ⟨i, hi, rfl⟩ := zrl_mem ha
    exact (hok i hi).2)), c2.2.2.2.1⟩
  unfold fX2_fillShifted
  have em : zmin (e : Int) (zr_size (zk_R lw lp ls (ml : Int))) = (e : Int) := by
    show zmin (e : Int) (ml : Int) = (e : Int)
    unfold zmin
    by_cases c : ml < e
    · omega
    · exact if_neg (zLt_f (by omega) (by omega) (by omega))
  rw [em]
  exact zlet (zlet (zb a1 (zb b1 (zb c1 rfl))))
end Merge
