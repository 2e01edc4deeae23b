/-! ===== PURE: steps of the functions, sorted rows, insertion ===== -/
theorem zb {α β : Type} {o : Option α} {a : α} {f : α → Option β} {r : Option β} (h : o = some a) (k : f a = r) : o.bind f = r := by subst h; exact k
theorem zyes {α : Type} {c : Prop} {hd : Decidable c} {a b r : Option α} (hc : c) (k : a = r) : ite c a b = r := by rw [if_pos hc]; exact k
theorem zno {α : Type} {c : Prop} {hd : Decidable c} {a b r : Option α} (hc : ¬ c) (k : b = r) : ite c a b = r := by rw [if_neg hc]; exact k
theorem zok {α : Type} {c : Prop} [Decidable c] {x r : Option α} (hc : c) (k : x = r) : zg c x = r := by rw [zg_pos hc]; exact k
theorem zlet {α : Type} {e : Int} {f : Int → Option α} {r : Option α} (k : f e = r) : zl e f = r := k
theorem zE_t {x y : Int} (h : x = y) : zE x y := by rw [h]
theorem zE_f {x y : Int} (h : x ≠ y) (h1 : -2147483648 ≤ x) (h2 : x < 2147483648) (h3 : -2147483648 ≤ y) (h4 : y < 2147483648) : ¬ zE x y := fun e => h ((zE_iff ⟨h1, h2⟩ ⟨h3, h4⟩).mp e)
theorem zLt_t {x y : Int} (h : x < y) (h1 : -2147483648 ≤ x) (h4 : y < 2147483648) : zLt x y := (zLt_iff ⟨h1, by omega⟩ ⟨by omega, h4⟩).mpr h
theorem zLt_f {x y : Int} (h : y ≤ x) (h1 : -2147483648 ≤ y) (h4 : x < 2147483648) : ¬ zLt x y := fun e => by
  have := (zLt_iff (x := x) (y := y) ⟨by omega, h4⟩ ⟨h1, by omega⟩).mp e
  omega
theorem zLe_t {x y : Int} (h : x ≤ y) (h1 : -2147483648 ≤ x) (h4 : y < 2147483648) : zLe x y := (zLe_iff ⟨h1, by omega⟩ ⟨by omega, h4⟩).mpr h
theorem zLe_f {x y : Int} (h : y < x) (h1 : -2147483648 ≤ y) (h4 : x < 2147483648) : ¬ zLe x y := fun e => by
  have := (zLe_iff (x := x) (y := y) ⟨by omega, h4⟩ ⟨h1, by omega⟩).mp e
  omega
theorem zc1 (i : Nat) : (i : Int) + 1 = ((i + 1 : Nat) : Int) := rfl
theorem zcN (i : Nat) : Int.toNat (i : Int) = i := rfl
abbrev zP3 : Type := Int × Int × Int
abbrev zle (a b : zP3) : Prop := a.1 < b.1 ∨ (a.1 = b.1 ∧ (a.2.1 < b.2.1 ∨ (a.2.1 = b.2.1 ∧ a.2.2 ≤ b.2.2)))
theorem zle_total (a b : zP3) : zle a b ∨ zle b a := by
  obtain ⟨a1, a2, a3⟩ := a; obtain ⟨b1, b2, b3⟩ := b
  simp only [zle]; omega
theorem zle_trans {a b c : zP3} (h1 : zle a b) (h2 : zle b c) : zle a c := by
  obtain ⟨a1, a2, a3⟩ := a; obtain ⟨b1, b2, b3⟩ := b; obtain ⟨c1, c2, c3⟩ := c
  simp only [zle] at *; omega
theorem zle_refl (a : zP3) : zle a a := by
  exact Or.inr ⟨rfl, Or.inr ⟨rfl, Int.le_refl _⟩⟩
theorem zle_antisymm {a b : zP3} (h1 : zle a b) (h2 : zle b a) : a = b := by
  obtain ⟨a1, a2, a3⟩ := a; obtain ⟨b1, b2, b3⟩ := b
  simp only [zle] at h1 h2
  have : a1 = b1 ∧ a2 = b2 ∧ a3 = b3 := by omega
  obtain ⟨rfl, rfl, rfl⟩ := this
  rfl
theorem zle_fst {a b : zP3} (h : zle a b) : a.1 ≤ b.1 := by
  obtain ⟨a1, a2, a3⟩ := a; obtain ⟨b1, b2, b3⟩ := b
  simp only [zle] at *; omega
def zins (a : zP3) : List zP3 → List zP3
  | [] => [a]
  | b :: l => if zle b a then b :: zins a l else a :: b :: l
theorem zins_perm (a : zP3) (l : List zP3) : (zins a l).Perm (a :: l) := by
  induction l with
  | nil => exact List.Perm.refl _
  | cons b l ih =>
    unfold zins
    split
    · exact (List.Perm.cons b ih).trans (List.Perm.swap a b l)
    · exact List.Perm.refl _
theorem zins_mem {x a : zP3} {l : List zP3} : x ∈ zins a l ↔ x = a ∨ x ∈ l := by
  rw [(zins_perm a l).mem_iff, List.mem_cons]
theorem zins_len (a : zP3) (l : List zP3) : (zins a l).length = l.length + 1 := by
  rw [(zins_perm a l).length_eq, List.length_cons]
theorem zins_sorted {a : zP3} {l : List zP3} (h : l.Pairwise zle) : (zins a l).Pairwise zle := by
  induction l with
  | nil => simp [zins]
  | cons b l ih =>
    rw [List.pairwise_cons] at h
    unfold zins
    split
    · rename_i hb
      rw [List.pairwise_cons]
      refine ⟨fun x hx => ?_, ih h.2⟩
      rcases zins_mem.mp hx with rfl | hx
      · exact hb
      · exact h.1 x hx
    · rename_i hb
      have hab : zle a b := (zle_total a b).resolve_right hb
      rw [List.pairwise_cons]
      refine ⟨fun x hx => ?_, List.pairwise_cons.mpr h⟩
      rcases List.mem_cons.mp hx with rfl | hx
      · exact hab
      · exact zle_trans hab (h.1 x hx)
theorem zins_first {a : zP3} {l : List zP3} (h : ∀ x ∈ l, ¬ zle x a) : zins a l = a :: l := by
  cases l with
  | nil => rfl
  | cons b l =>
    unfold zins
    rw [if_neg (h b List.mem_cons_self)]
theorem zins_filter {a : zP3} {l : List zP3} (p : zP3 → Bool) (h : l.Pairwise zle) : (zins a l).filter p = if p a = true then zins a (l.filter p) else l.filter p := by
  induction l with
  | nil => cases hp : p a <;> simp [zins, hp]
  | cons b l ih =>
    have h' := h
    rw [List.pairwise_cons] at h
    have ih := ih h.2
    by_cases hb : zle b a
    · have e : zins a (b :: l) = b :: zins a l := by
        show (if zle b a then _ else _) = _
        rw [if_pos hb]
      rw [e]
      cases hpb : p b with
      | true =>
        rw [List.filter_cons_of_pos hpb, List.filter_cons_of_pos hpb, ih]
        split
        · show _ = (if zle b a then _ else _)
          rw [if_pos hb]
        · rfl
      | false =>
        rw [List.filter_cons_of_neg (by simp [hpb]), List.filter_cons_of_neg (by simp [hpb]), ih]
    · have e : zins a (b :: l) = a :: b :: l := by
        show (if zle b a then _ else _) = _
        rw [if_neg hb]
      have hall : ∀ x ∈ b :: l, ¬ zle x a := by
        intro x hx
        rcases List.mem_cons.mp hx with rfl | hx
        · exact hb
        · exact fun hxa => hb (zle_trans (h.1 x hx) hxa)
      rw [e]
      rw [zins_first (l := (b :: l).filter p) (fun x hx => hall x (List.mem_filter.mp hx).1)]
      cases hpa : p a with
      | true => rw [List.filter_cons_of_pos hpa]; rfl
      | false => rw [List.filter_cons_of_neg (by simp [hpa])]; rfl
theorem zins_split {a : zP3} {l1 l2 : List zP3} (h1 : ∀ b ∈ l1, zle b a) (h2 : ∀ b, l2.head? = some b → ¬ zle b a) : zins a (l1 ++ l2) = l1 ++ a :: l2 := by
  induction l1 with
  | nil =>
    cases l2 with
    | nil => rfl
    | cons b l =>
      show (if zle b a then _ else _) = _
      rw [if_neg (h2 b rfl)]
      rfl
  | cons b l ih =>
    show (if zle b a then _ else _) = _
    rw [if_pos (h1 b List.mem_cons_self)]
    show b :: zins a (l ++ l2) = _
    rw [ih (fun x hx => h1 x (List.mem_cons_of_mem _ hx))]
    rfl
/-! rows by arrays -/
def zrl (w p s : Nat → Int) (n : Nat) : List zP3 := (List.range n).map (fun i => (w i, p i, s i))
theorem zrl_len (w p s : Nat → Int) (n : Nat) : (zrl w p s n).length = n := by simp [zrl]
theorem zrl_get (w p s : Nat → Int) (n i : Nat) : (zrl w p s n)[i]? = if i < n then some (w i, p i, s i) else none := by
  unfold zrl
  rw [List.getElem?_map]
  by_cases h : i < n
  · rw [if_pos h, List.getElem?_range h]; rfl
  · rw [if_neg h, List.getElem?_eq_none (by simpa using h)]; rfl
theorem zrl_succ (w p s : Nat → Int) (n : Nat) : zrl w p s (n + 1) = zrl w p s n ++ [(w n, p n, s n)] := by simp [zrl, List.range_succ]
theorem zrl_congr {w p s w' p' s' : Nat → Int} {n : Nat} (h : ∀ i, i < n → w i = w' i ∧ p i = p' i ∧ s i = s' i) : zrl w p s n = zrl w' p' s' n := by
  apply List.ext_getElem?
  intro i
  rw [zrl_get, zrl_get]
  split
  · rename_i hi
    obtain ⟨h1, h2, h3⟩ := h i hi
    rw [h1, h2, h3]
  · rfl
theorem zrl_inj {w p s w' p' s' : Nat → Int} {n : Nat} (h : zrl w p s n = zrl w' p' s' n) : ∀ i, i < n → w i = w' i ∧ p i = p' i ∧ s i = s' i := by
  intro i hi
  have e : (zrl w p s n)[i]? = (zrl w' p' s' n)[i]? := by rw [h]
  rw [zrl_get, zrl_get, if_pos hi, if_pos hi] at e
  have e := Option.some.inj e
  exact ⟨congrArg Prod.fst e, congrArg (fun x => x.2.1) e, congrArg (fun x => x.2.2) e⟩
theorem zrl_take (w p s : Nat → Int) {n k : Nat} (h : k ≤ n) : (zrl w p s n).take k = zrl w p s k := by
  apply List.ext_getElem?
  intro i
  rw [List.getElem?_take, zrl_get, zrl_get]
  by_cases h1 : i < k
  · rw [if_pos h1, if_pos h1, if_pos (by omega)]
  · rw [if_neg h1, if_neg h1]
theorem zrl_mem {w p s : Nat → Int} {n : Nat} {x : zP3} (h : x ∈ zrl w p s n) : ∃ i, i < n ∧ x = (w i, p i, s i) := by
  unfold zrl at h
  obtain ⟨i, hi, rfl⟩ := List.mem_map.mp h
  exact ⟨i, List.mem_range.mp hi, rfl⟩
theorem zrl_sorted {w p s : Nat → Int} {n : Nat} : (zrl w p s n).Pairwise zle ↔ ∀ i j, i < j → j < n → zle (w i, p i, s i) (w j, p j, s j) := by
  rw [List.pairwise_iff_getElem]
  constructor
  · intro h i j hij hj
    have h1 := h i j (by rw [zrl_len]; omega) (by rw [zrl_len]; omega) hij
    simpa [zrl] using h1
  · intro h i j hi hj hij
    rw [zrl_len] at hi hj
    have h1 := h i j hij hj
    simpa [zrl] using h1
def zpos (w p s : Nat → Int) (a : zP3) : Nat → Nat
  | 0 => 0
  | i + 1 => if zle (w i, p i, s i) a then i + 1 else zpos w p s a i
theorem zpos_le (w p s : Nat → Int) (a : zP3) (n : Nat) : zpos w p s a n ≤ n := by
  induction n with
  | zero => exact Nat.le_refl _
  | succ n ih => unfold zpos; split <;> omega
theorem zpos_after {w p s : Nat → Int} {a : zP3} {n i : Nat} (h1 : zpos w p s a n ≤ i) (h2 : i < n) : ¬ zle (w i, p i, s i) a := by
  induction n with
  | zero => omega
  | succ n ih =>
    unfold zpos at h1
    split at h1
    · omega
    · rename_i hn
      by_cases hi : i = n
      · subst hi; exact hn
      · exact ih h1 (by omega)
theorem zpos_before {w p s : Nat → Int} {a : zP3} {n i : Nat} (h : zpos w p s a n = i + 1) : zle (w i, p i, s i) a := by
  induction n with
  | zero => simp [zpos] at h
  | succ n ih =>
    unfold zpos at h
    split at h
    · rename_i hn
      have : n = i := by omega
      subst this; exact hn
    · exact ih h
theorem zpos_congr {w p s w' p' s' : Nat → Int} {a : zP3} {n : Nat} (h : ∀ i, i < n → w i = w' i ∧ p i = p' i ∧ s i = s' i) : zpos w p s a n = zpos w' p' s' a n := by
  induction n with
  | zero => rfl
  | succ n ih =>
    unfold zpos
    obtain ⟨h1, h2, h3⟩ := h n (by omega)
    rw [h1, h2, h3, ih (fun i hi => h i (by omega))]
def zsh (f : Nat → Int) (pos n : Nat) (v : Int) : Nat → Int := fun j => if j < pos then f j else if j = pos then v else if j ≤ n then f (j - 1) else f j
theorem zrl_sh (w p s : Nat → Int) (a b c : Int) {pos n : Nat} (h : pos ≤ n) : zrl (zsh w pos n a) (zsh p pos n b) (zsh s pos n c) (n + 1) = zrl w p s pos ++ (a, b, c) :: (zrl w p s n).drop pos := by
  apply List.ext_getElem?
  intro i
  rw [zrl_get, List.getElem?_append, zrl_len, zrl_get]
  by_cases h1 : i < pos
  · rw [if_pos h1, if_pos (by omega), if_pos h1]
    simp [zsh, h1]
  · rw [if_neg h1]
    by_cases h2 : i = pos
    · subst h2
      rw [if_pos (by omega)]
      simp [zsh]
    · obtain ⟨k, rfl⟩ : ∃ k, i = pos + (k + 1) := ⟨i - pos - 1, by omega⟩
      rw [show pos + (k + 1) - pos = k + 1 by omega, List.getElem?_cons_succ, List.getElem?_drop, zrl_get]
      by_cases h3 : pos + k < n
      · rw [if_pos (by omega), if_pos h3]
        simp only [zsh]
        rw [if_neg (by omega), if_neg (by omega), if_pos (by omega), if_neg (by omega), if_neg (by omega), if_pos (by omega), if_neg (by omega), if_neg (by omega), if_pos (by omega)]
        rfl
      · rw [if_neg (by omega), if_neg h3]
theorem zrl_ins {w p s : Nat → Int} {n : Nat} (hs : (zrl w p s n).Pairwise zle) (a b c : Int) : zrl (zsh w (zpos w p s (a, b, c) n) n a) (zsh p (zpos w p s (a, b, c) n) n b) (zsh s (zpos w p s (a, b, c) n) n c) (n + 1) = zins (a, b, c) (zrl w p s n) := by
  have hle := zpos_le w p s (a, b, c) n
  rw [zrl_sh w p s a b c hle]
  generalize hpos : zpos w p s (a, b, c) n = pos at hle
  have e : zrl w p s n = zrl w p s pos ++ (zrl w p s n).drop pos := by
    rw [← zrl_take w p s hle, List.take_append_drop]
  rw [e]
  rw [zins_split]
  · rw [← e]
  · intro x hx
    obtain ⟨i, hi, rfl⟩ := zrl_mem hx
    obtain ⟨k, rfl⟩ : ∃ k, pos = k + 1 := ⟨pos - 1, by omega⟩
    have h1 := zpos_before hpos
    by_cases hik : i = k
    · subst hik; exact h1
    · exact zle_trans (zrl_sorted.mp hs i k (by omega) (by omega)) h1
  · intro x hx
    rw [List.head?_drop, zrl_get] at hx
    split at hx
    · rename_i hlt
      cases hx
      exact zpos_after (by rw [hpos]; exact Nat.le_refl _) hlt
    · cases hx
/-- what the shifting of an insertion leaves behind -/
def zsf (f : Nat → Int) (pos i : Nat) : Nat → Int := fun j => if pos < j ∧ j ≤ i then f (j - 1) else f j
theorem zsf_self (f : Nat → Int) (i : Nat) : zsf f i i = f := by
  funext j
  unfold zsf
  rw [if_neg (by omega)]
theorem zsf_step (f : Nat → Int) {pos i : Nat} (h : pos ≤ i) : zsf (zu f ((i + 1 : Nat) : Int) (f i)) pos i = zsf f pos (i + 1) := by
  funext j
  unfold zsf zu
  simp only [zcN]
  by_cases h1 : pos < j ∧ j ≤ i
  · rw [if_pos h1, if_neg (by omega), if_pos (by omega)]
  · rw [if_neg h1]
    by_cases h2 : j = i + 1
    · subst h2
      rw [if_pos rfl, if_pos (by omega)]
      rfl
    · rw [if_neg h2, if_neg (by omega)]
theorem zsf_put (f : Nat → Int) {pos n : Nat} (v : Int) (h : pos ≤ n) : zu (zsf f pos n) (pos : Int) v = zsh f pos n v := by
  funext j
  unfold zsf zu zsh
  simp only [zcN]
  by_cases h1 : j = pos
  · subst h1
    rw [if_pos rfl, if_neg (by omega), if_pos rfl]
  · rw [if_neg h1]
    by_cases h2 : j < pos
    · rw [if_neg (by omega), if_pos h2]
    · rw [if_neg h2, if_neg h1]
      by_cases h3 : j ≤ n
      · rw [if_pos (by omega), if_pos h3]
      · rw [if_neg (by omega), if_neg h3]
/-- what stands in a row: numbers within bounds -/
def zok3 (w p s : Nat → Int) (n : Nat) : Prop := ∀ i, i < n → (-100 ≤ w i ∧ w i ≤ 30000) ∧ (0 ≤ p i ∧ p i ≤ 5) ∧ (0 ≤ s i ∧ s i ≤ 15)
