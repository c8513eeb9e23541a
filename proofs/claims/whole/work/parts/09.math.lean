/-! searching and counting below a bound -/
def lst (p : Nat → Bool) : Nat → Nat
  | 0 => 0
  | n + 1 => if lst p n < n then lst p n else if p n = true then n else n + 1
theorem lst_le (p : Nat → Bool) (n : Nat) : lst p n ≤ n := by
  induction n with
  | zero => exact Nat.le_refl _
  | succ n ih => unfold lst; split <;> (try split) <;> omega
theorem lst_no (p : Nat → Bool) (n : Nat) : ∀ j, j < lst p n → p j = false := by
  induction n with
  | zero => intro j h; exact absurd h (Nat.not_lt_zero _)
  | succ n ih =>
    intro j h
    unfold lst at h
    by_cases h1 : lst p n < n
    · rw [if_pos h1] at h; exact ih j h
    · rw [if_neg h1] at h
      have h2 : lst p n = n := Nat.le_antisymm (lst_le p n) (Nat.not_lt.mp h1)
      by_cases h3 : p n = true
      · rw [if_pos h3] at h; exact ih j (by omega)
      · rw [if_neg h3] at h
        by_cases h4 : j = n
        · subst h4; exact Bool.eq_false_iff.mpr h3
        · exact ih j (by omega)
theorem lst_yes (p : Nat → Bool) (n : Nat) : lst p n < n → p (lst p n) = true := by
  induction n with
  | zero => intro h; exact absurd h (Nat.not_lt_zero _)
  | succ n ih =>
    intro h
    unfold lst at h ⊢
    by_cases h1 : lst p n < n
    · rw [if_pos h1]; exact ih h1
    · rw [if_neg h1] at h ⊢
      by_cases h3 : p n = true
      · rw [if_pos h3]; exact h3
      · rw [if_neg h3] at h; exact absurd h (Nat.lt_irrefl _)
theorem lst_at {p : Nat → Bool} {n i : Nat} (hi : i < n) (hp : p i = true) (h : ∀ j, j < i → p j = false) : lst p n = i := by
  have h1 := lst_no p n
  have h2 := lst_yes p n
  have h3 := lst_le p n
  rcases Nat.lt_trichotomy (lst p n) i with q | q | q
  · rw [h _ q] at h2; exact absurd (h2 (by omega)) (by decide)
  · exact q
  · rw [h1 i q] at hp; exact absurd hp (by decide)
theorem lst_all {p : Nat → Bool} {n : Nat} (h : ∀ j, j < n → p j = false) : lst p n = n := by
  have h2 := lst_yes p n
  have h3 := lst_le p n
  rcases Nat.lt_or_ge (lst p n) n with q | q
  · rw [h _ q] at h2; exact absurd (h2 q) (by decide)
  · omega
theorem lst_congr {p q : Nat → Bool} {n : Nat} (h : ∀ j, j < n → p j = q j) : lst p n = lst q n := by
  rcases Nat.lt_or_ge (lst p n) n with c | c
  · exact (lst_at c (by rw [← h _ c]; exact lst_yes p n c) (fun j hj => by rw [← h j (by omega)]; exact lst_no p n j hj)).symm
  · have e : lst p n = n := Nat.le_antisymm (lst_le p n) c
    rw [e]
    exact (lst_all (fun j hj => by rw [← h j hj]; exact lst_no p n j (by omega))).symm
def cnt (p : Nat → Bool) : Nat → Nat
  | 0 => 0
  | n + 1 => if p n = true then cnt p n + 1 else cnt p n
theorem cnt_le (p : Nat → Bool) (n : Nat) : cnt p n ≤ n := by
  induction n with
  | zero => exact Nat.le_refl _
  | succ n ih => unfold cnt; split <;> omega
theorem cnt_t {p : Nat → Bool} {n : Nat} (h : p n = true) : cnt p (n + 1) = cnt p n + 1 := by
  show (if p n = true then cnt p n + 1 else cnt p n) = _; rw [if_pos h]
theorem cnt_f {p : Nat → Bool} {n : Nat} (h : p n = false) : cnt p (n + 1) = cnt p n := by
  show (if p n = true then cnt p n + 1 else cnt p n) = _; rw [h]; rfl
theorem cnt_congr {p q : Nat → Bool} {n : Nat} (h : ∀ j, j < n → p j = q j) : cnt p n = cnt q n := by
  induction n with
  | zero => rfl
  | succ n ih => unfold cnt; rw [h n (Nat.lt_succ_self n), ih (fun j hj => h j (by omega))]
/-- the sum of ints below a bound, the greatest -/
def sm (f : Nat → Int32) : Nat → Int32
  | 0 => 0
  | n + 1 => sm f n + f n
def mx (f : Nat → Int32) : Nat → Int32
  | 0 => 0
  | n + 1 => if mx f n < f n then f n else mx f n
theorem nle {a b : Nat} (h : nI a ≤ nI b) (ha : a < 2 ^ 31) (hb : b < 2 ^ 31) : a ≤ b := (nI_leI ha hb).mp h
theorem nlt {a b : Nat} (h : ¬ nI a ≤ nI b) (ha : a < 2 ^ 31) (hb : b < 2 ^ 31) : b < a := by
  rcases Nat.lt_or_ge b a with q | q
  · exact q
  · exact absurd ((nI_leI ha hb).mpr q) h
theorem dt {P : Prop} [Decidable P] (h : P) : decide P = true := decide_eq_true h
theorem df {P : Prop} [Decidable P] (h : ¬ P) : decide P = false := decide_eq_false h
theorem lt_step {P : Nat → Prop} {i : Nat} (h : ∀ j, j < i → P j) (hi : P i) : ∀ j, j < i + 1 → P j := fun j hj => by
  rcases Nat.lt_or_ge j i with q | q
  · exact h j q
  · have e : j = i := by omega
    subst e; exact hi
theorem lt_zero {P : Nat → Prop} : ∀ j, j < 0 → P j := fun _ h => absurd h (Nat.not_lt_zero _)
