/-! which states can't avoid that a claim fails: by rounds -/
def OutJ (k : Nat) (nx : Nat → Int32) (fl : Nat → Bool) : Nat → Nat → Prop
  | 0, s => fl s = true
  | j + 1, s => OutJ k nx fl j s ∨ ((∃ t, t < 24 ∧ nx (s * 24 + t) ≠ -2) ∧ ∀ t, t < 24 → nx (s * 24 + t) ≠ -2 → ∃ v, v < k ∧ nx (s * 24 + t) = nI v ∧ OutJ k nx fl j v)
def Out (k : Nat) (nx : Nat → Int32) (fl : Nat → Bool) (s : Nat) : Prop := ∃ j, OutJ k nx fl j s
noncomputable def stB (k : Nat) (nx : Nat → Int32) (fl : Nat → Bool) (s : Nat) : Bool := @decide (¬ Out k nx fl s) (Classical.propDecidable _)
theorem outJ_up {k : Nat} {nx : Nat → Int32} {fl : Nat → Bool} {j s : Nat} (h : OutJ k nx fl j s) : ∀ d, OutJ k nx fl (j + d) s := by
  intro d
  induction d with
  | zero => exact h
  | succ d ih => exact Or.inl ih
theorem outJ_le {k : Nat} {nx : Nat → Int32} {fl : Nat → Bool} {i j s : Nat} (h : OutJ k nx fl i s) (hij : i ≤ j) : OutJ k nx fl j s := by
  have := outJ_up h (j - i)
  rwa [show i + (j - i) = j by omega] at this
theorem out_fl {k : Nat} {nx : Nat → Int32} {fl : Nat → Bool} {s : Nat} (h : fl s = true) : Out k nx fl s := ⟨0, h⟩
theorem out_rule {k : Nat} {nx : Nat → Int32} {fl : Nat → Bool} {s : Nat} (h1 : ∃ t, t < 24 ∧ nx (s * 24 + t) ≠ -2) (h2 : ∀ t, t < 24 → nx (s * 24 + t) ≠ -2 → ∃ v, v < k ∧ nx (s * 24 + t) = nI v ∧ Out k nx fl v) : Out k nx fl s := by
  have key : ∀ m, m ≤ 24 → ∃ j, ∀ t, t < m → nx (s * 24 + t) ≠ -2 → ∃ v, v < k ∧ nx (s * 24 + t) = nI v ∧ OutJ k nx fl j v := by
    intro m
    induction m with
    | zero => intro _; exact ⟨0, fun t ht => absurd ht (Nat.not_lt_zero _)⟩
    | succ m ih =>
      intro hm
      obtain ⟨j, hj⟩ := ih (by omega)
      by_cases c : nx (s * 24 + m) = -2
      · refine ⟨j, fun t ht hn => ?_⟩
        rcases Nat.lt_or_ge t m with z | z
        · exact hj t z hn
        · have e : t = m := by omega
          subst e; exact absurd c hn
      · obtain ⟨v, a, b, j2, d⟩ := h2 m (by omega) c
        refine ⟨j + j2, fun t ht hn => ?_⟩
        rcases Nat.lt_or_ge t m with z | z
        · obtain ⟨v', a', b', d'⟩ := hj t z hn
          exact ⟨v', a', b', outJ_le d' (by omega)⟩
        · have e : t = m := by omega
          subst e; exact ⟨v, a, b, outJ_le d (by omega)⟩
  obtain ⟨j, hj⟩ := key 24 (Nat.le_refl _)
  exact ⟨j + 1, Or.inr ⟨h1, hj⟩⟩
/-- a set that has what fails, and is closed by the rule, has all of it -/
theorem out_least {k : Nat} {nx : Nat → Int32} {fl : Nat → Bool} {R : Nat → Prop} (h0 : ∀ s, s < k → fl s = true → R s) (h1 : ∀ s, s < k → (∃ t, t < 24 ∧ nx (s * 24 + t) ≠ -2) → (∀ t, t < 24 → nx (s * 24 + t) ≠ -2 → ∃ v, v < k ∧ nx (s * 24 + t) = nI v ∧ R v) → R s) : ∀ s, s < k → Out k nx fl s → R s := by
  have key : ∀ j s, s < k → OutJ k nx fl j s → R s := by
    intro j
    induction j with
    | zero => exact h0
    | succ j ih =>
      intro s hs h
      rcases h with h | ⟨a, b⟩
      · exact ih s hs h
      · exact h1 s hs a (fun t ht hn => by obtain ⟨v, x, y, z⟩ := b t ht hn; exact ⟨v, x, y, ih v x z⟩)
  intro s hs ⟨j, h⟩
  exact key j s hs h
theorem stB_t {k : Nat} {nx : Nat → Int32} {fl : Nat → Bool} {s : Nat} (h : ¬ Out k nx fl s) : stB k nx fl s = true := by
  unfold stB; exact @decide_eq_true _ (Classical.propDecidable _) h
theorem stB_f {k : Nat} {nx : Nat → Int32} {fl : Nat → Bool} {s : Nat} (h : Out k nx fl s) : stB k nx fl s = false := by
  unfold stB; exact @decide_eq_false _ (Classical.propDecidable _) (fun z => z h)
theorem out_congr {k : Nat} {nx : Nat → Int32} {fl fl' : Nat → Bool} (h : ∀ s, s < k → fl s = fl' s) : ∀ s, s < k → (Out k nx fl s ↔ Out k nx fl' s) := by
  intro s hs
  constructor
  · exact out_least (R := Out k nx fl') (fun s hs z => out_fl (by rw [← h s hs]; exact z)) (fun s _ a b => out_rule a b) s hs
  · exact out_least (R := Out k nx fl) (fun s hs z => out_fl (by rw [h s hs]; exact z)) (fun s _ a b => out_rule a b) s hs
/-! the class's way to find them -/
def lfc (nx : Nat → Int32) (cs : Nat → Bool) (s : Nat) : Nat := cnt (fun t => decide (nx (s * 24 + t) ≠ -2) && !cs (s * 24 + t)) 24
def AvI (X : um_M) (nx : Nat → Int32) (fl : Nat → Bool) (k : Nat) (ro : Nat → Bool) (wt : Nat → Nat) (w : Nat) (cs : Nat → Bool) : Prop :=
  (∀ s, s < k → X 14 s = if ro s = true then 1 else 0) ∧ (∀ j, j < w → X 16 j = nI (wt j) ∧ wt j < k ∧ ro (wt j) = true) ∧ (X 13 3 = nI w ∧ w = cnt ro k) ∧ (∀ s, s < k → X 15 s = nI (lfc nx cs s)) ∧ (∀ s, s < k → ro s = true → ∃ j, j < w ∧ wt j = s) ∧ (∀ p, p < k * 24 → cs p = true → ∃ v, v < k ∧ nx p = nI v ∧ ro v = true) ∧ (∀ s, s < k → (∃ t, t < 24 ∧ nx (s * 24 + t) ≠ -2) → lfc nx cs s = 0 → ro s = true) ∧ (∀ s, s < k → ro s = true → Out k nx fl s) ∧ (∀ s, s < k → fl s = true → ro s = true) ∧ ∀ i j, i < w → j < w → wt i = wt j → i = j
theorem cnt_pos {p : Nat → Bool} {n i : Nat} (hi : i < n) (h : p i = true) : 0 < cnt p n := by
  induction n with
  | zero => omega
  | succ n ih =>
    rcases Nat.lt_or_ge i n with z | z
    · have := ih z
      show 0 < if p n = true then cnt p n + 1 else cnt p n
      split <;> omega
    · have e : i = n := by omega
      subst e; rw [cnt_t h]; omega
theorem cnt_zero {p : Nat → Bool} {n : Nat} (h : cnt p n = 0) : ∀ j, j < n → p j = false := by
  intro j hj
  rcases hb : p j with _ | _
  · rfl
  · have := cnt_pos hj hb; omega
theorem cnt_lt {p : Nat → Bool} {n i : Nat} (hi : i < n) (h : p i = false) : cnt p n < n := by
  have e : cnt (fun j => if j = i then true else p j) n = cnt p n + 1 := cnt_one (i := i) hi (fun j _ hj => if_neg hj) h (if_pos rfl)
  have := cnt_le (fun j => if j = i then true else p j) n
  omega
/-- the numbers behind ruleOut -/
theorem AvI_rule {X : um_M} {nx : Nat → Int32} {fl : Nat → Bool} {k : Nat} {ro : Nat → Bool} {wt : Nat → Nat} {w : Nat} {cs : Nat → Bool} {s : Nat} (h1 : ∀ s, s < k → X 14 s = if ro s = true then 1 else 0) (h2 : ∀ j, j < w → X 16 j = nI (wt j) ∧ wt j < k ∧ ro (wt j) = true) (h3 : X 13 3 = nI w ∧ w = cnt ro k) (h4 : ∀ s, s < k → X 15 s = nI (lfc nx cs s)) (h5 : ∀ s, s < k → ro s = true → ∃ j, j < w ∧ wt j = s) (h6 : ∀ p, p < k * 24 → cs p = true → ∃ v, v < k ∧ nx p = nI v ∧ ro v = true) (h7 : ∀ u, u < k → u ≠ s → (∃ t, t < 24 ∧ nx (u * 24 + t) ≠ -2) → lfc nx cs u = 0 → ro u = true) (h8 : ∀ s, s < k → ro s = true → Out k nx fl s) (h9 : ∀ s, s < k → fl s = true → ro s = true) (h10 : ∀ i j, i < w → j < w → wt i = wt j → i = j) (hs : s < k) (ho : Out k nx fl s) : ∃ ro' wt' w', AvI (n_Av_ruleOut X w s) nx fl k ro' wt' w' cs ∧ (∀ u, u < k → ro u = true → ro' u = true) ∧ w ≤ w' ∧ ∀ j, j < w → wt' j = wt j := by
  by_cases c : ro s = true
  · have e : n_Av_ruleOut X w s = X := by
      unfold n_Av_ruleOut
      rw [h1 s hs, if_pos c, if_neg (by decide)]
    rw [e]
    refine ⟨ro, wt, w, ⟨h1, h2, h3, h4, h5, h6, fun u hu a b => ?_, h8, h9, h10⟩, fun _ _ h => h, Nat.le_refl _, fun _ _ => rfl⟩
    by_cases z : u = s
    · rw [z]; exact c
    · exact h7 u hu z a b
  · have c : ro s = false := Bool.eq_false_iff.mpr c
    have e : n_Av_ruleOut X w s = um_set (um_set (um_set X 14 s 1) 16 w (nI s)) 13 3 (nI (w + 1)) := by
      unfold n_Av_ruleOut
      rw [h1 s hs, c, if_pos (by rfl)]
    rw [e]
    have up : ∀ u, u < k → ro u = true → va_up ro s true u = true := fun u _ h => by
      unfold va_up; split
      · rfl
      · exact h
    have ups : va_up ro s true s = true := if_pos rfl
    refine ⟨va_up ro s true, va_up wt w s, w + 1, ⟨fun u hu => ?_, fun j hj => ?_, ⟨um_self, ?_⟩, fun u hu => ?_, fun u hu hr => ?_, fun p hp hc => ?_, fun u hu a b => ?_, fun u hu hr => ?_, fun u hu hr => up u hu (h9 u hu hr), fun i j hi hj e => ?_⟩, up, Nat.le_succ _, fun j hj => if_neg (by omega)⟩
    · rw [um_k (by decide), um_k (by decide), um_ap]
      unfold va_up
      by_cases z : u = s
      · rw [if_pos ⟨rfl, z⟩, if_pos z, if_pos rfl]
      · rw [if_neg (fun y => z y.2), if_neg z]; exact h1 u hu
    · rw [um_k (by decide), um_ap]
      by_cases z : j = w
      · rw [if_pos ⟨rfl, z⟩, show va_up wt w s j = s from if_pos z]
        exact ⟨rfl, hs, ups⟩
      · rw [if_neg (fun y => z y.2), show va_up wt w s j = wt j from if_neg z, um_k (by decide)]
        obtain ⟨a, b, d⟩ := h2 j (by omega)
        exact ⟨a, b, up _ b d⟩
    · rw [cnt_one (p := ro) (p' := va_up ro s true) hs (fun j _ hj => if_neg hj) c ups, h3.2]
    · rw [um_k (by decide), um_k (by decide), um_k (by decide)]; exact h4 u hu
    · by_cases z : u = s
      · exact ⟨w, by omega, by rw [z]; exact if_pos rfl⟩
      · rw [show va_up ro s true u = ro u from if_neg z] at hr
        obtain ⟨j, a, b⟩ := h5 u hu hr
        exact ⟨j, by omega, by rw [← b]; exact if_neg (by omega)⟩
    · obtain ⟨v, a, b, d⟩ := h6 p hp hc
      exact ⟨v, a, b, up v a d⟩
    · by_cases z : u = s
      · rw [z]; exact ups
      · exact up u hu (h7 u hu z a b)
    · by_cases z : u = s
      · rw [z]; exact ho
      · rw [show va_up ro s true u = ro u from if_neg z] at hr
        exact h8 u hu hr
    · unfold va_up at e
      by_cases z1 : i = w <;> by_cases z2 : j = w
      · omega
      · rw [if_pos z1, if_neg z2] at e
        have := (h2 j (by omega)).2.2
        rw [← e, c] at this; exact absurd this (by decide)
      · rw [if_neg z1, if_pos z2] at e
        have := (h2 i (by omega)).2.2
        rw [e, c] at this; exact absurd this (by decide)
      · rw [if_neg z1, if_neg z2] at e
        exact h10 i j (by omega) (by omega) e
