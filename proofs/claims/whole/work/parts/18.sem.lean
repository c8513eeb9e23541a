/-! what both sides compute: states as the class codes them -/
def gX (tr : Nat → Nat → Nat) (t : Nat) : Nat → Int32 := fun j => match j with
  | 0 => nI (tr t 0)
  | 1 => nI (tr t 1)
  | 2 => nI (tr t 2)
  | 3 => nI (tr t 3 / 16)
  | 4 => nI (tr t 3 / 4 % 4)
  | _ => nI (tr t 3 % 4)
def trok (f : Nat → Nat) : Prop := f 0 < 3 ∧ f 1 < 8 ∧ f 2 < 8 ∧ f 3 < 128
def clok (g : Nat → Int32) : Prop := s_Cm_isAsSaid (g 0) (g 1) (g 2) = 1
def opn (tr : Nat → Nat → Nat) (t : Nat) (x : Int32) : Bool := decide (¬ s_Tr_isOpenIn (gX tr t) x = 0)
def led (tr : Nat → Nat → Nat) (t : Nat) (x : Int32) : Int32 := s_Tr_leadsFrom (gX tr t) x
/-- the reference's code of a state -/
def cvN (m : Nat) : Nat := m / 256 % 512 + 512 * (m % 256) + 131072 * (m / 131072)
def cvI (x : Int32) : Int32 := nI (cvN x.toBitVec.toNat)
/-- a state's number is as said: its parts fit, what the channel has not is 0 -/
def vst (x : Int32) : Prop := ∃ m : Nat, x = nI m ∧ m < 8388608 ∧ (m / 131072 % 4 = 0 ∧ m / 524288 = 0 ∨ m / 131072 % 4 = 1 ∧ m / 2097152 = 0 ∨ m / 131072 % 4 = 2)
/-- a space under way: how many states, the states, from where, by what, how far -/
abbrev Bq : Type := Nat × (Nat → Int32) × (Nat → Nat) × (Nat → Nat) × (Nat → Nat)
def fnd (q : Bq) (x : Int32) : Nat := lst (fun i => decide (q.2.1 i = x)) q.1
def bnew (q : Bq) (x : Int32) (s t : Nat) : Bq := (q.1 + 1, va_up q.2.1 q.1 x, va_up q.2.2.1 q.1 s, va_up q.2.2.2.1 q.1 t, va_up q.2.2.2.2 q.1 (q.2.2.2.2 s + 1))
def bst (tr : Nat → Nat → Nat) (s t : Nat) (q : Bq) : Option Bq :=
  if opn tr t (q.2.1 s) = true then (if fnd q (led tr t (q.2.1 s)) < q.1 then some q else if q.1 = 300 then none else some (bnew q (led tr t (q.2.1 s)) s t)) else some q
def brow (tr : Nat → Nat → Nat) (s : Nat) : Nat → Bq → Option Bq
  | 0, q => some q
  | t + 1, q => (brow tr s t q).bind (bst tr s t)
def bfs (n : Nat) (tr : Nat → Nat → Nat) (x0 : Int32) : Nat → Option Bq
  | 0 => some (1, fun _ => x0, fun _ => 0, fun _ => 0, fun _ => 0)
  | s + 1 => (bfs n tr x0 s).bind (fun q => if s < q.1 then brow tr s n q else some q)
def spc (n : Nat) (tr : Nat → Nat → Nat) (x0 : Int32) : Option Bq := bfs n tr x0 300
theorem bfs_none {n : Nat} {tr : Nat → Nat → Nat} {x0 : Int32} {s : Nat} (h : bfs n tr x0 s = none) : ∀ d, bfs n tr x0 (s + d) = none := by
  intro d
  induction d with
  | zero => exact h
  | succ d ih => show (bfs n tr x0 (s + d)).bind _ = none; rw [ih]; rfl
theorem bfs_done {n : Nat} {tr : Nat → Nat → Nat} {x0 : Int32} {s : Nat} {q : Bq} (h : bfs n tr x0 s = some q) (hq : q.1 ≤ s) : ∀ d, bfs n tr x0 (s + d) = some q := by
  intro d
  induction d with
  | zero => exact h
  | succ d ih =>
    show (bfs n tr x0 (s + d)).bind _ = some q
    rw [ih]
    show (if s + d < q.1 then brow tr (s + d) n q else some q) = some q
    rw [if_neg (by omega)]
/-- what holds of a space under way -/
def bwf (n : Nat) (q : Bq) : Prop := 1 ≤ q.1 ∧ q.1 ≤ 300 ∧ (∀ s, s < q.1 → vst (q.2.1 s)) ∧ (∀ i j, i < q.1 → j < q.1 → q.2.1 i = q.2.1 j → i = j) ∧ q.2.2.2.2 0 = 0 ∧ ∀ s, 0 < s → s < q.1 → q.2.2.1 s < s ∧ q.2.2.2.1 s < n ∧ q.2.2.2.2 s = q.2.2.2.2 (q.2.2.1 s) + 1
theorem fnd_at {n : Nat} {q : Bq} (h : bwf n q) {i : Nat} (hi : i < q.1) : fnd q (q.2.1 i) = i :=
  lst_at hi (dt rfl) (fun j hj => df (fun e => by have := h.2.2.2.1 j i (by omega) hi e; omega))
theorem fnd_no {q : Bq} {x : Int32} (h : ¬ fnd q x < q.1) : ∀ i, i < q.1 → q.2.1 i ≠ x := by
  intro i hi e
  have h1 : fnd q x ≤ q.1 := lst_le _ _
  have h2 := lst_no (fun i => decide (q.2.1 i = x)) q.1 i (by show i < fnd q x; omega)
  exact absurd h2 (by rw [dt e]; decide)
theorem fnd_yes {q : Bq} {x : Int32} (h : fnd q x < q.1) : q.2.1 (fnd q x) = x := of_decide_eq_true (lst_yes (fun i => decide (q.2.1 i = x)) q.1 h)
theorem bnew_wf {n : Nat} {q : Bq} {x : Int32} {s t : Nat} (h : bwf n q) (hk : q.1 ≠ 300) (hs : s < q.1) (ht : t < n) (hx : vst x) (hno : ¬ fnd q x < q.1) : bwf n (bnew q x s t) := by
  obtain ⟨h1, h2, h3, h4, h5, h6⟩ := h
  have hno := fnd_no hno
  refine ⟨by show 1 ≤ q.1 + 1; omega, by show q.1 + 1 ≤ 300; omega, ?_, ?_, ?_, ?_⟩
  · intro i hi
    show vst (va_up q.2.1 q.1 x i)
    unfold va_up
    by_cases e : i = q.1
    · rw [if_pos e]; exact hx
    · rw [if_neg e]; exact h3 i (by have : i < q.1 + 1 := hi; omega)
  · intro i j hi hj e
    have hi : i < q.1 + 1 := hi
    have hj : j < q.1 + 1 := hj
    have e : va_up q.2.1 q.1 x i = va_up q.2.1 q.1 x j := e
    unfold va_up at e
    by_cases e1 : i = q.1 <;> by_cases e2 : j = q.1
    · omega
    · rw [if_pos e1, if_neg e2] at e; exact absurd e.symm (hno j (by omega))
    · rw [if_neg e1, if_pos e2] at e; exact absurd e (hno i (by omega))
    · rw [if_neg e1, if_neg e2] at e; exact h4 i j (by omega) (by omega) e
  · show va_up q.2.2.2.2 q.1 _ 0 = 0
    unfold va_up
    rw [if_neg (by omega)]; exact h5
  · intro i h0 hi
    have hi : i < q.1 + 1 := hi
    show va_up q.2.2.1 q.1 s i < i ∧ va_up q.2.2.2.1 q.1 t i < n ∧ va_up q.2.2.2.2 q.1 (q.2.2.2.2 s + 1) i = va_up q.2.2.2.2 q.1 (q.2.2.2.2 s + 1) (va_up q.2.2.1 q.1 s i) + 1
    unfold va_up
    by_cases e : i = q.1
    · rw [if_pos e, if_pos e, if_pos e, if_neg (by omega)]
      exact ⟨by omega, ht, rfl⟩
    · obtain ⟨a, b, c⟩ := h6 i h0 (by omega)
      rw [if_neg e, if_neg e, if_neg e, if_neg (by omega)]
      exact ⟨a, b, c⟩
theorem bst_wf {n : Nat} {tr : Nat → Nat → Nat} {s t : Nat} {q q' : Bq} (hl : ∀ x, vst x → opn tr t x = true → vst (led tr t x)) (h : bwf n q) (hs : s < q.1) (ht : t < n) (e : bst tr s t q = some q') : bwf n q' ∧ q.1 ≤ q'.1 := by
  unfold bst at e
  by_cases c1 : opn tr t (q.2.1 s) = true
  · rw [if_pos c1] at e
    by_cases c2 : fnd q (led tr t (q.2.1 s)) < q.1
    · rw [if_pos c2] at e; cases e; exact ⟨h, Nat.le_refl _⟩
    · rw [if_neg c2] at e
      by_cases c3 : q.1 = 300
      · rw [if_pos c3] at e; cases e
      · rw [if_neg c3] at e; cases e
        exact ⟨bnew_wf h c3 hs ht (hl _ (h.2.2.1 s hs) c1) c2, Nat.le_succ _⟩
  · rw [if_neg c1] at e; cases e; exact ⟨h, Nat.le_refl _⟩
theorem brow_wf {n : Nat} {tr : Nat → Nat → Nat} {s : Nat} {q : Bq} (hl : ∀ t, t < n → ∀ x, vst x → opn tr t x = true → vst (led tr t x)) (h : bwf n q) (hs : s < q.1) : ∀ (t : Nat) (q' : Bq), t ≤ n → brow tr s t q = some q' → bwf n q' ∧ q.1 ≤ q'.1 := by
  intro t
  induction t with
  | zero => intro q' _ e; cases e; exact ⟨h, Nat.le_refl _⟩
  | succ t ih =>
    intro q' ht e
    have e : (brow tr s t q).bind (bst tr s t) = some q' := e
    cases e1 : brow tr s t q with
    | none => rw [e1] at e; cases e
    | some q1 =>
      rw [e1] at e
      obtain ⟨w1, l1⟩ := ih q1 (by omega) e1
      obtain ⟨w2, l2⟩ := bst_wf (hl t (by omega)) w1 (by omega) (by omega) e
      exact ⟨w2, by omega⟩
theorem bfs_wf {n : Nat} {tr : Nat → Nat → Nat} {x0 : Int32} (hl : ∀ t, t < n → ∀ x, vst x → opn tr t x = true → vst (led tr t x)) (h0 : vst x0) : ∀ (s : Nat) (q : Bq), bfs n tr x0 s = some q → bwf n q := by
  intro s
  induction s with
  | zero =>
    intro q e
    cases e
    exact ⟨Nat.le_refl _, by show 1 ≤ 300; decide, fun _ _ => h0, fun i j hi hj _ => by have hi : i < 1 := hi; have hj : j < 1 := hj; omega, rfl, fun s h1 h2 => by have h2 : s < 1 := h2; omega⟩
  | succ s ih =>
    intro q e
    have e : (bfs n tr x0 s).bind (fun q => if s < q.1 then brow tr s n q else some q) = some q := e
    cases e1 : bfs n tr x0 s with
    | none => rw [e1] at e; cases e
    | some q1 =>
      rw [e1] at e
      have e : (if s < q1.1 then brow tr s n q1 else some q1) = some q := e
      have w1 := ih q1 e1
      by_cases c : s < q1.1
      · rw [if_pos c] at e; exact (brow_wf hl w1 c n q (Nat.le_refl _) e).1
      · rw [if_neg c] at e; cases e; exact w1
def inb (a : Int32) (n : Nat) : Bool := decide (¬ a < 0) && decide (a.toNatClampNeg < n)
theorem inb_t {i n : Nat} (hi : i < n) (hn : n < 2 ^ 31) : inb (nI i) n = true := by
  unfold inb
  rw [dt (nI_pos (by omega)), nI_clamp (by omega), dt hi]; rfl
theorem inb_f {a : Int32} {n : Nat} (h : ∀ i, i < n → a ≠ nI i) : inb a n = false := by
  unfold inb
  by_cases h1 : a < 0
  · rw [df (fun q => q h1)]; rfl
  · obtain ⟨j, hj, rfl⟩ := nI_of h1
    rw [nI_clamp hj, df (fun q => h j q rfl), Bool.and_false]
