/-! the class's space: what its cells hold while it is made -/
theorem cnt_all {p : Nat → Bool} {n : Nat} (h : ∀ j, j < n → p j = true) : cnt p n = n := by
  induction n with
  | zero => rfl
  | succ n ih => rw [cnt_t (h n (Nat.lt_succ_self n)), ih (fun j hj => h j (by omega))]
theorem cnt_none {p : Nat → Bool} {n : Nat} (h : ∀ j, j < n → p j = false) : cnt p n = 0 := by
  induction n with
  | zero => rfl
  | succ n ih => rw [cnt_f (h n (Nat.lt_succ_self n)), ih (fun j hj => h j (by omega))]
theorem cnt_one {p p' : Nat → Bool} {n i : Nat} (hi : i < n) (h : ∀ j, j < n → j ≠ i → p' j = p j) (h0 : p i = false) (h1 : p' i = true) : cnt p' n = cnt p n + 1 := by
  induction n with
  | zero => omega
  | succ n ih =>
    by_cases e : i = n
    · subst e
      rw [cnt_t h1, cnt_f h0, cnt_congr (fun j hj => h j (by omega) (by omega))]
    · have e1 := ih (by omega) (fun j hj hn => h j (by omega) hn)
      have e2 := h n (Nat.lt_succ_self n) (fun z => e z.symm)
      show (if p' n = true then cnt p' n + 1 else cnt p' n) = (if p n = true then cnt p n + 1 else cnt p n) + 1
      rw [e2, e1]
      split <;> rfl
def pv (f : Nat → Int32) (v : Int32) : Nat → Int32
  | 0 => -2
  | b + 1 => if f b = v then nI b else pv f v b
theorem pv_congr {f g : Nat → Int32} {v : Int32} {b : Nat} (h : ∀ p, p < b → f p = g p) : pv f v b = pv g v b := by
  induction b with
  | zero => rfl
  | succ b ih =>
    show (if f b = v then nI b else pv f v b) = (if g b = v then nI b else pv g v b)
    rw [h b (Nat.lt_succ_self b), ih (fun p hp => h p (by omega))]
theorem pv_none {f : Nat → Int32} {v : Int32} {b : Nat} (h : ∀ p, p < b → f p ≠ v) : pv f v b = -2 := by
  induction b with
  | zero => rfl
  | succ b ih =>
    show (if f b = v then nI b else pv f v b) = -2
    rw [if_neg (h b (Nat.lt_succ_self b)), ih (fun p hp => h p (by omega))]
def nxq (n : Nat) (tr : Nat → Nat → Nat) (q : Bq) (p : Nat) : Int32 := if p % 24 < n ∧ opn tr (p % 24) (q.2.1 (p / 24)) = true then nI (fnd q (led tr (p % 24) (q.2.1 (p / 24)))) else -2
def ocn (n : Nat) (tr : Nat → Nat → Nat) (q : Bq) (s cur : Nat) : Nat := cnt (fun t => decide (s * 24 + t < cur) && (decide (t < n) && opn tr t (q.2.1 s))) 24
def RXt (X : um_M) (n : Nat) (tr : Nat → Nat → Nat) : Prop := n ≤ 24 ∧ ∀ t, t < n → trok (tr t) ∧ ∀ j, j < 6 → X (17 + t) j = gX tr t j
def RXs (X : um_M) (q : Bq) : Prop := X 3 9 = nI q.1 ∧ (∀ s, s < q.1 → X 4 s = q.2.1 s ∧ X 7 s = nI (q.2.2.2.2 s)) ∧ ∀ s, 0 < s → s < q.1 → X 5 s = nI (q.2.2.1 s) ∧ X 6 s = nI (q.2.2.2.1 s)
def RXh (f : Nat → Int32) (q : Bq) (nn : Nat → Nat) : Prop := (∀ j, j < 1024 → f j = nI (nn j) ∧ nn j ≤ q.1) ∧ (∀ i, i < q.1 → ∃ d, d < 1024 ∧ nn (slx (q.2.1 i) d) = i + 1 ∧ ∀ e, e < d → nn (slx (q.2.1 i) e) ≠ 0) ∧ cnt (fun j => decide (nn j ≠ 0)) 1024 ≤ q.1
def RXp (X : um_M) (n : Nat) (tr : Nat → Nat → Nat) (q : Bq) (cur : Nat) : Prop := (∀ p, p < cur → X 9 p = nxq n tr q p) ∧ (∀ p, p < cur → p % 24 < n → opn tr (p % 24) (q.2.1 (p / 24)) = true → fnd q (led tr (p % 24) (q.2.1 (p / 24))) < q.1) ∧ (∀ s, s < q.1 → X 8 s = nI (ocn n tr q s cur)) ∧ (∀ i, i < q.1 → X 10 i = pv (X 9) (nI i) cur) ∧ ∀ p, p < cur → X 9 p ≠ -2 → X 11 p = pv (X 9) (X 9 p) p
theorem s_open_congr {g g' : Nat → Int32} {x : Int32} (h : ∀ j, j < 6 → g j = g' j) : s_Tr_isOpenIn g x = s_Tr_isOpenIn g' x := by
  unfold s_Tr_isOpenIn s_Tr_allows
  rw [h 0 (by decide), h 1 (by decide), h 3 (by decide), h 4 (by decide), h 5 (by decide)]
theorem s_lead_congr {g g' : Nat → Int32} {x : Int32} (h : ∀ j, j < 6 → g j = g' j) : s_Tr_leadsFrom g x = s_Tr_leadsFrom g' x := by
  unfold s_Tr_leadsFrom s_Tr_withEffect
  rw [h 0 (by decide), h 2 (by decide), h 3 (by decide), h 4 (by decide), h 5 (by decide)]
/-! the hash table -/
theorem ht_find {X : um_M} {n : Nat} {q : Bq} {nn : Nat → Nat} {x : Int32} (hS : RXs X q) (hH : RXh (X 12) q nn) (hw : bwf n q) : s_Sp_numberOf nn (X 3 9) (X 4) x = if fnd q x < q.1 then nI (fnd q x) else (-2 : Int32) := by
  have h1 := hw.1
  have h300 := hw.2.1
  unfold s_Sp_numberOf
  rw [hS.1, if_neg (nI_ne0 (by omega) (by omega))]
  have key : ∀ d, d < 1024 → nn (slx x d) ≠ 0 → X 4 (nn (slx x d) - 1) = x → nn (slx x d) - 1 < q.1 ∧ q.2.1 (nn (slx x d) - 1) = x := by
    intro d hd h0 he
    have hb := (hH.1 (slx x d) (slx_lt _ _)).2
    have hlt : nn (slx x d) - 1 < q.1 := by omega
    exact ⟨hlt, by rw [← (hS.2.1 _ hlt).1]; exact he⟩
  generalize hP : (fun i => decide (nn (slx x i) = 0 ∨ X 4 (nn (slx x i) - 1) = x)) = P
  have hPd : ∀ i, P i = decide (nn (slx x i) = 0 ∨ X 4 (nn (slx x i) - 1) = x) := fun i => by rw [← hP]
  by_cases hf : fnd q x < q.1
  · rw [if_pos hf]
    have hx := fnd_yes hf
    obtain ⟨d1, hd1, e1, e2⟩ := hH.2.1 _ hf
    rw [hx] at e1 e2
    have p1 : P d1 = true := by
      rw [hPd, e1]
      exact dt (Or.inr (by rw [show fnd q x + 1 - 1 = fnd q x by omega, (hS.2.1 _ hf).1]; exact hx))
    have hle : lst P 1024 ≤ d1 := by
      rcases Nat.lt_or_ge d1 (lst P 1024) with z | z
      · have := lst_no P 1024 d1 z
        rw [p1] at this; exact absurd this (by decide)
      · exact z
    have hlt : lst P 1024 < 1024 := by omega
    rw [if_pos hlt]
    have hy := lst_yes P 1024 hlt
    generalize lst P 1024 = d at hle hlt hy
    have h0 : nn (slx x d) ≠ 0 := by
      rcases Nat.lt_or_ge d d1 with z | z
      · exact e2 d z
      · have : d = d1 := by omega
        rw [this, e1]; omega
    rw [if_neg h0]
    rw [hPd] at hy
    have hy := (of_decide_eq_true hy).resolve_left h0
    obtain ⟨k1, k2⟩ := key d hlt h0 hy
    congr 1
    exact hw.2.2.2.1 _ _ k1 hf (by rw [k2, hx])
  · rw [if_neg hf]
    have hno := fnd_no hf
    by_cases hlt : lst P 1024 < 1024
    · rw [if_pos hlt]
      have hy := lst_yes P 1024 hlt
      generalize lst P 1024 = d at hlt hy
      rw [hPd] at hy
      by_cases h0 : nn (slx x d) = 0
      · rw [if_pos h0]
      · obtain ⟨k1, k2⟩ := key d hlt h0 ((of_decide_eq_true hy).resolve_left h0)
        exact absurd k2 (hno _ k1)
    · rw [if_neg hlt]
theorem slx_hit (x : Int32) {j : Nat} (hj : j < 1024) : ∃ i, i < 1024 ∧ slx x i = j := by
  have h := hs0_lt x
  unfold slx
  rcases Nat.lt_or_ge j (hs0 x) with z | z
  · exact ⟨j + 1024 - hs0 x, by omega, by omega⟩
  · exact ⟨j - hs0 x, by omega, by omega⟩
theorem ht_put {X : um_M} {q : Bq} {nn : Nat → Nat} {x : Int32} {s t : Nat} (hH : RXh (X 12) q nn) (hk : q.1 < 300) : ∃ nn', RXh (n_Sp_putIntoSlot X x (nI (q.1 + 1)) 12) (bnew q x s t) nn' := by
  have hlt : lst (fun i => decide (X 12 (slx x i) = 0)) 1024 < 1024 := by
    rcases Nat.lt_or_ge (lst (fun i => decide (X 12 (slx x i) = 0)) 1024) 1024 with z | z
    · exact z
    · have hall : ∀ j, j < 1024 → decide (nn j ≠ 0) = true := by
        intro j hj
        obtain ⟨i, hi, rfl⟩ := slx_hit x hj
        have h1 := lst_no (fun i => decide (X 12 (slx x i) = 0)) 1024 i (by omega)
        have h2 := of_decide_eq_false h1
        exact dt (fun h0 => h2 (by rw [(hH.1 _ (slx_lt x i)).1, h0]; rfl))
      have := cnt_all hall
      have h3 := hH.2.2
      omega
  have hy := of_decide_eq_true (lst_yes (fun i => decide (X 12 (slx x i) = 0)) 1024 hlt)
  have hn := lst_no (fun i => decide (X 12 (slx x i) = 0)) 1024
  unfold n_Sp_putIntoSlot
  rw [if_pos hlt]
  generalize lst (fun i => decide (X 12 (slx x i) = 0)) 1024 = d at hlt hy hn
  have hz : nn (slx x d) = 0 := by
    have e := (hH.1 _ (slx_lt x d)).1
    have hb := (hH.1 _ (slx_lt x d)).2
    rw [hy] at e
    exact ((nI_eq (a := 0) (by decide) (by omega)).mp e).symm
  refine ⟨va_up nn (slx x d) (q.1 + 1), ?_, ?_, ?_⟩
  · intro j hj
    show _ ∧ _ ≤ q.1 + 1
    rw [um_ap]
    unfold va_up
    by_cases e : j = slx x d
    · rw [if_pos ⟨rfl, e⟩, if_pos e]; exact ⟨rfl, Nat.le_refl _⟩
    · rw [if_neg (fun z => e z.2), if_neg e]
      exact ⟨(hH.1 j hj).1, by have := (hH.1 j hj).2; omega⟩
  · intro i hi
    have hi : i < q.1 + 1 := hi
    show ∃ d', d' < 1024 ∧ va_up nn (slx x d) (q.1 + 1) (slx (va_up q.2.1 q.1 x i) d') = i + 1 ∧ ∀ e, e < d' → va_up nn (slx x d) (q.1 + 1) (slx (va_up q.2.1 q.1 x i) e) ≠ 0
    by_cases e : i = q.1
    · refine ⟨d, hlt, ?_, fun e' he' => ?_⟩
      · unfold va_up; rw [if_pos e, if_pos rfl, e]
      · unfold va_up
        rw [if_pos e]
        split
        · omega
        · intro h0
          have h2 := of_decide_eq_false (hn e' he')
          exact h2 (by rw [(hH.1 _ (slx_lt x e')).1, h0]; rfl)
    · obtain ⟨d', h1, h2, h3⟩ := hH.2.1 i (by omega)
      refine ⟨d', h1, ?_, fun e' he' => ?_⟩
      · unfold va_up
        rw [if_neg e, if_neg (fun z => by rw [z, hz] at h2; omega)]
        exact h2
      · unfold va_up
        rw [if_neg e]
        split
        · omega
        · exact h3 e' he'
  · show _ ≤ q.1 + 1
    have h1 : cnt (fun j => decide (va_up nn (slx x d) (q.1 + 1) j ≠ 0)) 1024 = cnt (fun j => decide (nn j ≠ 0)) 1024 + 1 := by
      refine cnt_one (i := slx x d) (slx_lt x d) (fun j _ hj => ?_) (df (fun z => z hz)) (dt ?_)
      · show decide (va_up nn (slx x d) (q.1 + 1) j ≠ 0) = decide (nn j ≠ 0)
        rw [show va_up nn (slx x d) (q.1 + 1) j = nn j from if_neg hj]
      · rw [show va_up nn (slx x d) (q.1 + 1) (slx x d) = q.1 + 1 from if_pos rfl]; omega
    have := hH.2.2
    omega
