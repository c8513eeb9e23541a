def okq (n : Nat) (tr : Nat → Nat → Nat) (q : Bq) : Prop := ∀ s, s < q.1 → ∀ t, t < n → opn tr t (q.2.1 s) = true → fnd q (led tr t (q.2.1 s)) < q.1
def flG (g : Nat → Int32) (q : Bq) : Nat → Bool := fun s => decide (¬ s_Cm_failsIn g (q.2.1 s) = 0)
noncomputable def a_avo (n : Nat) (tr : Nat → Nat → Nat) (q : Bq) (g : Nat → Int32) (a1 : Int32) : Int32 := if a1 = 0 then (if lst (stB q.1 (nxq n tr q) (flG g q)) q.1 < q.1 then nI (lst (stB q.1 (nxq n tr q) (flG g q)) q.1) else -2) else nI (cnt (stB q.1 (nxq n tr q) (flG g q)) q.1)
theorem fails_congr {g g' : Nat → Int32} {x : Int32} (h : ∀ j, j < 3 → g j = g' j) : s_Cm_failsIn g x = s_Cm_failsIn g' x := by
  unfold s_Cm_failsIn
  rw [h 0 (by decide), h 1 (by decide), h 2 (by decide)]
theorem flG_congr {g g' : Nat → Int32} {q : Bq} (h : ∀ j, j < 3 → g j = g' j) : flG g q = flG g' q := by
  funext s
  unfold flG
  rw [fails_congr h]
/-- st goes on at s: nothing is open, or something leads to st -/
def gOn (k : Nat) (nx : Nat → Int32) (st : Nat → Bool) (s : Nat) : Prop := (∀ t, t < 24 → nx (s * 24 + t) = -2) ∨ ∃ t, t < 24 ∧ ∃ v, v < k ∧ nx (s * 24 + t) = nI v ∧ st v = true
def gNo (k : Nat) (nx : Nat → Int32) (st : Nat → Bool) (s : Nat) : Prop := (∃ t, t < 24 ∧ nx (s * 24 + t) ≠ -2) ∧ ∀ t, t < 24 → nx (s * 24 + t) ≠ -2 → ∃ v, v < k ∧ nx (s * 24 + t) = nI v ∧ st v = false
theorem nxq_is {n : Nat} {tr : Nat → Nat → Nat} {q : Bq} {s t : Nat} (ht : t < n) (hn : n ≤ 24) (ho : opn tr t (q.2.1 s) = true) : nxq n tr q (s * 24 + t) = nI (fnd q (led tr t (q.2.1 s))) := by
  obtain ⟨d1, d2⟩ := dm (s := s) (t := t) (by omega)
  unfold nxq
  rw [d1, d2, if_pos ⟨ht, ho⟩]
theorem gOn_of {n : Nat} {tr : Nat → Nat → Nat} {q : Bq} {s : Nat} {st : Nat → Bool} (hk : q.1 ≤ 300) (h : ∀ t, t < n → ¬ opn tr t (q.2.1 s) = true) : gOn q.1 (nxq n tr q) st s := by
  left
  intro t ht
  rcases Classical.em (nxq n tr q (s * 24 + t) = -2) with z | z
  · exact z
  · obtain ⟨a, b⟩ := (nxq_open hk ht).mp z
    exact absurd b (h t a)
theorem gNo_of {n : Nat} {tr : Nat → Nat → Nat} {q : Bq} {s : Nat} {st : Nat → Bool} (hk : q.1 ≤ 300) (hn : n ≤ 24) (hq : okq n tr q) (hs : s < q.1) (h1 : ∃ t, t < n ∧ opn tr t (q.2.1 s) = true) (h : ∀ t, t < n → opn tr t (q.2.1 s) = true → st (fnd q (led tr t (q.2.1 s))) = false) : gNo q.1 (nxq n tr q) st s := by
  refine ⟨?_, fun t ht z => ?_⟩
  · obtain ⟨t, a, b⟩ := h1
    exact ⟨t, by omega, (nxq_open hk (by omega)).mpr ⟨a, b⟩⟩
  · obtain ⟨a, b⟩ := (nxq_open hk ht).mp z
    exact ⟨_, hq s hs t a b, nxq_is a hn b, h t a b⟩
/-- the end of the reference's rounds -/
theorem rounds_end {k : Nat} {nx : Nat → Int32} {fl st : Nat → Bool} (h1 : ∀ s, s < k → st s = false → Out k nx fl s) (h2 : ∀ s, s < k → st s = true → fl s = false) (h3 : ∀ s, s < k → st s = true → gOn k nx st s) (hk : k ≤ 300) : ∀ s, s < k → st s = stB k nx fl s := by
  have hin : ∀ s, s < k → Out k nx fl s → st s = false := by
    refine out_least (R := fun s => st s = false) (fun s hs z => ?_) (fun s hs a b => ?_)
    · rcases hb : st s with _ | _
      · rfl
      · rw [h2 s hs hb] at z; exact absurd z (by decide)
    · rcases hb : st s with _ | _
      · rfl
      · rcases h3 s hs hb with c | ⟨t, ht, v, hv, e, c⟩
        · obtain ⟨t, ht, z⟩ := a
          exact absurd (c t ht) z
        · obtain ⟨v', hv', e', c'⟩ := b t ht (by rw [e]; exact nI_m2 (by omega))
          rw [e] at e'
          have e'' := (nI_eq (by omega) (by omega)).mp e'
          rw [← e'', c] at c'
          exact absurd c' (by decide)
  intro s hs
  rcases hb : st s with _ | _
  · exact (stB_f (h1 s hs hb)).symm
  · exact (stB_t (fun z => by rw [hin s hs z] at hb; exact absurd hb (by decide))).symm
theorem cnt_mono {p p' : Nat → Bool} {n : Nat} (h : ∀ j, j < n → p j = true → p' j = true) : cnt p n ≤ cnt p' n := by
  induction n with
  | zero => exact Nat.le_refl _
  | succ n ih =>
    have := ih (fun j hj => h j (by omega))
    show (if p n = true then cnt p n + 1 else cnt p n) ≤ (if p' n = true then cnt p' n + 1 else cnt p' n)
    by_cases c : p n = true
    · rw [if_pos c, if_pos (h n (Nat.lt_succ_self n) c)]; omega
    · rw [if_neg c]; split <;> omega
def fMA (M M' : um_M) : Prop := ∀ k, k < 12 → M' k = M k
theorem fMA_rf (M : um_M) : fMA M M := fun _ _ => rfl
theorem fMA_s {M M' : um_M} {j : Nat} {v : Int32} (h : fMA M M') : fMA M (um_set M' 12 j v) := fun i hi => by rw [um_k (by omega)]; exact h i hi
theorem RMt_a {M M' : um_M} {n : Nat} {tr : Nat → Nat → Nat} (h : RMt M n tr) (hF : fMA M M') : RMt M' n tr := by
  unfold RMt
  rw [hF 0 (by decide), hF 1 (by decide), hF 2 (by decide), hF 3 (by decide), hF 4 (by decide)]
  exact h
theorem RMq_a {M M' : um_M} {q : Bq} (h : RMq M q) (hF : fMA M M') : RMq M' q := by
  unfold RMq
  rw [hF 0 (by decide), hF 8 (by decide), hF 9 (by decide), hF 10 (by decide), hF 11 (by decide)]
  exact h
theorem down1 {i : Nat} (h : 0 < i) : nI i - (1 : Int32) = nI (i - 1) := pk_sub (b := 1) h
theorem down2 {i : Nat} (h : 0 < i) : (nI i - (1 : Int32)) + Int32.ofInt (-1) = nI (i - 1) - (1 : Int32) := by
  rw [down1 h, show Int32.ofInt (-1) = -1 by decide, Int32.sub_eq_add_neg]
theorem down0 {i : Nat} (hi : i ≤ 300) (h : nI i - (1 : Int32) < 0) : i = 0 := by
  rcases Nat.eq_zero_or_pos i with z | z
  · exact z
  · rw [down1 z] at h; exact absurd h (nI_pos (by omega))
theorem downn {i : Nat} (h : ¬ nI i - (1 : Int32) < 0) : 0 < i := by
  rcases Nat.eq_zero_or_pos i with z | z
  · rw [z] at h; exact absurd (by decide) h
  · exact z
/-- the least from i on -/
def leastF (st : Nat → Bool) (k i : Nat) (L : Int32) : Prop := (L = -2 ∧ ∀ s, i ≤ s → s < k → st s = false) ∨ ∃ s0, i ≤ s0 ∧ s0 < k ∧ L = nI s0 ∧ st s0 = true ∧ ∀ s, i ≤ s → s < s0 → st s = false
theorem leastF_0 {st : Nat → Bool} {k : Nat} {L : Int32} (h : leastF st k 0 L) : L = if lst st k < k then nI (lst st k) else -2 := by
  rcases h with ⟨e, h⟩ | ⟨s0, _, h2, e, h4, h5⟩
  · rw [lst_all (fun j hj => h j (Nat.zero_le _) hj), if_neg (Nat.lt_irrefl _)]; exact e
  · rw [lst_at h2 h4 (fun j hj => h5 j (Nat.zero_le _) hj), if_pos h2]; exact e
theorem leastF_t {st : Nat → Bool} {k i : Nat} {L : Int32} (hi : i < k) (hs : st i = true) : leastF st k i (nI i) := Or.inr ⟨i, Nat.le_refl _, hi, rfl, hs, fun s a b => by omega⟩
theorem leastF_f {st : Nat → Bool} {k i : Nat} {L : Int32} (hs : st i = false) (h : leastF st k (i + 1) L) : leastF st k i L := by
  rcases h with ⟨e, h⟩ | ⟨s0, h1, h2, e, h4, h5⟩
  · refine Or.inl ⟨e, fun s a b => ?_⟩
    by_cases z : s = i
    · rw [z]; exact hs
    · exact h s (by omega) b
  · refine Or.inr ⟨s0, by omega, h2, e, h4, fun s a b => ?_⟩
    by_cases z : s = i
    · rw [z]; exact hs
    · exact h5 s (by omega) b
