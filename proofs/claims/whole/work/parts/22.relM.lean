/-! the reference's cells, and what they hold -/
def RMt (M : um_M) (n : Nat) (tr : Nat → Nat → Nat) : Prop := M 0 7 = nI n ∧ n ≤ 24 ∧ ∀ t, t < n → trok (tr t) ∧ M 1 t = nI (tr t 0) ∧ M 2 t = nI (tr t 1) ∧ M 3 t = nI (tr t 2) ∧ M 4 t = nI (tr t 3)
def RMc (M : um_M) (c : Nat) (cm : Nat → Nat → Int32) : Prop := M 0 8 = nI c ∧ c ≤ 6 ∧ ∀ i, i < c → clok (cm i) ∧ M 5 i = cm i 0 ∧ M 6 i = cm i 1 ∧ M 7 i = cm i 2
def RMq (M : um_M) (q : Bq) : Prop := M 0 17 = nI q.1 ∧ (∀ s, s < q.1 → M 8 s = cvI (q.2.1 s) ∧ M 11 s = nI (q.2.2.2.2 s)) ∧ ∀ s, 0 < s → s < q.1 → M 9 s = nI (q.2.2.1 s) ∧ M 10 s = nI (q.2.2.2.1 s)
/-- nothing changed but the space's cells, how many, whether there is one -/
def fME (M M' : um_M) : Prop := (∀ k, 1 ≤ k → k ≤ 7 → M' k = M k) ∧ ∀ j, j ≠ 17 → j ≠ 18 → M' 0 j = M 0 j
theorem fME_rf (M : um_M) : fME M M := ⟨fun _ _ _ => rfl, fun _ _ _ => rfl⟩
theorem fME_s {M M' : um_M} {k j : Nat} {v : Int32} (h : fME M M') (hk : 7 < k) : fME M (um_set M' k j v) := ⟨fun i h1 h2 => by rw [um_k (by omega)]; exact h.1 i h1 h2, fun i h1 h2 => by rw [um_k (by omega)]; exact h.2 i h1 h2⟩
theorem fME_f {M M' : um_M} {j : Nat} {v : Int32} (h : fME M M') (hj : j = 17 ∨ j = 18) : fME M (um_set M' 0 j v) := ⟨fun i h1 h2 => by rw [um_k (by omega)]; exact h.1 i h1 h2, fun i h1 h2 => by rw [um_j (by omega)]; exact h.2 i h1 h2⟩
theorem RMt_f {M M' : um_M} {n : Nat} {tr : Nat → Nat → Nat} (h : RMt M n tr) (hF : fME M M') : RMt M' n tr := by
  refine ⟨by rw [hF.2 7 (by decide) (by decide)]; exact h.1, h.2.1, fun t ht => ?_⟩
  rw [hF.1 1 (by decide) (by decide), hF.1 2 (by decide) (by decide), hF.1 3 (by decide) (by decide), hF.1 4 (by decide) (by decide)]
  exact h.2.2 t ht
theorem RMq_new {M : um_M} {q : Bq} {x : Int32} {s t : Nat} (h : RMq M q) (hs : s < q.1) : RMq (um_set (um_set (um_set (um_set (um_set M 8 q.1 (cvI x)) 9 q.1 (nI s)) 10 q.1 (nI t)) 11 q.1 (nI (q.2.2.2.2 s + 1))) 0 17 (nI (q.1 + 1))) (bnew q x s t) := by
  obtain ⟨h1, h2, h3⟩ := h
  refine ⟨by rw [um_self]; rfl, fun i hi => ?_, fun i h0 hi => ?_⟩
  · have hi : i < q.1 + 1 := hi
    show _ = cvI (va_up q.2.1 q.1 x i) ∧ _ = nI (va_up q.2.2.2.2 q.1 (q.2.2.2.2 s + 1) i)
    unfold va_up
    simp only [um_ap]
    by_cases e : i = q.1
    · subst e; simp
    · simp only [e, if_false, and_false]
      simpa using h2 i (by omega)
  · have hi : i < q.1 + 1 := hi
    show _ = nI (va_up q.2.2.1 q.1 s i) ∧ _ = nI (va_up q.2.2.2.1 q.1 t i)
    unfold va_up
    simp only [um_ap]
    by_cases e : i = q.1
    · subst e; simp
    · simp only [e, if_false, and_false]
      simpa using h3 i h0 (by omega)
theorem RMq_0 {M : um_M} {x : Int32} (h17 : M 0 17 = 1) (h8 : M 8 0 = cvI x) (h11 : M 11 0 = 0) : RMq M (1, fun _ => x, fun _ => 0, fun _ => 0, fun _ => 0) := by
  refine ⟨h17, fun s hs => ?_, fun s h0 hs => ?_⟩
  · have hs : s < 1 := hs
    have e : s = 0 := by omega
    subst e
    exact ⟨h8, h11⟩
  · have hs : s < 1 := hs
    omega
theorem mFind_fnd {M : um_M} {n : Nat} {q : Bq} {x : Int32} (h : RMq M q) (hw : bwf n q) (hx : vst x) : mFind (M 8) q.1 (cvI x) = if fnd q x < q.1 then nI (fnd q x) else (-1 : Int32) := by
  have e : lst (fun i => decide (M 8 i = cvI x)) q.1 = fnd q x := lst_congr (fun j hj => by
    rw [(h.2.1 j hj).1]
    by_cases z : q.2.1 j = x
    · rw [dt z, z]; exact dt rfl
    · rw [df z]; exact df (fun y => z (cv_inj (hw.2.2.1 j hj) hx y)))
  unfold mFind
  rw [e]
theorem brow_next {tr : Nat → Nat → Nat} {s t : Nat} {q q1 : Bq} {r : Option Bq} (h : brow tr s t q = some q1) (h2 : bst tr s t q1 = r) : brow tr s (t + 1) q = r := by
  show (brow tr s t q).bind (bst tr s t) = r
  rw [h]; exact h2
theorem brow_none {tr : Nat → Nat → Nat} {s t : Nat} {q : Bq} (h : brow tr s t q = none) : ∀ d, brow tr s (t + d) q = none := by
  intro d
  induction d with
  | zero => exact h
  | succ d ih => show (brow tr s (t + d) q).bind _ = none; rw [ih]; rfl
theorem bfs_next {n : Nat} {tr : Nat → Nat → Nat} {x0 : Int32} {s : Nat} {q : Bq} {r : Option Bq} (h : bfs n tr x0 s = some q) (hs : s < q.1) (h2 : brow tr s n q = r) : bfs n tr x0 (s + 1) = r := by
  show (bfs n tr x0 s).bind _ = r
  rw [h]
  show (if s < q.1 then brow tr s n q else some q) = r
  rw [if_pos hs]; exact h2
theorem spc_none {n : Nat} {tr : Nat → Nat → Nat} {x0 : Int32} {s t : Nat} {q : Bq} (h : bfs n tr x0 s = some q) (hs : s < q.1) (hk : s < 300) (ht : t ≤ n) (h2 : brow tr s t q = none) : spc n tr x0 = none := by
  have h3 := brow_none h2 (n - t)
  rw [show t + (n - t) = n by omega] at h3
  have h4 := bfs_none (bfs_next h hs h3) (300 - (s + 1))
  rw [show s + 1 + (300 - (s + 1)) = 300 by omega] at h4
  exact h4
theorem spc_some {n : Nat} {tr : Nat → Nat → Nat} {x0 : Int32} {s : Nat} {q : Bq} (h : bfs n tr x0 s = some q) (hs : q.1 ≤ s) (hk : s ≤ 300) : spc n tr x0 = some q := by
  have h4 := bfs_done h hs (300 - s)
  rw [show s + (300 - s) = 300 by omega] at h4
  exact h4
theorem bst_no {tr : Nat → Nat → Nat} {s t : Nat} {q : Bq} (h : ¬ opn tr t (q.2.1 s) = true) : bst tr s t q = some q := by unfold bst; rw [if_neg h]
theorem bst_old {tr : Nat → Nat → Nat} {s t : Nat} {q : Bq} (h : opn tr t (q.2.1 s) = true) (h2 : fnd q (led tr t (q.2.1 s)) < q.1) : bst tr s t q = some q := by unfold bst; rw [if_pos h, if_pos h2]
theorem bst_large {tr : Nat → Nat → Nat} {s t : Nat} {q : Bq} (h : opn tr t (q.2.1 s) = true) (h2 : ¬ fnd q (led tr t (q.2.1 s)) < q.1) (h3 : q.1 = 300) : bst tr s t q = none := by unfold bst; rw [if_pos h, if_neg h2, if_pos h3]
theorem bst_new {tr : Nat → Nat → Nat} {s t : Nat} {q : Bq} (h : opn tr t (q.2.1 s) = true) (h2 : ¬ fnd q (led tr t (q.2.1 s)) < q.1) (h3 : ¬ q.1 = 300) : bst tr s t q = some (bnew q (led tr t (q.2.1 s)) s t) := by unfold bst; rw [if_pos h, if_neg h2, if_neg h3]
