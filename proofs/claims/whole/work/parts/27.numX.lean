def nfP (X X' : um_M) (nn : Nat → Nat) (k f : Nat) (a0 a2 r : Int32) : Prop := (¬ s_Sp_numberOf nn (X 3 9) (X 4) a0 = -2 → r = s_Sp_numberOf nn (X 3 9) (X 4) a0 ∧ X = X') ∧ (s_Sp_numberOf nn (X 3 9) (X 4) a0 = -2 → k = 300 → r = -2 ∧ X = X') ∧ (s_Sp_numberOf nn (X 3 9) (X 4) a0 = -2 → k ≠ 300 → r = nI k ∧ n_Sp_append X k a0 (nI f) a2 (X 7 f + 1) = X')
theorem nf_some {M X X' : um_M} {n : Nat} {tr : Nat → Nat → Nat} {q : Bq} {nn : Nat → Nat} {s t : Nat} {r : Int32} (hS : RXs X q) (hH : RXh (X 12) q nn) (hP : RXp X n tr q (s * 24 + t)) (hF : fXE M X) (hw : bwf n q) (hs : s < q.1) (ht : t < n) (hn : n ≤ 24) (ho : opn tr t (q.2.1 s) = true) (hp : nfP X X' nn q.1 s (led tr t (q.2.1 s)) (nI t) r) (hr : ¬ r = -2) :
    ∃ q2 u, bst tr s t q = some q2 ∧ r = nI u ∧ fnd q2 (led tr t (q2.2.1 s)) = u ∧ u < q2.1 ∧ RXs X' q2 ∧ (∃ nn2, RXh (X' 12) q2 nn2) ∧ RXp X' n tr q2 (s * 24 + t) ∧ fXE M X' ∧ s < q2.1 ∧ opn tr t (q2.2.1 s) = true := by
  have hN := ht_find (x := led tr t (q.2.1 s)) hS hH hw
  obtain ⟨p1, p2, p3⟩ := hp
  have hk := hw.2.1
  by_cases c : fnd q (led tr t (q.2.1 s)) < q.1
  · rw [if_pos c] at hN
    rw [hN] at p1
    obtain ⟨e1, e2⟩ := p1 (nI_m2 (by omega))
    subst e2
    exact ⟨q, fnd q (led tr t (q.2.1 s)), bst_old ho c, e1, rfl, c, hS, ⟨nn, hH⟩, hP, hF, hs, ho⟩
  · rw [if_neg c] at hN
    by_cases c3 : q.1 = 300
    · exact absurd (p2 hN c3).1 hr
    · obtain ⟨e1, e2⟩ := p3 hN c3
      rw [(hS.2.1 s hs).2, nI_1] at e2
      subst e2
      have eS : (bnew q (led tr t (q.2.1 s)) s t).2.1 s = q.2.1 s := if_neg (by omega)
      refine ⟨bnew q (led tr t (q.2.1 s)) s t, q.1, bst_new ho c c3, e1, ?_, ?_, RXs_app hS, RXh_app hH (by omega), RXp_app hP (by omega) (by omega), fXE_app hF, ?_, ?_⟩
      · rw [eS]; exact fnd_self c
      · show q.1 < q.1 + 1; omega
      · show s < q.1 + 1; omega
      · rw [eS]; exact ho
theorem nf_none {M X X' : um_M} {n : Nat} {tr : Nat → Nat → Nat} {q : Bq} {nn : Nat → Nat} {s t : Nat} {r : Int32} (hS : RXs X q) (hH : RXh (X 12) q nn) (hF : fXE M X) (hw : bwf n q) (ho : opn tr t (q.2.1 s) = true) (hp : nfP X X' nn q.1 s (led tr t (q.2.1 s)) (nI t) r) (hr : r = -2) : bst tr s t q = none ∧ fXE M X' ∧ X' 12 = X 12 := by
  have hN := ht_find (x := led tr t (q.2.1 s)) hS hH hw
  obtain ⟨p1, p2, p3⟩ := hp
  have hk := hw.2.1
  by_cases c : fnd q (led tr t (q.2.1 s)) < q.1
  · rw [if_pos c] at hN
    rw [hN] at p1
    obtain ⟨e1, e2⟩ := p1 (nI_m2 (by omega))
    exact absurd (e1.symm.trans hr) (nI_m2 (by omega))
  · rw [if_neg c] at hN
    by_cases c3 : q.1 = 300
    · obtain ⟨e1, e2⟩ := p2 hN c3
      subst e2
      exact ⟨bst_large ho c c3, hF, rfl⟩
    · exact absurd ((p3 hN c3).1.symm.trans hr) (nI_m2 (by omega))
theorem min_step {tr : Nat → Nat → Nat} {s t n : Nat} {q q1 : Bq} {r : Option Bq} (h : brow tr s (min t n) q = some q1) (ht : t < n) (h2 : bst tr s t q1 = r) : brow tr s (min (t + 1) n) q = r := by
  rw [show min t n = t by omega] at h
  rw [show min (t + 1) n = t + 1 by omega]
  exact brow_next h h2
theorem min_stay {tr : Nat → Nat → Nat} {s t n : Nat} {q q1 : Bq} (h : brow tr s (min t n) q = some q1) (ht : ¬ t < n) : brow tr s (min (t + 1) n) q = some q1 := by
  rw [show min (t + 1) n = min t n by omega]; exact h
